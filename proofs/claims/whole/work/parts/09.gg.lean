/-! THE JUDGEMENT GG: a method's activation over the pure heap. M: the method's bytes, its class, its locals, its answer's type, whether it is a constructor, its depth of calls, its cells and slots. -/
abbrev gl_M : Type := ByteArray × String × Nat × Option FieldType × Bool × Nat × Nat × Nat
abbrev gl_X : Type := Program × Launch × Env × Room × State × MethodId × Array Value × List Frame × Method × Code × va_G × (Nat → ClassId) × (Nat → Prop) × (Nat → Nat) × gl_H
def gl_AT (j : Nat) : Int32 := if j = 0 then 60 else if j = 1 then 60 else if j = 2 then 5 else if j = 3 then 20 else if j = 4 then 2000 else if j = 5 then 300 else 2
def gl_LE (j : Nat) : Int32 := if j = 6 then 1 else 0
def gl_MO (j : Nat) : Int32 := if j = 0 then 120 else if j = 1 then 999 else if j = 2 then 99 else if j = 3 then 99 else if j = 4 then 9999 else if j = 5 then 9999 else 9
def gl_LT (j : Nat) : Int32 := if j = 0 then 119 else if j = 1 then 115 else if j = 2 then 100 else if j = 3 then 108 else if j = 4 then 112 else if j = 5 then 113 else 114
/-- what is read only: the static arrays at the places 1000000 .. 1000003; and words of the tables that no list holds -/
def gl_Ext (A : Nat → Prop) (ad : Nat → Nat) (U : State) (H : Heap) : Prop :=
  (va_Z RX2 "AT_FIRST" "[I" (.ref (ad 1000000)) A U H ∧ va_T .int (ad 1000000) 7 (fun j => .int (gl_AT j)) A U H) ∧
  (va_Z RX2 "LEAST" "[I" (.ref (ad 1000001)) A U H ∧ va_T .int (ad 1000001) 7 (fun j => .int (gl_LE j)) A U H) ∧
  (va_Z RX2 "MOST" "[I" (.ref (ad 1000002)) A U H ∧ va_T .int (ad 1000002) 7 (fun j => .int (gl_MO j)) A U H) ∧
  (va_Z RX2 "LETTERS" "[C" (.ref (ad 1000003)) A U H ∧ va_T .char (ad 1000003) 7 (fun j => .int (gl_LT j)) A U H) ∧
  (va_AO RX4 U ∧ va_AO RX0 U ∧ va_AOA .long U) ∧
  (va_Nw (.methodLinkNest RX6 9 yX3_init RX6) U ∧ va_Nw (.methodLinkNest RX6 37 yX5_init RX6) U ∧ va_Nw (.methodLinkNest RX6 44 yX1_init RX6) U ∧ va_Nw (.methodLinkNest RX4 48 yX6_hasBit RX6) U ∧ va_Nw (.methodLinkNest RX1 58 yX6_hasBit RX6) U)
theorem va_AOA.spec {ty : FieldType} {s : State} (h : va_AOA ty s) : ∃ comp c k, s.vm.findClass (FieldType.array ty).toString = some comp ∧ (s.vm.classes.findIdx? fun x => match x.kind with | .array component _ => component == comp | _ => false) = some c ∧ s.vm.classes[c]? = some k ∧ k.kind = .array comp (.array ty) ∧ s.vm.findClass ("[" ++ (FieldType.array ty).toString) = some c := by
  unfold va_AOA Cond.before Cond.holds at h
  simp only [Cond.value, beq_iff_eq] at h
  cases hc : s.vm.findClass (FieldType.array ty).toString with
  | none => simp [hc] at h
  | some comp =>
    simp only [hc, Option.bind_some, Option.bind_eq_some_iff, Option.map_eq_some_iff] at h
    obtain ⟨c, hi, k, hk, hb⟩ := h
    obtain ⟨hlt, hp, -⟩ := Array.findIdx?_eq_some_iff_getElem.mp hi
    have hkk : s.vm.classes[c] = k := (Array.getElem?_eq_some_iff.mp hk).2
    rw [hkk] at hp
    cases hkind : k.kind with
    | array component t =>
      rw [hkind] at hb hp
      simp at hb hp
      exact ⟨comp, c, k, rfl, hi, hk, by rw [hkind, hp, hb.1], hb.2⟩
    | _ => rw [hkind] at hb; simp at hb
theorem va_AOA.moved {ty : FieldType} {u U : State} (hvm : u.vm.Alike U.vm) (h : va_AOA ty u) : va_AOA ty U := by
  obtain ⟨comp, c, k, h1, h2, h3, h4, h5⟩ := va_AOA.spec h
  obtain ⟨k', hk', he⟩ := hvm.2.2 _ _ h3
  have hi : (U.vm.classes.findIdx? fun (x : Class) => match x.kind with | .array component _ => component == comp | _ => false) = some c := by
    refine (va_idx_bare U.vm comp).symm.trans ?_
    have e : U.vm.bare = u.vm.bare := by first | exact hvm.bare_eq | exact hvm.bare_eq.symm
    rw [e]
    exact (va_idx_bare u.vm comp).trans h2
  have hkind : k'.kind = .array comp (.array ty) := by rw [he]; exact h4
  have f1 : U.vm.findClass (FieldType.array ty).toString = some comp := by rw [hvm.findClass]; exact h1
  have f2 : U.vm.findClass ("[" ++ (FieldType.array ty).toString) = some c := by rw [hvm.findClass]; exact h5
  unfold va_AOA Cond.before Cond.holds
  simp only [Cond.value]
  rw [f1, Option.bind_some]
  refine (congrArg (fun o : Option Nat => (o.bind (fun c => (U.vm.classes[c]?).map fun (k : Class) => match k.kind with | .array _ t => decide (t = FieldType.array ty) && decide (U.vm.findClass ("[" ++ (FieldType.array ty).toString) = some c) | _ => false) == some true)) hi).trans ?_
  simp [hk', hkind, f2]
theorem gl_Ext.warm {A B : Nat → Prop} {ad ad' : Nat → Nat} {s U : State} {H H1 : Heap} (h : gl_Ext A ad s H) (hW : s.WarmedH U.vm) (hq : ∀ a : Nat, a < H.size → ¬ A a → H1[a]? = H[a]?) (hB : ∀ q, B q → A q) (hd : ∀ p, gl_xt p → ad' p = ad p) : gl_Ext B ad' U H1 := by
  obtain ⟨⟨a1, a2⟩, ⟨b1, b2⟩, ⟨c1, c2⟩, ⟨d1, d2⟩, ⟨e1, e2, e3⟩, f1, f2, f3, f4, f5⟩ := h
  have g0 := hd 1000000 (by unfold gl_xt; omega)
  have g1 := hd 1000001 (by unfold gl_xt; omega)
  have g2 := hd 1000002 (by unfold gl_xt; omega)
  have g3 := hd 1000003 (by unfold gl_xt; omega)
  unfold gl_Ext
  rw [g0, g1, g2, g3]
  have al := hW.alike
  exact ⟨⟨((a1.moved al).kept hq).narrow hB, ((a2.moved al).kept hq).narrow hB⟩, ⟨((b1.moved al).kept hq).narrow hB, ((b2.moved al).kept hq).narrow hB⟩, ⟨((c1.moved al).kept hq).narrow hB, ((c2.moved al).kept hq).narrow hB⟩, ⟨((d1.moved al).kept hq).narrow hB, ((d2.moved al).kept hq).narrow hB⟩, ⟨e1.moved al, e2.moved al, va_AOA.moved al e3⟩, f1.warmM hW, f2.warmM hW, f3.warmM hW, f4.warmM hW, f5.warmM hW⟩
theorem gl_Ext.same {A : Nat → Prop} {ad : Nat → Nat} {s U : State} {H : Heap} (h : gl_Ext A ad s H) (hv : s.vm = U.vm) : gl_Ext A ad U H := by
  obtain ⟨⟨a1, a2⟩, ⟨b1, b2⟩, ⟨c1, c2⟩, ⟨d1, d2⟩, ⟨e1, e2, e3⟩, f1, f2, f3, f4, f5⟩ := h
  have al : s.vm.Alike U.vm := by rw [← hv]; exact Vm.Alike.refl _
  exact ⟨⟨a1.moved al, a2.moved al⟩, ⟨b1.moved al, b2.moved al⟩, ⟨c1.moved al, c2.moved al⟩, ⟨d1.moved al, d2.moved al⟩, ⟨e1.moved al, e2.moved al, va_AOA.moved al e3⟩, f1.same rfl hv, f2.same rfl hv, f3.same rfl hv, f4.same rfl hv, f5.same rfl hv⟩
/-- since S0 at ad0: no place is lost, none has moved -/
def gl_Ag (S0 : gl_H) (ad0 : Nat → Nat) (S : gl_H) (ad : Nat → Nat) : Prop := ∀ p, (S0 p ≠ none → S p ≠ none) ∧ ((S0 p ≠ none ∨ gl_xt p) → ad p = ad0 p)
/-- the locals: by their places, none where nothing is known -/
def gl_as : Nat → List (Option Value) → List (Nat × Value)
  | _, [] => []
  | n, none :: t => gl_as (n + 1) t
  | n, some v :: t => (n, v) :: gl_as (n + 1) t
def gl_lk : List (Option Value) → Nat → Option Value
  | [], _ => none
  | a :: _, 0 => a
  | _ :: t, i + 1 => gl_lk t i
def gl_cut (a : Option Value) : Option Value := match a with
  | some (.long _) => none
  | some (.double _) => none
  | a => a
/-- a value of one word -/
def gl_s1 : List (Option Value) → Nat → Value → List (Option Value)
  | [], _, _ => []
  | _ :: t, 0, v => some v :: t
  | a :: t, 1, v => gl_cut a :: gl_s1 t 0 v
  | a :: t, i + 2, v => a :: gl_s1 t (i + 1) v
/-- a value of two words -/
def gl_s2 : List (Option Value) → Nat → Value → List (Option Value)
  | [], _, _ => []
  | _ :: [], 0, v => [some v]
  | _ :: _ :: t, 0, v => some v :: none :: t
  | a :: t, 1, v => gl_cut a :: gl_s2 t 0 v
  | a :: t, i + 2, v => a :: gl_s2 t (i + 1) v
def gl_ma (ad : Nat → Nat) (l : List (Nat × Value)) : List (Nat × Value) := l.map (fun q => (q.1, gl_mv ad q.2))
def gl_Ok (M : gl_M) (x : gl_X) : Prop := match x with
  | (p, l, e, R, s, m, args, below, meth, c, D, K, A, ad0, S0) => p.tables.exec = Jvm.exec ∧ c.code = M.1 ∧ c.maxLocals = M.2.2.1 ∧ meth.sig.returnType = M.2.2.2.1 ∧ s.vm.findClass M.2.1 = some m.cls ∧ (∀ w ∈ gl_T, w.before args s = true) ∧ meth.locks = false ∧ (M.2.2.2.2.1 = true → meth.name = "<init>") ∧ (M.2.2.2.2.2.1 ≤ R.frames ∧ 40 * M.2.2.2.2.2.1 ≤ R.locals ∧ R.cells = M.2.2.2.2.2.2.1 ∧ R.slots = M.2.2.2.2.2.2.2) ∧ va_K D gl_cl (gl_ty K) s ∧ (∀ q, s.heap.size ≤ q → A q) ∧ gl_Ext A ad0 s s.heap
def GG (M : gl_M) (x : gl_X) (Z : State → Prop) (pc : Nat) (ls : List (Option Value)) (st : List Value) (S : gl_H) (k : Nat × Nat) : Prop := gl_Ok M x → match x with
  | (p, l, e, R, s, m, args, below, meth, c, D, K, A, ad0, S0) => ∀ (ad : Nat → Nat) (H : Heap) (locs : List Loc) (LS : Array Slot), gl_R D K A ad S H → va_S A s.heap H locs → gl_Ag S0 ad0 S ad → (∀ v ∈ st, gl_bd S v) → (∀ q ∈ gl_as 0 ls, gl_bd S q.2) → lv_has LS M.2.2.1 (gl_ma ad (gl_as 0 ls)) → W p l e R s m args below meth c H locs k.1 k.2 Z (F0 m pc LS (st.map (gl_mv ad)))
theorem gl_lk_as : ∀ {ls : List (Option Value)} {i : Nat} {v : Value} (n : Nat), gl_lk ls i = some v → (n + i, v) ∈ gl_as n ls
  | [], _, _, _, h => by cases h
  | none :: _, 0, _, _, h => by cases h
  | some w :: t, 0, v, n, h => by
    cases h
    exact List.mem_cons_self
  | none :: t, i + 1, v, n, h => by
    have := gl_lk_as (ls := t) (i := i) (n + 1) h
    rw [show n + (i + 1) = n + 1 + i by omega]
    exact this
  | some w :: t, i + 1, v, n, h => by
    have := gl_lk_as (ls := t) (i := i) (n + 1) h
    rw [show n + (i + 1) = n + 1 + i by omega]
    exact List.mem_cons_of_mem _ this
theorem gl_lk_at {ls : List (Option Value)} {LS : Array Slot} {nL i : Nat} {v : Value} {ad : Nat → Nat} (h : lv_has LS nL (gl_ma ad (gl_as 0 ls))) (hv : gl_lk ls i = some v) : LS[i]? = some (.val (gl_mv ad v)) := by
  have := gl_lk_as 0 hv
  rw [Nat.zero_add] at this
  exact h.2.2 (i, gl_mv ad v) (List.mem_map.mpr ⟨(i, v), this, rfl⟩)
theorem gl_as_ge : ∀ {ls : List (Option Value)} {n : Nat} {q : Nat × Value}, q ∈ gl_as n ls → n ≤ q.1
  | [], _, _, h => by cases h
  | none :: t, n, q, h => Nat.le_of_succ_le (gl_as_ge (ls := t) h)
  | some v :: t, n, q, h => by
    rcases List.mem_cons.mp h with e | e
    · rw [e]; exact Nat.le_refl n
    · exact Nat.le_of_succ_le (gl_as_ge (ls := t) e)
theorem gl_cut_in {a : Option Value} {v : Value} (h : gl_cut a = some v) : a = some v ∧ v.category = 1 := by
  match a, h with
  | none, h => cases h
  | some (.int x), h => cases h; exact ⟨rfl, rfl⟩
  | some (.ref x), h => cases h; exact ⟨rfl, rfl⟩
  | some .null, h => cases h; exact ⟨rfl, rfl⟩
  | some (.float x), h => cases h; exact ⟨rfl, rfl⟩
  | some (.retAddr x), h => cases h; exact ⟨rfl, rfl⟩
theorem gl_s1_in : ∀ {ls : List (Option Value)} {i n : Nat} {v : Value} {q : Nat × Value}, q ∈ gl_as n (gl_s1 ls i v) → q = (n + i, v) ∨ (q ∈ gl_as n ls ∧ q.1 ≠ n + i ∧ ¬ (q.1 + 1 = n + i ∧ q.2.category = 2))
  | [], _, _, _, _, h => by cases h
  | a :: t, 0, n, v, q, h => by
    rcases List.mem_cons.mp (show q ∈ (n, v) :: gl_as (n + 1) t from h) with e | e
    · exact Or.inl e
    · have hg := gl_as_ge e
      refine Or.inr ⟨?_, by omega, by omega⟩
      cases a with
      | none => exact e
      | some w => exact List.mem_cons_of_mem _ e
  | a :: t, 1, n, v, q, h => by
    have h' : q ∈ gl_as n (gl_cut a :: gl_s1 t 0 v) := h
    have hh : (∃ w, gl_cut a = some w ∧ q = (n, w)) ∨ q ∈ gl_as (n + 1) (gl_s1 t 0 v) := by
      cases hc : gl_cut a with
      | none => rw [hc] at h'; exact Or.inr h'
      | some w =>
        rw [hc] at h'
        rcases List.mem_cons.mp h' with e | e
        · exact Or.inl ⟨w, rfl, e⟩
        · exact Or.inr e
    rcases hh with ⟨w, hw, e⟩ | e
    · obtain ⟨ha, hcat⟩ := gl_cut_in hw
      refine Or.inr ⟨?_, ?_, ?_⟩
      · rw [ha, e]; exact List.mem_cons_self
      · rw [e]; show n ≠ n + 1; omega
      · rw [e]; show ¬ (n + 1 = n + 1 ∧ w.category = 2); rw [hcat]; exact fun z => by cases z.2
    · rcases gl_s1_in (ls := t) (i := 0) (n := n + 1) e with r | ⟨r1, r2, r3⟩
      · exact Or.inl r
      · refine Or.inr ⟨?_, r2, r3⟩
        cases a with
        | none => exact r1
        | some w => exact List.mem_cons_of_mem _ r1
  | a :: t, i + 2, n, v, q, h => by
    have h' : q ∈ gl_as n (a :: gl_s1 t (i + 1) v) := h
    have hh : (∃ w, a = some w ∧ q = (n, w)) ∨ q ∈ gl_as (n + 1) (gl_s1 t (i + 1) v) := by
      cases a with
      | none => exact Or.inr h'
      | some w =>
        rcases List.mem_cons.mp h' with e | e
        · exact Or.inl ⟨w, rfl, e⟩
        · exact Or.inr e
    rcases hh with ⟨w, hw, e⟩ | e
    · refine Or.inr ⟨?_, ?_, ?_⟩
      · rw [hw, e]; exact List.mem_cons_self
      · rw [e]; show n ≠ _; omega
      · rw [e]; show ¬ (n + 1 = _ ∧ _); omega
    · rcases gl_s1_in (ls := t) (i := i + 1) (n := n + 1) e with r | ⟨r1, r2, r3⟩
      · exact Or.inl (by rw [r]; congr 1; omega)
      · refine Or.inr ⟨?_, by omega, fun z => r3 ⟨by omega, z.2⟩⟩
        cases a with
        | none => exact r1
        | some w => exact List.mem_cons_of_mem _ r1
theorem gl_s2_in : ∀ {ls : List (Option Value)} {i n : Nat} {v : Value} {q : Nat × Value}, q ∈ gl_as n (gl_s2 ls i v) → q = (n + i, v) ∨ (q ∈ gl_as n ls ∧ q.1 ≠ n + i ∧ q.1 ≠ n + i + 1 ∧ ¬ (q.1 + 1 = n + i ∧ q.2.category = 2))
  | [], _, _, _, _, h => by cases h
  | a :: [], 0, n, v, q, h => by
    rcases List.mem_cons.mp (show q ∈ (n, v) :: [] from h) with e | e
    · exact Or.inl e
    · cases e
  | a :: b :: t, 0, n, v, q, h => by
    rcases List.mem_cons.mp (show q ∈ (n, v) :: gl_as (n + 1 + 1) t from h) with e | e
    · exact Or.inl e
    · have hg := gl_as_ge e
      refine Or.inr ⟨?_, by omega, by omega, by omega⟩
      have hb : q ∈ gl_as (n + 1) (b :: t) := by
        cases b with
        | none => exact e
        | some w => exact List.mem_cons_of_mem _ e
      cases a with
      | none => exact hb
      | some w => exact List.mem_cons_of_mem _ hb
  | a :: t, 1, n, v, q, h => by
    have h' : q ∈ gl_as n (gl_cut a :: gl_s2 t 0 v) := by
      cases t <;> exact h
    have hh : (∃ w, gl_cut a = some w ∧ q = (n, w)) ∨ q ∈ gl_as (n + 1) (gl_s2 t 0 v) := by
      cases hc : gl_cut a with
      | none => rw [hc] at h'; exact Or.inr h'
      | some w =>
        rw [hc] at h'
        rcases List.mem_cons.mp h' with e | e
        · exact Or.inl ⟨w, rfl, e⟩
        · exact Or.inr e
    rcases hh with ⟨w, hw, e⟩ | e
    · obtain ⟨ha, hcat⟩ := gl_cut_in hw
      refine Or.inr ⟨?_, ?_, ?_, ?_⟩
      · rw [ha, e]; exact List.mem_cons_self
      · rw [e]; show n ≠ n + 1; omega
      · rw [e]; show n ≠ n + 1 + 1; omega
      · rw [e]; show ¬ (n + 1 = n + 1 ∧ w.category = 2); rw [hcat]; exact fun z => by cases z.2
    · rcases gl_s2_in (ls := t) (i := 0) (n := n + 1) e with r | ⟨r1, r2, r4, r3⟩
      · exact Or.inl r
      · refine Or.inr ⟨?_, r2, r4, r3⟩
        cases a with
        | none => exact r1
        | some w => exact List.mem_cons_of_mem _ r1
  | a :: t, i + 2, n, v, q, h => by
    have h' : q ∈ gl_as n (a :: gl_s2 t (i + 1) v) := by
      cases t <;> exact h
    have hh : (∃ w, a = some w ∧ q = (n, w)) ∨ q ∈ gl_as (n + 1) (gl_s2 t (i + 1) v) := by
      cases a with
      | none => exact Or.inr h'
      | some w =>
        rcases List.mem_cons.mp h' with e | e
        · exact Or.inl ⟨w, rfl, e⟩
        · exact Or.inr e
    rcases hh with ⟨w, hw, e⟩ | e
    · refine Or.inr ⟨?_, ?_, ?_, ?_⟩
      · rw [hw, e]; exact List.mem_cons_self
      · rw [e]; show n ≠ _; omega
      · rw [e]; show n ≠ _; omega
      · rw [e]; show ¬ (n + 1 = _ ∧ _); omega
    · rcases gl_s2_in (ls := t) (i := i + 1) (n := n + 1) e with r | ⟨r1, r2, r4, r3⟩
      · exact Or.inl (by rw [r]; congr 1; omega)
      · refine Or.inr ⟨?_, by omega, by omega, fun z => r3 ⟨by omega, z.2⟩⟩
        cases a with
        | none => exact r1
        | some w => exact List.mem_cons_of_mem _ r1
theorem gl_mv_cat (ad : Nat → Nat) (v : Value) : (gl_mv ad v).category = v.category := by cases v <;> rfl
theorem gl_s1_has {LS : Array Slot} {nL i : Nat} {ls : List (Option Value)} {v : Value} {ad : Nat → Nat} (h : lv_has LS nL ((i, gl_mv ad v) :: (gl_ma ad (gl_as 0 ls)).filter (fun q => !(q.1 == i) && !(q.1 + 1 == i && q.2.category == 2)))) : lv_has LS nL (gl_ma ad (gl_as 0 (gl_s1 ls i v))) := by
  refine ⟨h.1, h.2.1, fun q hq => h.2.2 q ?_⟩
  obtain ⟨r, hr, rfl⟩ := List.mem_map.mp hq
  rcases gl_s1_in hr with e | ⟨e1, e2, e3⟩
  · rw [Nat.zero_add] at e
    rw [e]
    exact List.mem_cons_self
  · refine List.mem_cons_of_mem _ (List.mem_filter.mpr ⟨List.mem_map.mpr ⟨r, e1, rfl⟩, ?_⟩)
    rw [Nat.zero_add] at e2 e3
    show (!(r.1 == i) && !(r.1 + 1 == i && (gl_mv ad r.2).category == 2)) = true
    rw [gl_mv_cat]
    by_cases h1 : r.1 + 1 = i
    · have : ¬ r.2.category = 2 := fun z => e3 ⟨h1, z⟩
      simp [e2, this]
    · simp [e2, h1]
theorem gl_s2_has {LS : Array Slot} {nL i : Nat} {ls : List (Option Value)} {v : Value} {ad : Nat → Nat} (h : lv_has LS nL ((i, gl_mv ad v) :: (gl_ma ad (gl_as 0 ls)).filter (fun q => !(q.1 == i) && (!(q.1 == i + 1) && !(q.1 + 1 == i && q.2.category == 2))))) : lv_has LS nL (gl_ma ad (gl_as 0 (gl_s2 ls i v))) := by
  refine ⟨h.1, h.2.1, fun q hq => h.2.2 q ?_⟩
  obtain ⟨r, hr, rfl⟩ := List.mem_map.mp hq
  rcases gl_s2_in hr with e | ⟨e1, e2, e4, e3⟩
  · rw [Nat.zero_add] at e
    rw [e]
    exact List.mem_cons_self
  · refine List.mem_cons_of_mem _ (List.mem_filter.mpr ⟨List.mem_map.mpr ⟨r, e1, rfl⟩, ?_⟩)
    rw [Nat.zero_add] at e2 e3 e4
    show (!(r.1 == i) && (!(r.1 == i + 1) && !(r.1 + 1 == i && (gl_mv ad r.2).category == 2))) = true
    rw [gl_mv_cat]
    by_cases h1 : r.1 + 1 = i
    · have : ¬ r.2.category = 2 := fun z => e3 ⟨h1, z⟩
      simp [e2, e4, this]
    · simp [e2, e4, h1]
theorem gl_s1_bd {S : gl_H} {i : Nat} {ls : List (Option Value)} {v : Value} (h : ∀ q ∈ gl_as 0 ls, gl_bd S q.2) (hv : gl_bd S v) : ∀ q ∈ gl_as 0 (gl_s1 ls i v), gl_bd S q.2 := fun q hq => by
  rcases gl_s1_in hq with e | ⟨e, -, -⟩
  · rw [e]; exact hv
  · exact h q e
theorem gl_s2_bd {S : gl_H} {i : Nat} {ls : List (Option Value)} {v : Value} (h : ∀ q ∈ gl_as 0 ls, gl_bd S q.2) (hv : gl_bd S v) : ∀ q ∈ gl_as 0 (gl_s2 ls i v), gl_bd S q.2 := fun q hq => by
  rcases gl_s2_in hq with e | ⟨e, -, -, -⟩
  · rw [e]; exact hv
  · exact h q e
theorem gl_bd_i {S : gl_H} {x : Int32} : gl_bd S (.int x) := fun _ h => by cases h
theorem gl_bd_l {S : gl_H} {x : Int64} : gl_bd S (.long x) := fun _ h => by cases h
theorem gl_bd_n {S : gl_H} : gl_bd S .null := fun _ h => by cases h
theorem gl_bd_c {S : gl_H} {v : Value} {st : List Value} (hv : gl_bd S v) (h : ∀ w ∈ st, gl_bd S w) : ∀ w ∈ v :: st, gl_bd S w := fun w hw => by
  rcases List.mem_cons.mp hw with e | e
  · rw [e]; exact hv
  · exact h w e
theorem gl_bd_t {S : gl_H} {v : Value} {st : List Value} (h : ∀ w ∈ v :: st, gl_bd S w) : ∀ w ∈ st, gl_bd S w := fun w hw => h w (List.mem_cons_of_mem _ hw)
theorem gl_bd_h {S : gl_H} {v : Value} {st : List Value} (h : ∀ w ∈ v :: st, gl_bd S w) : gl_bd S v := h v List.mem_cons_self
theorem gl_bd_lk {S : gl_H} {ls : List (Option Value)} {i : Nat} {v : Value} (h : ∀ q ∈ gl_as 0 ls, gl_bd S q.2) (hv : gl_lk ls i = some v) : gl_bd S v := h _ (gl_lk_as 0 hv)
