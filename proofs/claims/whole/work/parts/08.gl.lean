/-! THE PURE HEAP: places (numbers that I choose) for addresses; a cell is an array with a code of its element type, or an object with the number of its class; a reference in a cell, a local or on the stack is a place -/
abbrev gl_C : Type := (Nat × vp_A) ⊕ (Nat × List Value)
abbrev gl_H : Type := Nat → Option gl_C
/-- the array types that the program makes -/
def gl_ty (K : Nat → ClassId) : List (ClassId × FieldType) := [(K 0, .int), (K 1, .long), (K 2, .byte), (K 3, .short), (K 4, .object RX4), (K 5, .object RX0), (K 6, .array .long)]
abbrev gl_cl : List vw_C := [(RX0, TX0, 5), (RX1, TX1, 7), (RX2, TX2, 3), (RX3, TX3, 2), (RX4, TX4, 11), (RX5, TX5, 5), (RX6, TX6, 9), (RX7, TX7, 32)]
/-- the words that every method may use -/
def gl_T : List Cond := lw_tbl.filter goodWord
theorem gl_T_in {w : Cond} (h : w ∈ lw_tbl) (hg : goodWord w = true) : w ∈ gl_T := List.mem_filter.mpr ⟨h, hg⟩
theorem gl_T_good : ∀ w ∈ gl_T, goodWord w = true := fun _ h => (List.mem_filter.mp h).2
def gl_mv (ad : Nat → Nat) : Value → Value
  | .ref p => .ref (ad p)
  | .int x => .int x
  | .long x => .long x
  | .float x => .float x
  | .double x => .double x
  | .null => .null
  | .retAddr x => .retAddr x
def gl_mA (ad : Nat → Nat) (a : vp_A) : vp_A := (a.1, match a.2 with
  | .inl f => .inl f
  | .inr (.inl f) => .inr (.inl f)
  | .inr (.inr (.inl f)) => .inr (.inr (.inl f))
  | .inr (.inr (.inr (.inl f))) => .inr (.inr (.inr (.inl f)))
  | .inr (.inr (.inr (.inr f))) => .inr (.inr (.inr (.inr (fun j => (f j).map ad)))))
def gl_mE (K : Nat → ClassId) (ad : Nat → Nat) : gl_C → va_E
  | .inl (t, a) => .inl (K t, gl_mA ad a)
  | .inr (ci, fs) => .inr (ci, fs.map (gl_mv ad))
/-- r is a place that the cell c names -/
def gl_rf (c : gl_C) (r : Nat) : Prop := match c with
  | .inl (_, a) => (match a.2 with
    | .inr (.inr (.inr (.inr f))) => ∃ j, f j = some r
    | _ => False)
  | .inr (_, fs) => Value.ref r ∈ fs
def gl_wf (S : gl_H) : Prop := ∀ p c, S p = some c → ∀ r, gl_rf c r → S r ≠ none
/-- places of what is read only: the static arrays, the script -/
def gl_xt (p : Nat) : Prop := 1000000 ≤ p
def gl_bd (S : gl_H) (v : Value) : Prop := ∀ r, v = .ref r → S r ≠ none ∨ gl_xt r
def gl_pu (S : gl_H) (p : Nat) (c : gl_C) : gl_H := fun q => if q = p then some c else S q
def gl_aw (ad : Nat → Nat) (p a : Nat) : Nat → Nat := fun q => if q = p then a else ad q
theorem gl_pu_s (S : gl_H) (p : Nat) (c : gl_C) : gl_pu S p c p = some c := if_pos rfl
theorem gl_pu_n (S : gl_H) {p q : Nat} (c : gl_C) (h : q ≠ p) : gl_pu S p c q = S q := if_neg h
def gl_wl (K : Nat → ClassId) (ad : Nat → Nat) (S : gl_H) (L : List Nat) : va_W := L.map (fun p => (ad p, gl_mE K ad ((S p).getD (.inr (0, [])))))
/-- the heap H holds S, each place p at the address ad p -/
def gl_R (D : va_G) (K : Nat → ClassId) (A : Nat → Prop) (ad : Nat → Nat) (S : gl_H) (H : Heap) : Prop := ∃ L : List Nat, (∀ p, S p ≠ none ↔ p ∈ L) ∧ L.Nodup ∧ va_P D gl_cl (gl_wl K ad S L) H ∧ va_D A (gl_wl K ad S L) ∧ gl_wf S ∧ ∀ p, S p ≠ none → ¬ gl_xt p
theorem gl_some {S : gl_H} {p : Nat} {c : gl_C} (h : S p = some c) : S p ≠ none := by rw [h]; exact fun q => by cases q
theorem gl_wl_at {K : Nat → ClassId} {ad : Nat → Nat} {S : gl_H} {L : List Nat} {k p : Nat} {c : gl_C} (hk : L[k]? = some p) (hc : S p = some c) : (gl_wl K ad S L)[k]? = some (ad p, gl_mE K ad c) := by
  unfold gl_wl
  rw [List.getElem?_map, hk]
  show some (ad p, gl_mE K ad ((S p).getD _)) = _
  rw [hc]
  rfl
theorem gl_wl_set {K : Nat → ClassId} {ad : Nat → Nat} {S : gl_H} {L : List Nat} (hn : L.Nodup) {k p : Nat} (hk : L[k]? = some p) (c : gl_C) : (gl_wl K ad S L).set k (ad p, gl_mE K ad c) = gl_wl K ad (gl_pu S p c) L := by
  apply List.ext_getElem?
  intro i
  unfold gl_wl
  rw [List.getElem?_set, List.length_map, List.getElem?_map, List.getElem?_map]
  have hkl : k < L.length := (List.getElem?_eq_some_iff.mp hk).1
  by_cases h : k = i
  · subst h
    rw [if_pos rfl, if_pos hkl, hk]
    show _ = some (ad p, gl_mE K ad ((gl_pu S p c p).getD _))
    rw [gl_pu_s]
    rfl
  · rw [if_neg h]
    cases hi : L[i]? with
    | none => rfl
    | some r =>
      have hr : r ≠ p := fun e => by
        subst e
        exact h ((List.getElem?_inj hkl hn).mp (hk.trans hi.symm))
      show some (ad r, gl_mE K ad ((S r).getD _)) = some (ad r, gl_mE K ad ((gl_pu S p c r).getD _))
      rw [gl_pu_n S c hr]
theorem gl_mv_aw {ad : Nat → Nat} {p a : Nat} {v : Value} (h : v ≠ .ref p) : gl_mv (gl_aw ad p a) v = gl_mv ad v := by
  cases v with
  | ref r =>
    show Value.ref (gl_aw ad p a r) = Value.ref (ad r)
    have : r ≠ p := fun e => h (by rw [e])
    rw [gl_aw, if_neg this]
  | _ => rfl
theorem gl_mE_cong {K : Nat → ClassId} {ad ad' : Nat → Nat} {c : gl_C} (h : ∀ r, gl_rf c r → ad' r = ad r) : gl_mE K ad' c = gl_mE K ad c := by
  match c, h with
  | .inl (t, n, .inl f), _ => rfl
  | .inl (t, n, .inr (.inl f)), _ => rfl
  | .inl (t, n, .inr (.inr (.inl f))), _ => rfl
  | .inl (t, n, .inr (.inr (.inr (.inl f)))), _ => rfl
  | .inl (t, n, .inr (.inr (.inr (.inr f)))), h =>
    have e : (fun j => (f j).map ad') = fun j => (f j).map ad := by
      funext j
      cases hj : f j with
      | none => rfl
      | some r => exact congrArg some (h r ⟨j, hj⟩)
    show (Sum.inl (K t, n, _) : va_E) = Sum.inl (K t, n, _)
    show (Sum.inl (K t, (n, Sum.inr (Sum.inr (Sum.inr (Sum.inr (fun j => (f j).map ad')))))) : va_E) = Sum.inl (K t, (n, Sum.inr (Sum.inr (Sum.inr (Sum.inr (fun j => (f j).map ad))))))
    rw [e]
  | .inr (ci, fs), h =>
    show (Sum.inr (ci, fs.map (gl_mv ad')) : va_E) = Sum.inr (ci, fs.map (gl_mv ad))
    have e : fs.map (gl_mv ad') = fs.map (gl_mv ad) := List.map_congr_left (fun v hv => by
      cases v with
      | ref r => exact congrArg Value.ref (h r hv)
      | _ => rfl)
    rw [e]
/-- one cell changes -/
theorem gl_R.pu {D : va_G} {K : Nat → ClassId} {A : Nat → Prop} {ad : Nat → Nat} {S : gl_H} {L : List Nat} {H1 : Heap} {k p : Nat} {c c' : gl_C} (hL : ∀ p, S p ≠ none ↔ p ∈ L) (hn : L.Nodup) (hwf : gl_wf S) (hx : ∀ p, S p ≠ none → ¬ gl_xt p) (hk : L[k]? = some p) (hc : S p = some c)
    (hr : ∀ r, gl_rf c' r → gl_rf c r ∨ S r ≠ none) (hP : va_P D gl_cl ((gl_wl K ad S L).set k (ad p, gl_mE K ad c')) H1) (hD : va_D A ((gl_wl K ad S L).set k (ad p, gl_mE K ad c'))) : gl_R D K A ad (gl_pu S p c') H1 := by
  have hs : ∀ q, gl_pu S p c' q ≠ none ↔ S q ≠ none := fun q => by
    by_cases e : q = p
    · subst e
      rw [gl_pu_s, hc]
      exact ⟨fun _ z => (by cases z), fun _ z => (by cases z)⟩
    · rw [gl_pu_n S c' e]
  rw [gl_wl_set hn hk] at hP hD
  refine ⟨L, fun q => (hs q).trans (hL q), hn, hP, hD, fun q d hq r hr2 => (hs r).mpr ?_, fun q hq => hx q ((hs q).mp hq)⟩
  by_cases e : q = p
  · subst e
    rw [gl_pu_s] at hq
    cases hq
    rcases hr r hr2 with h | h
    · exact hwf _ _ hc r h
    · exact h
  · rw [gl_pu_n S c' e] at hq
    exact hwf q d hq r hr2
/-- a cell comes -/
theorem gl_R.new {D : va_G} {K : Nat → ClassId} {A : Nat → Prop} {ad : Nat → Nat} {S : gl_H} {L : List Nat} {H1 : Heap} {p a : Nat} {c : gl_C} {e : va_E} (hL : ∀ p, S p ≠ none ↔ p ∈ L) (hn : L.Nodup) (hwf : gl_wf S) (hx : ∀ p, S p ≠ none → ¬ gl_xt p) (hp : S p = none) (hpx : ¬ gl_xt p)
    (hr : ∀ r, gl_rf c r → S r ≠ none) (he : ∀ ad', gl_mE K ad' c = e ∨ ∃ r, gl_rf c r ∧ ad' r ≠ ad r) (hP : va_P D gl_cl (gl_wl K ad S L ++ [(a, e)]) H1) (hD : va_D A (gl_wl K ad S L ++ [(a, e)])) : gl_R D K A (gl_aw ad p a) (gl_pu S p c) H1 := by
  have hpL : p ∉ L := fun h => (hL p).mpr h hp
  have hec : gl_mE K (gl_aw ad p a) c = e := by
    rcases he (gl_aw ad p a) with h | ⟨r, h1, h2⟩
    · exact h
    · refine absurd ?_ h2
      have : r ≠ p := fun z => hr r h1 (by rw [z]; exact hp)
      rw [gl_aw, if_neg this]
  have hw : gl_wl K ad S L ++ [(a, e)] = gl_wl K (gl_aw ad p a) (gl_pu S p c) (L ++ [p]) := by
    unfold gl_wl
    rw [List.map_append]
    congr 1
    · apply List.map_congr_left
      intro q hq
      have hqp : q ≠ p := fun z => hpL (by rw [← z]; exact hq)
      rw [gl_pu_n S c hqp]
      cases hc : S q with
      | none => exact absurd hc ((hL q).mpr hq)
      | some d =>
        show (ad q, gl_mE K ad d) = (gl_aw ad p a q, gl_mE K (gl_aw ad p a) d)
        rw [show gl_aw ad p a q = ad q from if_neg hqp, show gl_mE K (gl_aw ad p a) d = gl_mE K ad d from gl_mE_cong (fun r hr2 => if_neg (fun z => hwf q d hc r hr2 (by rw [z]; exact hp)))]
    · show [(a, e)] = [(gl_aw ad p a p, gl_mE K (gl_aw ad p a) ((gl_pu S p c p).getD _))]
      rw [gl_pu_s, show gl_aw ad p a p = a from if_pos rfl]
      show [(a, e)] = [(a, gl_mE K (gl_aw ad p a) c)]
      rw [hec]
  rw [hw] at hP hD
  have hs : ∀ q, gl_pu S p c q ≠ none ↔ (S q ≠ none ∨ q = p) := fun q => by
    by_cases z : q = p
    · subst z
      rw [gl_pu_s]
      exact ⟨fun _ => Or.inr rfl, fun _ z => by cases z⟩
    · rw [gl_pu_n S c z]
      exact ⟨Or.inl, fun h => h.elim id (fun y => absurd y z)⟩
  refine ⟨L ++ [p], fun q => (hs q).trans ?_, ?_, hP, hD, fun q d hq r hr2 => (hs r).mpr (Or.inl ?_), fun q hq => ?_⟩
  · rw [List.mem_append, List.mem_singleton, hL q]
  · refine List.nodup_append.mpr ⟨hn, by simp, fun x hx y hy z => hpL ?_⟩
    rw [List.mem_singleton] at hy
    rw [← hy, ← z]
    exact hx
  · by_cases z : q = p
    · subst z
      rw [gl_pu_s] at hq
      cases hq
      exact hr r hr2
    · rw [gl_pu_n S c z] at hq
      exact hwf q d hq r hr2
  · rcases (hs q).mp hq with h | h
    · exact hx q h
    · rw [h]; exact hpx
