/-! THE MODEL'S PICTURE (70 ..) -/
def mLen (i : Nat) : Nat := if i = 0 then 60 else if i = 1 then 7 else if i = 2 then 7 else if i = 3 then 12 else if i = 4 then 12 else if i = 5 then 12 else if i = 6 then 72 else if i = 7 then 12 else if i = 8 then 12 else if i = 9 then 12 else if i = 10 then 12 else if i = 11 then 12 else if i = 12 then 12 else if i = 13 then 12 else if i = 14 then 10 else if i = 15 then 10 else if i = 16 then 10 else if i = 17 then 10 else if i = 18 then 10 else if i = 19 then 400 else if i = 20 then 400 else if i = 21 then 400 else if i = 22 then 45056 else if i = 23 then 10 else 0
def MPR (S : gl_H) (A : Nat → Nat → Int32) (py : Nat → Int64) (n day tc gc vs : Nat) (fr mt mc : Int32) : Prop :=
  S 70 = some (.inr (7, [.ref 71, .int (nI n), .int (nI day), .int (nI tc), .int (nI gc), .int (nI vs), .ref 72, .ref 73, .ref 74, .ref 75, .ref 76, .ref 77, .ref 78, .ref 79, .ref 80, .ref 81, .ref 82, .ref 83, .ref 84, .ref 85, .ref 86, .ref 87, .ref 88, .ref 89, .ref 90, .ref 91, .ref 92, .int (fr), .ref 93, .ref 94, .int (mt), .int (mc)])) ∧ S 71 = some (.inl (2, 60, .inl (A 0))) ∧ S 84 = some (.inl (1, 12, .inr (.inl py))) ∧ ∀ i, i < 24 → i ≠ 0 → i ≠ 13 → S (71 + i) = some (.inl (0, mLen i, .inl (A i)))
theorem MPR.keep {S S1 : gl_H} {A : Nat → Nat → Int32} {py : Nat → Int64} {n day tc gc vs : Nat} {fr mt mc : Int32} (h : MPR S (A) (py) (n) (day) (tc) (gc) (vs) (fr) (mt) (mc)) (hf : ∀ q, 70 ≤ q → q < 95 → S1 q = S q) : MPR S1 (A) (py) (n) (day) (tc) (gc) (vs) (fr) (mt) (mc) := ⟨(hf 70 (by decide) (by decide)).trans h.1, (hf 71 (by decide) (by decide)).trans h.2.1, (hf 84 (by decide) (by decide)).trans h.2.2.1, fun i h1 h2 h3 => (hf (71 + i) (by omega) (by omega)).trans (h.2.2.2 i h1 h2 h3)⟩
section MPS
variable {M : gl_M} {x : gl_X} {Z : State → Prop} {pc : Nat} {ls : List (Option Value)} {st : List Value} {S S0 : gl_H} {k : Nat × Nat} {A : Nat → Nat → Int32} {py : Nat → Int64} {n day tc gc vs : Nat} {fr mt mc : Int32}
theorem MPR.a1 (h : MPR S (A) (py) (n) (day) (tc) (gc) (vs) (fr) (mt) (mc)) : S 72 = some (.inl (0, 7, .inl (A 1))) := h.2.2.2 1 (by decide) (by decide) (by decide)
theorem MPR.a2 (h : MPR S (A) (py) (n) (day) (tc) (gc) (vs) (fr) (mt) (mc)) : S 73 = some (.inl (0, 7, .inl (A 2))) := h.2.2.2 2 (by decide) (by decide) (by decide)
theorem MPR.a3 (h : MPR S (A) (py) (n) (day) (tc) (gc) (vs) (fr) (mt) (mc)) : S 74 = some (.inl (0, 12, .inl (A 3))) := h.2.2.2 3 (by decide) (by decide) (by decide)
theorem MPR.a4 (h : MPR S (A) (py) (n) (day) (tc) (gc) (vs) (fr) (mt) (mc)) : S 75 = some (.inl (0, 12, .inl (A 4))) := h.2.2.2 4 (by decide) (by decide) (by decide)
theorem MPR.a5 (h : MPR S (A) (py) (n) (day) (tc) (gc) (vs) (fr) (mt) (mc)) : S 76 = some (.inl (0, 12, .inl (A 5))) := h.2.2.2 5 (by decide) (by decide) (by decide)
theorem MPR.a6 (h : MPR S (A) (py) (n) (day) (tc) (gc) (vs) (fr) (mt) (mc)) : S 77 = some (.inl (0, 72, .inl (A 6))) := h.2.2.2 6 (by decide) (by decide) (by decide)
theorem MPR.a7 (h : MPR S (A) (py) (n) (day) (tc) (gc) (vs) (fr) (mt) (mc)) : S 78 = some (.inl (0, 12, .inl (A 7))) := h.2.2.2 7 (by decide) (by decide) (by decide)
theorem MPR.a8 (h : MPR S (A) (py) (n) (day) (tc) (gc) (vs) (fr) (mt) (mc)) : S 79 = some (.inl (0, 12, .inl (A 8))) := h.2.2.2 8 (by decide) (by decide) (by decide)
theorem MPR.a9 (h : MPR S (A) (py) (n) (day) (tc) (gc) (vs) (fr) (mt) (mc)) : S 80 = some (.inl (0, 12, .inl (A 9))) := h.2.2.2 9 (by decide) (by decide) (by decide)
theorem MPR.a10 (h : MPR S (A) (py) (n) (day) (tc) (gc) (vs) (fr) (mt) (mc)) : S 81 = some (.inl (0, 12, .inl (A 10))) := h.2.2.2 10 (by decide) (by decide) (by decide)
theorem MPR.a11 (h : MPR S (A) (py) (n) (day) (tc) (gc) (vs) (fr) (mt) (mc)) : S 82 = some (.inl (0, 12, .inl (A 11))) := h.2.2.2 11 (by decide) (by decide) (by decide)
theorem MPR.a12 (h : MPR S (A) (py) (n) (day) (tc) (gc) (vs) (fr) (mt) (mc)) : S 83 = some (.inl (0, 12, .inl (A 12))) := h.2.2.2 12 (by decide) (by decide) (by decide)
theorem MPR.a14 (h : MPR S (A) (py) (n) (day) (tc) (gc) (vs) (fr) (mt) (mc)) : S 85 = some (.inl (0, 10, .inl (A 14))) := h.2.2.2 14 (by decide) (by decide) (by decide)
theorem MPR.a15 (h : MPR S (A) (py) (n) (day) (tc) (gc) (vs) (fr) (mt) (mc)) : S 86 = some (.inl (0, 10, .inl (A 15))) := h.2.2.2 15 (by decide) (by decide) (by decide)
theorem MPR.a16 (h : MPR S (A) (py) (n) (day) (tc) (gc) (vs) (fr) (mt) (mc)) : S 87 = some (.inl (0, 10, .inl (A 16))) := h.2.2.2 16 (by decide) (by decide) (by decide)
theorem MPR.a17 (h : MPR S (A) (py) (n) (day) (tc) (gc) (vs) (fr) (mt) (mc)) : S 88 = some (.inl (0, 10, .inl (A 17))) := h.2.2.2 17 (by decide) (by decide) (by decide)
theorem MPR.a18 (h : MPR S (A) (py) (n) (day) (tc) (gc) (vs) (fr) (mt) (mc)) : S 89 = some (.inl (0, 10, .inl (A 18))) := h.2.2.2 18 (by decide) (by decide) (by decide)
theorem MPR.a19 (h : MPR S (A) (py) (n) (day) (tc) (gc) (vs) (fr) (mt) (mc)) : S 90 = some (.inl (0, 400, .inl (A 19))) := h.2.2.2 19 (by decide) (by decide) (by decide)
theorem MPR.a20 (h : MPR S (A) (py) (n) (day) (tc) (gc) (vs) (fr) (mt) (mc)) : S 91 = some (.inl (0, 400, .inl (A 20))) := h.2.2.2 20 (by decide) (by decide) (by decide)
theorem MPR.a21 (h : MPR S (A) (py) (n) (day) (tc) (gc) (vs) (fr) (mt) (mc)) : S 92 = some (.inl (0, 400, .inl (A 21))) := h.2.2.2 21 (by decide) (by decide) (by decide)
theorem MPR.a22 (h : MPR S (A) (py) (n) (day) (tc) (gc) (vs) (fr) (mt) (mc)) : S 93 = some (.inl (0, 45056, .inl (A 22))) := h.2.2.2 22 (by decide) (by decide) (by decide)
theorem MPR.a23 (h : MPR S (A) (py) (n) (day) (tc) (gc) (vs) (fr) (mt) (mc)) : S 94 = some (.inl (0, 10, .inl (A 23))) := h.2.2.2 23 (by decide) (by decide) (by decide)
theorem MPs_arr (i : Nat) (hi : i < 24) (h0 : i ≠ 0) (h13 : i ≠ 13) {v : Nat → Int32} (h : MPR S (A) (py) (n) (day) (tc) (gc) (vs) (fr) (mt) (mc)) (hf : Fr 70 95 S0 S) (K : ∀ S1, MPR S1 (up2 A i v) (py) (n) (day) (tc) (gc) (vs) (fr) (mt) (mc) → Fr 70 95 S0 S1 → GG M x Z pc ls st S1 k) : GG M x Z pc ls st (gl_pu S (71 + i) (.inl (0, mLen i, .inl v))) k :=
  K _ ⟨(gl_pu_n S _ (by omega)).trans h.1, (gl_pu_n S _ (by omega)).trans (by rw [up2_n A v (Ne.symm h0)]; exact h.2.1), (gl_pu_n S _ (by omega)).trans h.2.2.1, fun j h1 h2 h3 => by
    by_cases e : j = i
    · subst e
      rw [up2_s]
      exact gl_pu_s S _ _
    · rw [up2_n A v e]
      exact (gl_pu_n S _ (by omega)).trans (h.2.2.2 j h1 h2 h3)⟩ (hf.pu (by omega) (by omega))
theorem MPs_1 {v : Nat → Int32} (h : MPR S (A) (py) (n) (day) (tc) (gc) (vs) (fr) (mt) (mc)) (hf : Fr 70 95 S0 S) (K : ∀ S1, MPR S1 (up2 A 1 v) (py) (n) (day) (tc) (gc) (vs) (fr) (mt) (mc) → Fr 70 95 S0 S1 → GG M x Z pc ls st S1 k) : GG M x Z pc ls st (gl_pu S 72 (.inl (0, 7, .inl v))) k := MPs_arr 1 (by decide) (by decide) (by decide) h hf K
theorem MPs_2 {v : Nat → Int32} (h : MPR S (A) (py) (n) (day) (tc) (gc) (vs) (fr) (mt) (mc)) (hf : Fr 70 95 S0 S) (K : ∀ S1, MPR S1 (up2 A 2 v) (py) (n) (day) (tc) (gc) (vs) (fr) (mt) (mc) → Fr 70 95 S0 S1 → GG M x Z pc ls st S1 k) : GG M x Z pc ls st (gl_pu S 73 (.inl (0, 7, .inl v))) k := MPs_arr 2 (by decide) (by decide) (by decide) h hf K
theorem MPs_3 {v : Nat → Int32} (h : MPR S (A) (py) (n) (day) (tc) (gc) (vs) (fr) (mt) (mc)) (hf : Fr 70 95 S0 S) (K : ∀ S1, MPR S1 (up2 A 3 v) (py) (n) (day) (tc) (gc) (vs) (fr) (mt) (mc) → Fr 70 95 S0 S1 → GG M x Z pc ls st S1 k) : GG M x Z pc ls st (gl_pu S 74 (.inl (0, 12, .inl v))) k := MPs_arr 3 (by decide) (by decide) (by decide) h hf K
theorem MPs_4 {v : Nat → Int32} (h : MPR S (A) (py) (n) (day) (tc) (gc) (vs) (fr) (mt) (mc)) (hf : Fr 70 95 S0 S) (K : ∀ S1, MPR S1 (up2 A 4 v) (py) (n) (day) (tc) (gc) (vs) (fr) (mt) (mc) → Fr 70 95 S0 S1 → GG M x Z pc ls st S1 k) : GG M x Z pc ls st (gl_pu S 75 (.inl (0, 12, .inl v))) k := MPs_arr 4 (by decide) (by decide) (by decide) h hf K
theorem MPs_5 {v : Nat → Int32} (h : MPR S (A) (py) (n) (day) (tc) (gc) (vs) (fr) (mt) (mc)) (hf : Fr 70 95 S0 S) (K : ∀ S1, MPR S1 (up2 A 5 v) (py) (n) (day) (tc) (gc) (vs) (fr) (mt) (mc) → Fr 70 95 S0 S1 → GG M x Z pc ls st S1 k) : GG M x Z pc ls st (gl_pu S 76 (.inl (0, 12, .inl v))) k := MPs_arr 5 (by decide) (by decide) (by decide) h hf K
theorem MPs_6 {v : Nat → Int32} (h : MPR S (A) (py) (n) (day) (tc) (gc) (vs) (fr) (mt) (mc)) (hf : Fr 70 95 S0 S) (K : ∀ S1, MPR S1 (up2 A 6 v) (py) (n) (day) (tc) (gc) (vs) (fr) (mt) (mc) → Fr 70 95 S0 S1 → GG M x Z pc ls st S1 k) : GG M x Z pc ls st (gl_pu S 77 (.inl (0, 72, .inl v))) k := MPs_arr 6 (by decide) (by decide) (by decide) h hf K
theorem MPs_7 {v : Nat → Int32} (h : MPR S (A) (py) (n) (day) (tc) (gc) (vs) (fr) (mt) (mc)) (hf : Fr 70 95 S0 S) (K : ∀ S1, MPR S1 (up2 A 7 v) (py) (n) (day) (tc) (gc) (vs) (fr) (mt) (mc) → Fr 70 95 S0 S1 → GG M x Z pc ls st S1 k) : GG M x Z pc ls st (gl_pu S 78 (.inl (0, 12, .inl v))) k := MPs_arr 7 (by decide) (by decide) (by decide) h hf K
theorem MPs_8 {v : Nat → Int32} (h : MPR S (A) (py) (n) (day) (tc) (gc) (vs) (fr) (mt) (mc)) (hf : Fr 70 95 S0 S) (K : ∀ S1, MPR S1 (up2 A 8 v) (py) (n) (day) (tc) (gc) (vs) (fr) (mt) (mc) → Fr 70 95 S0 S1 → GG M x Z pc ls st S1 k) : GG M x Z pc ls st (gl_pu S 79 (.inl (0, 12, .inl v))) k := MPs_arr 8 (by decide) (by decide) (by decide) h hf K
theorem MPs_9 {v : Nat → Int32} (h : MPR S (A) (py) (n) (day) (tc) (gc) (vs) (fr) (mt) (mc)) (hf : Fr 70 95 S0 S) (K : ∀ S1, MPR S1 (up2 A 9 v) (py) (n) (day) (tc) (gc) (vs) (fr) (mt) (mc) → Fr 70 95 S0 S1 → GG M x Z pc ls st S1 k) : GG M x Z pc ls st (gl_pu S 80 (.inl (0, 12, .inl v))) k := MPs_arr 9 (by decide) (by decide) (by decide) h hf K
theorem MPs_10 {v : Nat → Int32} (h : MPR S (A) (py) (n) (day) (tc) (gc) (vs) (fr) (mt) (mc)) (hf : Fr 70 95 S0 S) (K : ∀ S1, MPR S1 (up2 A 10 v) (py) (n) (day) (tc) (gc) (vs) (fr) (mt) (mc) → Fr 70 95 S0 S1 → GG M x Z pc ls st S1 k) : GG M x Z pc ls st (gl_pu S 81 (.inl (0, 12, .inl v))) k := MPs_arr 10 (by decide) (by decide) (by decide) h hf K
theorem MPs_11 {v : Nat → Int32} (h : MPR S (A) (py) (n) (day) (tc) (gc) (vs) (fr) (mt) (mc)) (hf : Fr 70 95 S0 S) (K : ∀ S1, MPR S1 (up2 A 11 v) (py) (n) (day) (tc) (gc) (vs) (fr) (mt) (mc) → Fr 70 95 S0 S1 → GG M x Z pc ls st S1 k) : GG M x Z pc ls st (gl_pu S 82 (.inl (0, 12, .inl v))) k := MPs_arr 11 (by decide) (by decide) (by decide) h hf K
theorem MPs_12 {v : Nat → Int32} (h : MPR S (A) (py) (n) (day) (tc) (gc) (vs) (fr) (mt) (mc)) (hf : Fr 70 95 S0 S) (K : ∀ S1, MPR S1 (up2 A 12 v) (py) (n) (day) (tc) (gc) (vs) (fr) (mt) (mc) → Fr 70 95 S0 S1 → GG M x Z pc ls st S1 k) : GG M x Z pc ls st (gl_pu S 83 (.inl (0, 12, .inl v))) k := MPs_arr 12 (by decide) (by decide) (by decide) h hf K
theorem MPs_14 {v : Nat → Int32} (h : MPR S (A) (py) (n) (day) (tc) (gc) (vs) (fr) (mt) (mc)) (hf : Fr 70 95 S0 S) (K : ∀ S1, MPR S1 (up2 A 14 v) (py) (n) (day) (tc) (gc) (vs) (fr) (mt) (mc) → Fr 70 95 S0 S1 → GG M x Z pc ls st S1 k) : GG M x Z pc ls st (gl_pu S 85 (.inl (0, 10, .inl v))) k := MPs_arr 14 (by decide) (by decide) (by decide) h hf K
theorem MPs_15 {v : Nat → Int32} (h : MPR S (A) (py) (n) (day) (tc) (gc) (vs) (fr) (mt) (mc)) (hf : Fr 70 95 S0 S) (K : ∀ S1, MPR S1 (up2 A 15 v) (py) (n) (day) (tc) (gc) (vs) (fr) (mt) (mc) → Fr 70 95 S0 S1 → GG M x Z pc ls st S1 k) : GG M x Z pc ls st (gl_pu S 86 (.inl (0, 10, .inl v))) k := MPs_arr 15 (by decide) (by decide) (by decide) h hf K
theorem MPs_16 {v : Nat → Int32} (h : MPR S (A) (py) (n) (day) (tc) (gc) (vs) (fr) (mt) (mc)) (hf : Fr 70 95 S0 S) (K : ∀ S1, MPR S1 (up2 A 16 v) (py) (n) (day) (tc) (gc) (vs) (fr) (mt) (mc) → Fr 70 95 S0 S1 → GG M x Z pc ls st S1 k) : GG M x Z pc ls st (gl_pu S 87 (.inl (0, 10, .inl v))) k := MPs_arr 16 (by decide) (by decide) (by decide) h hf K
theorem MPs_17 {v : Nat → Int32} (h : MPR S (A) (py) (n) (day) (tc) (gc) (vs) (fr) (mt) (mc)) (hf : Fr 70 95 S0 S) (K : ∀ S1, MPR S1 (up2 A 17 v) (py) (n) (day) (tc) (gc) (vs) (fr) (mt) (mc) → Fr 70 95 S0 S1 → GG M x Z pc ls st S1 k) : GG M x Z pc ls st (gl_pu S 88 (.inl (0, 10, .inl v))) k := MPs_arr 17 (by decide) (by decide) (by decide) h hf K
theorem MPs_18 {v : Nat → Int32} (h : MPR S (A) (py) (n) (day) (tc) (gc) (vs) (fr) (mt) (mc)) (hf : Fr 70 95 S0 S) (K : ∀ S1, MPR S1 (up2 A 18 v) (py) (n) (day) (tc) (gc) (vs) (fr) (mt) (mc) → Fr 70 95 S0 S1 → GG M x Z pc ls st S1 k) : GG M x Z pc ls st (gl_pu S 89 (.inl (0, 10, .inl v))) k := MPs_arr 18 (by decide) (by decide) (by decide) h hf K
theorem MPs_19 {v : Nat → Int32} (h : MPR S (A) (py) (n) (day) (tc) (gc) (vs) (fr) (mt) (mc)) (hf : Fr 70 95 S0 S) (K : ∀ S1, MPR S1 (up2 A 19 v) (py) (n) (day) (tc) (gc) (vs) (fr) (mt) (mc) → Fr 70 95 S0 S1 → GG M x Z pc ls st S1 k) : GG M x Z pc ls st (gl_pu S 90 (.inl (0, 400, .inl v))) k := MPs_arr 19 (by decide) (by decide) (by decide) h hf K
theorem MPs_20 {v : Nat → Int32} (h : MPR S (A) (py) (n) (day) (tc) (gc) (vs) (fr) (mt) (mc)) (hf : Fr 70 95 S0 S) (K : ∀ S1, MPR S1 (up2 A 20 v) (py) (n) (day) (tc) (gc) (vs) (fr) (mt) (mc) → Fr 70 95 S0 S1 → GG M x Z pc ls st S1 k) : GG M x Z pc ls st (gl_pu S 91 (.inl (0, 400, .inl v))) k := MPs_arr 20 (by decide) (by decide) (by decide) h hf K
theorem MPs_21 {v : Nat → Int32} (h : MPR S (A) (py) (n) (day) (tc) (gc) (vs) (fr) (mt) (mc)) (hf : Fr 70 95 S0 S) (K : ∀ S1, MPR S1 (up2 A 21 v) (py) (n) (day) (tc) (gc) (vs) (fr) (mt) (mc) → Fr 70 95 S0 S1 → GG M x Z pc ls st S1 k) : GG M x Z pc ls st (gl_pu S 92 (.inl (0, 400, .inl v))) k := MPs_arr 21 (by decide) (by decide) (by decide) h hf K
theorem MPs_22 {v : Nat → Int32} (h : MPR S (A) (py) (n) (day) (tc) (gc) (vs) (fr) (mt) (mc)) (hf : Fr 70 95 S0 S) (K : ∀ S1, MPR S1 (up2 A 22 v) (py) (n) (day) (tc) (gc) (vs) (fr) (mt) (mc) → Fr 70 95 S0 S1 → GG M x Z pc ls st S1 k) : GG M x Z pc ls st (gl_pu S 93 (.inl (0, 45056, .inl v))) k := MPs_arr 22 (by decide) (by decide) (by decide) h hf K
theorem MPs_23 {v : Nat → Int32} (h : MPR S (A) (py) (n) (day) (tc) (gc) (vs) (fr) (mt) (mc)) (hf : Fr 70 95 S0 S) (K : ∀ S1, MPR S1 (up2 A 23 v) (py) (n) (day) (tc) (gc) (vs) (fr) (mt) (mc) → Fr 70 95 S0 S1 → GG M x Z pc ls st S1 k) : GG M x Z pc ls st (gl_pu S 94 (.inl (0, 10, .inl v))) k := MPs_arr 23 (by decide) (by decide) (by decide) h hf K
theorem MPs_tape {v : Nat → Int32} (h : MPR S (A) (py) (n) (day) (tc) (gc) (vs) (fr) (mt) (mc)) (hf : Fr 70 95 S0 S) (K : ∀ S1, MPR S1 (up2 A 0 v) (py) (n) (day) (tc) (gc) (vs) (fr) (mt) (mc) → Fr 70 95 S0 S1 → GG M x Z pc ls st S1 k) : GG M x Z pc ls st (gl_pu S 71 (.inl (2, 60, .inl v))) k :=
  K _ ⟨(gl_pu_n S _ (by decide)).trans h.1, gl_pu_s S _ _, (gl_pu_n S _ (by decide)).trans h.2.2.1, fun j h1 h2 h3 => by
    rw [up2_n A v h2]
    exact (gl_pu_n S _ (by omega)).trans (h.2.2.2 j h1 h2 h3)⟩ (hf.pu (by decide) (by decide))
theorem MPs_pay {v : Nat → Int64} (h : MPR S (A) (py) (n) (day) (tc) (gc) (vs) (fr) (mt) (mc)) (hf : Fr 70 95 S0 S) (K : ∀ S1, MPR S1 (A) (v) (n) (day) (tc) (gc) (vs) (fr) (mt) (mc) → Fr 70 95 S0 S1 → GG M x Z pc ls st S1 k) : GG M x Z pc ls st (gl_pu S 84 (.inl (1, 12, .inr (.inl v)))) k :=
  K _ ⟨(gl_pu_n S _ (by decide)).trans h.1, (gl_pu_n S _ (by decide)).trans h.2.1, gl_pu_s S _ _, fun j h1 h2 h3 => (gl_pu_n S _ (by omega)).trans (h.2.2.2 j h1 h2 h3)⟩ (hf.pu (by decide) (by decide))
theorem MPs_n (m9 : Nat) {v9 : Int32} (hv : v9 = nI m9) (h : MPR S (A) (py) (n) (day) (tc) (gc) (vs) (fr) (mt) (mc)) (hf : Fr 70 95 S0 S) (K : ∀ S1, MPR S1 (A) (py) (m9) (day) (tc) (gc) (vs) (fr) (mt) (mc) → Fr 70 95 S0 S1 → GG M x Z pc ls st S1 k) : GG M x Z pc ls st (gl_pu S 70 (.inr (7, [.ref 71, .int (v9), .int (nI day), .int (nI tc), .int (nI gc), .int (nI vs), .ref 72, .ref 73, .ref 74, .ref 75, .ref 76, .ref 77, .ref 78, .ref 79, .ref 80, .ref 81, .ref 82, .ref 83, .ref 84, .ref 85, .ref 86, .ref 87, .ref 88, .ref 89, .ref 90, .ref 91, .ref 92, .int (fr), .ref 93, .ref 94, .int (mt), .int (mc)]))) k := by
  subst hv
  exact K _ ⟨gl_pu_s S _ _, (gl_pu_n S _ (by decide)).trans h.2.1, (gl_pu_n S _ (by decide)).trans h.2.2.1, fun j h1 h2 h3 => (gl_pu_n S _ (by omega)).trans (h.2.2.2 j h1 h2 h3)⟩ (hf.pu (by decide) (by decide))
theorem MPs_day (m9 : Nat) {v9 : Int32} (hv : v9 = nI m9) (h : MPR S (A) (py) (n) (day) (tc) (gc) (vs) (fr) (mt) (mc)) (hf : Fr 70 95 S0 S) (K : ∀ S1, MPR S1 (A) (py) (n) (m9) (tc) (gc) (vs) (fr) (mt) (mc) → Fr 70 95 S0 S1 → GG M x Z pc ls st S1 k) : GG M x Z pc ls st (gl_pu S 70 (.inr (7, [.ref 71, .int (nI n), .int (v9), .int (nI tc), .int (nI gc), .int (nI vs), .ref 72, .ref 73, .ref 74, .ref 75, .ref 76, .ref 77, .ref 78, .ref 79, .ref 80, .ref 81, .ref 82, .ref 83, .ref 84, .ref 85, .ref 86, .ref 87, .ref 88, .ref 89, .ref 90, .ref 91, .ref 92, .int (fr), .ref 93, .ref 94, .int (mt), .int (mc)]))) k := by
  subst hv
  exact K _ ⟨gl_pu_s S _ _, (gl_pu_n S _ (by decide)).trans h.2.1, (gl_pu_n S _ (by decide)).trans h.2.2.1, fun j h1 h2 h3 => (gl_pu_n S _ (by omega)).trans (h.2.2.2 j h1 h2 h3)⟩ (hf.pu (by decide) (by decide))
theorem MPs_tc (m9 : Nat) {v9 : Int32} (hv : v9 = nI m9) (h : MPR S (A) (py) (n) (day) (tc) (gc) (vs) (fr) (mt) (mc)) (hf : Fr 70 95 S0 S) (K : ∀ S1, MPR S1 (A) (py) (n) (day) (m9) (gc) (vs) (fr) (mt) (mc) → Fr 70 95 S0 S1 → GG M x Z pc ls st S1 k) : GG M x Z pc ls st (gl_pu S 70 (.inr (7, [.ref 71, .int (nI n), .int (nI day), .int (v9), .int (nI gc), .int (nI vs), .ref 72, .ref 73, .ref 74, .ref 75, .ref 76, .ref 77, .ref 78, .ref 79, .ref 80, .ref 81, .ref 82, .ref 83, .ref 84, .ref 85, .ref 86, .ref 87, .ref 88, .ref 89, .ref 90, .ref 91, .ref 92, .int (fr), .ref 93, .ref 94, .int (mt), .int (mc)]))) k := by
  subst hv
  exact K _ ⟨gl_pu_s S _ _, (gl_pu_n S _ (by decide)).trans h.2.1, (gl_pu_n S _ (by decide)).trans h.2.2.1, fun j h1 h2 h3 => (gl_pu_n S _ (by omega)).trans (h.2.2.2 j h1 h2 h3)⟩ (hf.pu (by decide) (by decide))
theorem MPs_gc (m9 : Nat) {v9 : Int32} (hv : v9 = nI m9) (h : MPR S (A) (py) (n) (day) (tc) (gc) (vs) (fr) (mt) (mc)) (hf : Fr 70 95 S0 S) (K : ∀ S1, MPR S1 (A) (py) (n) (day) (tc) (m9) (vs) (fr) (mt) (mc) → Fr 70 95 S0 S1 → GG M x Z pc ls st S1 k) : GG M x Z pc ls st (gl_pu S 70 (.inr (7, [.ref 71, .int (nI n), .int (nI day), .int (nI tc), .int (v9), .int (nI vs), .ref 72, .ref 73, .ref 74, .ref 75, .ref 76, .ref 77, .ref 78, .ref 79, .ref 80, .ref 81, .ref 82, .ref 83, .ref 84, .ref 85, .ref 86, .ref 87, .ref 88, .ref 89, .ref 90, .ref 91, .ref 92, .int (fr), .ref 93, .ref 94, .int (mt), .int (mc)]))) k := by
  subst hv
  exact K _ ⟨gl_pu_s S _ _, (gl_pu_n S _ (by decide)).trans h.2.1, (gl_pu_n S _ (by decide)).trans h.2.2.1, fun j h1 h2 h3 => (gl_pu_n S _ (by omega)).trans (h.2.2.2 j h1 h2 h3)⟩ (hf.pu (by decide) (by decide))
theorem MPs_vs (m9 : Nat) {v9 : Int32} (hv : v9 = nI m9) (h : MPR S (A) (py) (n) (day) (tc) (gc) (vs) (fr) (mt) (mc)) (hf : Fr 70 95 S0 S) (K : ∀ S1, MPR S1 (A) (py) (n) (day) (tc) (gc) (m9) (fr) (mt) (mc) → Fr 70 95 S0 S1 → GG M x Z pc ls st S1 k) : GG M x Z pc ls st (gl_pu S 70 (.inr (7, [.ref 71, .int (nI n), .int (nI day), .int (nI tc), .int (nI gc), .int (v9), .ref 72, .ref 73, .ref 74, .ref 75, .ref 76, .ref 77, .ref 78, .ref 79, .ref 80, .ref 81, .ref 82, .ref 83, .ref 84, .ref 85, .ref 86, .ref 87, .ref 88, .ref 89, .ref 90, .ref 91, .ref 92, .int (fr), .ref 93, .ref 94, .int (mt), .int (mc)]))) k := by
  subst hv
  exact K _ ⟨gl_pu_s S _ _, (gl_pu_n S _ (by decide)).trans h.2.1, (gl_pu_n S _ (by decide)).trans h.2.2.1, fun j h1 h2 h3 => (gl_pu_n S _ (by omega)).trans (h.2.2.2 j h1 h2 h3)⟩ (hf.pu (by decide) (by decide))
theorem MPs_fr {v9 : Int32} (h : MPR S (A) (py) (n) (day) (tc) (gc) (vs) (fr) (mt) (mc)) (hf : Fr 70 95 S0 S) (K : ∀ S1, MPR S1 (A) (py) (n) (day) (tc) (gc) (vs) (v9) (mt) (mc) → Fr 70 95 S0 S1 → GG M x Z pc ls st S1 k) : GG M x Z pc ls st (gl_pu S 70 (.inr (7, [.ref 71, .int (nI n), .int (nI day), .int (nI tc), .int (nI gc), .int (nI vs), .ref 72, .ref 73, .ref 74, .ref 75, .ref 76, .ref 77, .ref 78, .ref 79, .ref 80, .ref 81, .ref 82, .ref 83, .ref 84, .ref 85, .ref 86, .ref 87, .ref 88, .ref 89, .ref 90, .ref 91, .ref 92, .int (v9), .ref 93, .ref 94, .int (mt), .int (mc)]))) k := by
  exact K _ ⟨gl_pu_s S _ _, (gl_pu_n S _ (by decide)).trans h.2.1, (gl_pu_n S _ (by decide)).trans h.2.2.1, fun j h1 h2 h3 => (gl_pu_n S _ (by omega)).trans (h.2.2.2 j h1 h2 h3)⟩ (hf.pu (by decide) (by decide))
theorem MPs_mt {v9 : Int32} (h : MPR S (A) (py) (n) (day) (tc) (gc) (vs) (fr) (mt) (mc)) (hf : Fr 70 95 S0 S) (K : ∀ S1, MPR S1 (A) (py) (n) (day) (tc) (gc) (vs) (fr) (v9) (mc) → Fr 70 95 S0 S1 → GG M x Z pc ls st S1 k) : GG M x Z pc ls st (gl_pu S 70 (.inr (7, [.ref 71, .int (nI n), .int (nI day), .int (nI tc), .int (nI gc), .int (nI vs), .ref 72, .ref 73, .ref 74, .ref 75, .ref 76, .ref 77, .ref 78, .ref 79, .ref 80, .ref 81, .ref 82, .ref 83, .ref 84, .ref 85, .ref 86, .ref 87, .ref 88, .ref 89, .ref 90, .ref 91, .ref 92, .int (fr), .ref 93, .ref 94, .int (v9), .int (mc)]))) k := by
  exact K _ ⟨gl_pu_s S _ _, (gl_pu_n S _ (by decide)).trans h.2.1, (gl_pu_n S _ (by decide)).trans h.2.2.1, fun j h1 h2 h3 => (gl_pu_n S _ (by omega)).trans (h.2.2.2 j h1 h2 h3)⟩ (hf.pu (by decide) (by decide))
theorem MPs_mc {v9 : Int32} (h : MPR S (A) (py) (n) (day) (tc) (gc) (vs) (fr) (mt) (mc)) (hf : Fr 70 95 S0 S) (K : ∀ S1, MPR S1 (A) (py) (n) (day) (tc) (gc) (vs) (fr) (mt) (v9) → Fr 70 95 S0 S1 → GG M x Z pc ls st S1 k) : GG M x Z pc ls st (gl_pu S 70 (.inr (7, [.ref 71, .int (nI n), .int (nI day), .int (nI tc), .int (nI gc), .int (nI vs), .ref 72, .ref 73, .ref 74, .ref 75, .ref 76, .ref 77, .ref 78, .ref 79, .ref 80, .ref 81, .ref 82, .ref 83, .ref 84, .ref 85, .ref 86, .ref 87, .ref 88, .ref 89, .ref 90, .ref 91, .ref 92, .int (fr), .ref 93, .ref 94, .int (mt), .int (v9)]))) k := by
  exact K _ ⟨gl_pu_s S _ _, (gl_pu_n S _ (by decide)).trans h.2.1, (gl_pu_n S _ (by decide)).trans h.2.2.1, fun j h1 h2 h3 => (gl_pu_n S _ (by omega)).trans (h.2.2.2 j h1 h2 h3)⟩ (hf.pu (by decide) (by decide))
end MPS
theorem up2_2 {α : Type} (f : Nat → α) (t : Nat) (v w : α) : up2 (up2 f t v) t w = up2 f t w := funext (fun i => by
  unfold up2
  by_cases e : i = t
  · rw [if_pos e, if_pos e]
  · rw [if_neg e, if_neg e, if_neg e])
theorem pu_step {S0 S : gl_H} {A : Nat → Nat → Int32} {py : Nat → Int64} {n day tc gc vs : Nat} {fr mt mc : Int32} {v s : Int32} {Z : State → Prop} (hM : MPR S (A) (py) (n) (day) (tc) (gc) (vs) (fr) (mt) (mc)) (hf : Fr 70 95 S0 S) (hn : n < 60) (hs : ¬ s < 0) (x : gl_X) (K : ∀ S1, MPR S1 (up2 A 0 (ap1 (A 0) n v s)) (py) (n + 1) (day) (tc) (gc) (vs) (fr) (mt) (mc) → Fr 70 95 S0 S1 → GG mX7_push x Z 3 [some (.ref 70), some (.int v), some (.int (s + Int32.ofInt (-8)))] [] S1 (0, 0)) : GG mX7_push x Z 3 [some (.ref 70), some (.int v), some (.int s)] [] S (0, 0) := by
  refine gg_iload_n dX7_push_3 rfl rfl ?_
  refine gg_if_lt (tgt := 36) dX7_push_4 (by decide) (fun c4 => ?_) (fun c4 => ?_)
  · exact absurd c4 hs
  · refine gg_aload_n dX7_push_7 rfl rfl ?_
    refine gf_X7_7 rfl dX7_push_8 hM.1 rfl ?_
    refine gg_aload_n dX7_push_11 rfl rfl ?_
    refine gf_X7_89 rfl dX7_push_12 hM.1 rfl ?_
    refine gg_iload_n dX7_push_15 rfl rfl ?_
    refine gg_iload_n dX7_push_16 rfl rfl ?_
    refine gg_ishr dX7_push_17 ?_
    refine gg_i2b dX7_push_18 ?_
    refine gg_ast_b (n) dX7_push_19 hM.2.1 rfl hn (by decide) ?_
    rw [pk_vb]
    refine MPs_tape hM hf (fun S hM hf => ?_)
    refine gg_aload_n dX7_push_20 rfl rfl ?_
    refine gg_dup dX7_push_21 rfl ?_
    refine gf_X7_89 rfl dX7_push_22 hM.1 rfl ?_
    refine gg_iconst (v := 1) dX7_push_25 (by decide) ?_
    refine gg_iadd dX7_push_26 ?_
    refine pf_X7_89 rfl dX7_push_27 hM.1 (Nat.le_of_ble_eq_true rfl) ?_
    refine MPs_n (n + 1) (nI_1 n) hM hf (fun S hM hf => ?_)
    refine gg_iinc (w := _) dX7_push_30 rfl rfl (Nat.le_of_ble_eq_true rfl) rfl ?_
    refine gg_goto (tgt := 3) dX7_push_33 (by decide) ?_
    exact K S hM hf
theorem sp_X7_push {S : gl_H} {A : Nat → Nat → Int32} {py : Nat → Int64} {n day tc gc vs : Nat} {fr mt mc : Int32} (hM : MPR S (A) (py) (n) (day) (tc) (gc) (vs) (fr) (mt) (mc)) (hn : n + 4 ≤ 60) (v : Int32) : Sp mX7_push yX7_push [.ref 70, .int v] S (fun r S1 => r = none ∧ MPR S1 (up2 A 0 (ap4 (A 0) n v)) (py) (n + 4) (day) (tc) (gc) (vs) (fr) (mt) (mc) ∧ Fr 70 95 S S1) := by
  refine gl_enter (j := 1) (by decide +kernel) rfl (fun h => absurd h (by decide)) (Nat.le_of_ble_eq_true rfl) rfl (fun x => ?_)
  refine gg_bipush (v := 24) dX7_push_0 (by decide) ?_
  refine gg_istore_n dX7_push_2 rfl (Nat.le_of_ble_eq_true rfl) rfl ?_
  refine pu_step (v := v) (s := 24) hM Fr.rf (by omega) (by decide) x (fun S hM hf => ?_)
  refine pu_step (v := v) (s := 16) hM hf (by omega) (by decide) x (fun S hM hf => ?_)
  refine pu_step (v := v) (s := 8) hM hf (by omega) (by decide) x (fun S hM hf => ?_)
  refine pu_step (v := v) (s := 0) hM hf (by omega) (by decide) x (fun S hM hf => ?_)
  rw [up2_2, up2_2, up2_2] at hM
  refine gg_iload_n dX7_push_3 rfl rfl ?_
  refine gg_if_lt (tgt := 36) dX7_push_4 (by decide) (fun c4 => ?_) (fun c4 => absurd (by decide) c4)
  exact gg_return dX7_push_36 rfl ⟨(Nat.le_of_ble_eq_true rfl), (Nat.le_of_ble_eq_true rfl)⟩ ⟨rfl, hM, hf⟩
theorem sp_X7_feed {S : gl_H} {A : Nat → Nat → Int32} {py : Nat → Int64} {n day tc gc vs : Nat} {fr mt mc : Int32} (hM : MPR S (A) (py) (n) (day) (tc) (gc) (vs) (fr) (mt) (mc)) (hn : n ≤ 60) (a b c d e : Int32) : Sp mX7_feed yX7_feed [.ref 70, .int a, .int b, .int c, .int d, .int e] S (fun r S1 => r = some (.int (if n ≤ 40 then nI (n + 20) else -1)) ∧ (if n ≤ 40 then MPR S1 (up2 A 0 (ap4 (ap4 (ap4 (ap4 (ap4 (A 0) n a) (n + 4) b) (n + 4 + 4) c) (n + 4 + 4 + 4) d) (n + 4 + 4 + 4 + 4) e)) (py) (n + 20) (day) (tc) (gc) (vs) (fr) (mt) (mc) else MPR S1 (A) (py) (n) (day) (tc) (gc) (vs) (fr) (mt) (mc)) ∧ Fr 70 95 S S1) := by
  refine gl_enter (j := 0) (by decide +kernel) rfl (fun h => absurd h (by decide)) (Nat.le_of_ble_eq_true rfl) rfl (fun x => ?_)
  have hf : Fr 70 95 S S := Fr.rf
  by_cases c40 : n ≤ 40
  · simp only [if_pos c40]
    refine gg_aload_n dX7_feed_0 rfl rfl ?_
    refine gf_X7_89 rfl dX7_feed_1 hM.1 rfl ?_
    refine gg_bipush (v := 20) dX7_feed_4 (by decide) ?_
    refine gg_iadd dX7_feed_6 ?_
    refine gg_bipush (v := 60) dX7_feed_7 (by decide) ?_
    refine gg_icmp_le (tgt := 14) dX7_feed_9 (by decide) (fun c9 => ?_) (fun c9 => ?_)
    · refine gg_aload_n dX7_feed_14 rfl rfl ?_
      refine gg_iload_n dX7_feed_15 rfl rfl ?_
      refine gg_callV (sp_X7_push hM (by omega) a) dX7_feed_16 kw_X7_93 rfl hM.1 rfl rfl (Nat.le_of_ble_eq_true rfl) (Nat.le_of_ble_eq_true rfl) (Nat.le_of_ble_eq_true rfl) ⟨(Nat.le_of_ble_eq_true rfl), (Nat.le_of_ble_eq_true rfl)⟩ (fun r S1 hq => ?_)
      refine gg_k (k2 := (0, 0)) rfl ?_
      obtain ⟨rfl, hM, hf1⟩ := hq
      have hf := hf.tr hf1
      clear hf1
      revert S1
      intro S hM hf
      refine gg_aload_n dX7_feed_19 rfl rfl ?_
      refine gg_iload_n dX7_feed_20 rfl rfl ?_
      refine gg_callV (sp_X7_push hM (by omega) b) dX7_feed_21 kw_X7_93 rfl hM.1 rfl rfl (Nat.le_of_ble_eq_true rfl) (Nat.le_of_ble_eq_true rfl) (Nat.le_of_ble_eq_true rfl) ⟨(Nat.le_of_ble_eq_true rfl), (Nat.le_of_ble_eq_true rfl)⟩ (fun r S1 hq => ?_)
      refine gg_k (k2 := (0, 0)) rfl ?_
      obtain ⟨rfl, hM, hf1⟩ := hq
      have hf := hf.tr hf1
      clear hf1
      revert S1
      intro S hM hf
      refine gg_aload_n dX7_feed_24 rfl rfl ?_
      refine gg_iload_n dX7_feed_25 rfl rfl ?_
      refine gg_callV (sp_X7_push hM (by omega) c) dX7_feed_26 kw_X7_93 rfl hM.1 rfl rfl (Nat.le_of_ble_eq_true rfl) (Nat.le_of_ble_eq_true rfl) (Nat.le_of_ble_eq_true rfl) ⟨(Nat.le_of_ble_eq_true rfl), (Nat.le_of_ble_eq_true rfl)⟩ (fun r S1 hq => ?_)
      refine gg_k (k2 := (0, 0)) rfl ?_
      obtain ⟨rfl, hM, hf1⟩ := hq
      have hf := hf.tr hf1
      clear hf1
      revert S1
      intro S hM hf
      refine gg_aload_n dX7_feed_29 rfl rfl ?_
      refine gg_iload dX7_feed_30 rfl ?_
      refine gg_callV (sp_X7_push hM (by omega) d) dX7_feed_32 kw_X7_93 rfl hM.1 rfl rfl (Nat.le_of_ble_eq_true rfl) (Nat.le_of_ble_eq_true rfl) (Nat.le_of_ble_eq_true rfl) ⟨(Nat.le_of_ble_eq_true rfl), (Nat.le_of_ble_eq_true rfl)⟩ (fun r S1 hq => ?_)
      refine gg_k (k2 := (0, 0)) rfl ?_
      obtain ⟨rfl, hM, hf1⟩ := hq
      have hf := hf.tr hf1
      clear hf1
      revert S1
      intro S hM hf
      refine gg_aload_n dX7_feed_35 rfl rfl ?_
      refine gg_iload dX7_feed_36 rfl ?_
      refine gg_callV (sp_X7_push hM (by omega) e) dX7_feed_38 kw_X7_93 rfl hM.1 rfl rfl (Nat.le_of_ble_eq_true rfl) (Nat.le_of_ble_eq_true rfl) (Nat.le_of_ble_eq_true rfl) ⟨(Nat.le_of_ble_eq_true rfl), (Nat.le_of_ble_eq_true rfl)⟩ (fun r S1 hq => ?_)
      refine gg_k (k2 := (0, 0)) rfl ?_
      obtain ⟨rfl, hM, hf1⟩ := hq
      have hf := hf.tr hf1
      clear hf1
      revert S1
      intro S hM hf
      refine gg_aload_n dX7_feed_41 rfl rfl ?_
      refine gf_X7_89 rfl dX7_feed_42 hM.1 rfl ?_
      rw [up2_2, up2_2, up2_2, up2_2] at hM
      exact gg_ireturn dX7_feed_45 rfl rfl ⟨(Nat.le_of_ble_eq_true rfl), (Nat.le_of_ble_eq_true rfl)⟩ (⟨rfl, hM, hf⟩)
    · exact absurd (show nI n + 20 ≤ 60 by rw [show nI n + 20 = nI (n + 20) from nI_add n 20]; exact nI_le (a := n + 20) (b := 60) (by omega) (by omega)) c9
  · simp only [if_neg c40]
    refine gg_aload_n dX7_feed_0 rfl rfl ?_
    refine gf_X7_89 rfl dX7_feed_1 hM.1 rfl ?_
    refine gg_bipush (v := 20) dX7_feed_4 (by decide) ?_
    refine gg_iadd dX7_feed_6 ?_
    refine gg_bipush (v := 60) dX7_feed_7 (by decide) ?_
    refine gg_icmp_le (tgt := 14) dX7_feed_9 (by decide) (fun c9 => ?_) (fun c9 => ?_)
    · exact absurd (n_le (a := n + 20) (b := 60) (by rw [← nI_add]; exact c9)) (by omega)
    · refine gg_iconst (v := -1) dX7_feed_12 (by decide) ?_
      exact gg_ireturn dX7_feed_13 rfl rfl ⟨(Nat.le_of_ble_eq_true rfl), (Nat.le_of_ble_eq_true rfl)⟩ (⟨rfl, hM, hf⟩)
