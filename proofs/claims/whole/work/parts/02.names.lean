/-! ===== BEGIN words of one list among another's, by their places ===== -/
theorem goodIn_r {big : List Cond} (ws : List Cond) (ps : List Nat) (hp : ws = ps.filterMap (fun i => big[i]?)) (h : ws.all goodWord = true) : GoodIn big ws := by
  intro w hw
  have h1 := List.all_eq_true.mp h w hw
  rw [hp] at hw
  obtain ⟨i, -, hi⟩ := List.mem_filterMap.mp hw
  have hm : w ∈ big := by first | exact List.mem_of_getElem? hi | exact List.getElem?_mem hi
  exact ⟨hm, good_of_word h1⟩
theorem goodIn_app {big a b : List Cond} (ha : GoodIn big a) (hb : GoodIn big b) : GoodIn big (a ++ b) := fun w h => (List.mem_append.mp h).elim (ha w) (hb w)
theorem goodIn_ca {big a b : List Cond} {c : Cond} (ha : GoodIn big (c :: a)) (hb : GoodIn big b) : GoodIn big (c :: (a ++ b)) := fun w h => (List.mem_cons.mp h).elim (fun e => ha w (List.mem_cons.mpr (Or.inl e))) (fun h => (List.mem_append.mp h).elim (fun h => ha w (List.mem_cons.mpr (Or.inr h))) (hb w))
theorem goodIn_sub {big ws : List Cond} (hm : ∀ w ∈ ws, w ∈ big) (h : ws.all goodWord = true) : GoodIn big ws := fun w hw => ⟨hm w hw, good_of_word (List.all_eq_true.mp h w hw)⟩
/-! ===== END ===== -/

def va_AOA (ty : FieldType) (U : State) : Prop := (Cond.arrayOver (.array ty)).before #[] U = true
theorem va_AOA.use {ty : FieldType} {A : Array Value} {U : State} (h : va_AOA ty U) : (Cond.arrayOver (.array ty)).before A U = true := h
/-! ===== BEGIN new T[n][m]: the outer array a place, the inner ones among the pooled ===== -/
/-- f, but v at every address of l -/
def vr_up {α : Type} (f : Nat → α) (l : List Nat) (v : α) : Nat → α := fun a => if a ∈ l then v else f a
theorem vr_up_in {α : Type} {f : Nat → α} {l : List Nat} {v : α} {a : Nat} (h : a ∈ l) : vr_up f l v a = v := if_pos h
theorem vr_up_ne {α : Type} {f : Nat → α} {l : List Nat} {v : α} {a : Nat} (h : a ∉ l) : vr_up f l v a = f a := if_neg h
theorem vr_rows {L l : List Nat} {f : Nat → va_E} {e : va_E} (h : ∀ a, a ∈ l → a ∉ L) : va_pl L f ++ l.map (fun a => (a, e)) = va_pl (L ++ l) (vr_up f l e) := by
  unfold va_pl
  rw [List.map_append]
  congr 1
  · apply List.map_congr_left
    intro a ha
    rw [vr_up_ne (fun q => h a q ha)]
  · apply List.map_congr_left
    intro a ha
    rw [vr_up_in ha]
theorem vr_lay {X rows : va_W} {x : Nat × va_E} {pl : va_W} {D : va_G} {cl : List vw_C} {H : Heap} (hP : va_P D cl (((X ++ pl) ++ [x]) ++ rows) H) : va_P D cl ((X ++ [x]) ++ (pl ++ rows)) H := by
  rw [List.append_assoc (X ++ pl)] at hP
  have h := va_P.swap hP
  rw [← List.append_assoc X] at h
  have h2 := va_P.swap h
  rw [List.append_assoc (X ++ [x])] at h2
  exact h2
theorem vr_layD {X rows : va_W} {x : Nat × va_E} {pl : va_W} {A : Nat → Prop} (hD : va_D A (((X ++ pl) ++ [x]) ++ rows)) : va_D A ((X ++ [x]) ++ (pl ++ rows)) := by
  rw [List.append_assoc (X ++ pl)] at hD
  have h := va_D.swap hD
  rw [← List.append_assoc X] at h
  have h2 := va_D.swap h
  rw [List.append_assoc (X ++ [x])] at h2
  exact h2
theorem vr_outer (c : ClassId) (N h0 : Nat) : ∀ i : Nat, Jvm.Free.Multi.outerC c N h0 i = arrV c N (fun j => va_rf (if j < i then some (h0 + 1 + j) else none))
  | 0 => by
    show ({ cls := c, slots := Array.replicate N .null, vm := .none } : Cell) = _
    rw [arrV_new]
    refine congrArg (arrV c N) (funext fun j => ?_)
    simp [va_rf]
  | i + 1 => by
    show (Jvm.Free.Multi.outerC c N h0 i).setSlot i (.ref (h0 + 1 + i)) = _
    rw [vr_outer c N h0 i, arrV_store]
    refine congrArg (arrV c N) (funext fun j => ?_)
    by_cases e : j = i
    · subst e
      simp [updV, va_rf]
    · by_cases h : j < i
      · simp [updV, e, h, Nat.lt_succ_of_lt h]
      · simp [updV, e, h, show ¬ j < i + 1 by omega]
section VGM
variable {p : Program} {l : Launch} {e : Env} {R : Room} {s : State} {m : MethodId} {args : Array Value} {below : List Frame} {meth : Method} {c : Code} {H : Heap} {locs : List Loc} {cells slots : Nat} {Q : State → Prop}
variable {cc : ByteArray} {pc : Nat} {ls : Array Slot} {rest : List Value} {D : va_G} {cl : List vw_C} {A : Nat → Prop} {a : Nat} {tys : List (ClassId × FieldType)} {ws : va_W} {H0 : Heap}
theorem va_mna {X : va_W} {L : List Nat} {f : Nat → va_E} {cc : ByteArray} (hexec : p.tables.exec = Jvm.exec) (hb : c.code = cc) {own : String} {index : Nat} {ty : FieldType} {cy : ClassId} (hown : s.vm.findClass own = some m.cls) (hclink : (Cond.classLink own index ("[" ++ (FieldType.array ty).toString)).before args s = true) (hover : va_AOA ty s) (harr : (Cond.arrayClass ty).before args s = true) (hcy : s.vm.findClass (FieldType.array ty).toString = some cy)
    (hK : va_K D cl tys s) (hP : va_P D cl (X ++ va_pl L f) H) (hD : va_D A (X ++ va_pl L f)) (hS : va_S A H0 H locs) (hA : ∀ q, H0.size ≤ q → A q) {n k : Int32} {N' K' : Nat} {z : vp_A} (hn : ¬ n < 0) (hk : ¬ k < 0) (hN : n.toNatClampNeg = N') (hM : k.toNatClampNeg = K')
    (hb1 : N' * 4 ≤ 536870912) (hb2 : K' * componentBytes ty ≤ 536870912) (hb3 : K' ≤ 536870912) (hdf : fits ty (defaultValue ty) = true) (hdd : (defaultValue ty).isDefault = true) (hcells : cells + (1 + N') ≤ R.cells) (hslots : slots + (N' + N' * K') ≤ R.slots) (hz : ∀ c : ClassId, Jvm.Free.Multi.innerC c K' (defaultValue ty) = vp_cell c z) (hdg : decode cc pc = .ok (.multianewarray index 2, 4))
    (kk : ∀ (q : Nat) (r : Nat → Nat) (cA : ClassId) (H1 : Heap), (∀ i j : Nat, i < N' → j < N' → r i = r j → i = j) → (∀ i : Nat, i < N' → r i ∉ L) → va_K D cl (tys ++ [(cA, .array ty)]) s →
      va_P D cl ((X ++ [(q, .inl (cA, N', .inr (.inr (.inr (.inr (fun i => if i < N' then some (r i) else none))))))]) ++ va_pl (L ++ (List.range N').map r) (vr_up f ((List.range N').map r) (.inl (cy, z)))) H1 → va_D A ((X ++ [(q, .inl (cA, N', .inr (.inr (.inr (.inr (fun i => if i < N' then some (r i) else none))))))]) ++ va_pl (L ++ (List.range N').map r) (vr_up f ((List.range N').map r) (.inl (cy, z)))) → va_S A H0 H1 locs →
      W p l e R s m args below meth c H1 locs (cells + 1 + N') (slots + N' + N' * K') Q (F0 m (pc + 4) ls (.ref q :: rest))) : W p l e R s m args below meth c H locs cells slots Q (F0 m pc ls (.int k :: .int n :: rest)) := by
  subst hN
  subst hM
  intro T hT Xs
  obtain ⟨vm₁, cA, comp, -, fA, fC, hO, -, X', step⟩ := Xs.multianewarray2F hexec hown hclink (va_AOA.use hover) harr (g := F0 m pc ls (.int k :: .int n :: rest)) rfl (by rw [hb]; exact hdg) rfl hn hk hb1 hb2 hb3 hdf hdd hcells hslots
  have ec : some cy = some comp := hcy.symm.trans fC
  cases ec
  generalize hF : Jvm.Free.Multi.fill (T.setVm vm₁) cA cy n.toNatClampNeg k.toNatClampNeg (defaultValue ty) n.toNatClampNeg = F at X' step
  have hTh : (T.setVm vm₁).heap = H := hT
  obtain ⟨f1, f2, -, -⟩ := Jvm.Free.Multi.fill_facts (T.setVm vm₁) cA cy n.toNatClampNeg k.toNatClampNeg (defaultValue ty) n.toNatClampNeg
  rw [hF, hTh] at f1 f2
  have hold : ∀ x : Nat, x < H.size → F.heap[x]? = H[x]? := fun x hx => by
    have := Jvm.Free.Multi.fill_old (T.setVm vm₁) cA cy n.toNatClampNeg k.toNatClampNeg (defaultValue ty) (a := x) (by rw [hTh]; exact hx) n.toNatClampNeg
    rw [hF, hTh] at this
    exact this
  have hrow : ∀ j : Nat, j < n.toNatClampNeg → F.heap[H.size + 1 + j]? = some (vp_cell cy z) := fun j hj => by
    have := Jvm.Free.Multi.fill_inner (T.setVm vm₁) cA cy n.toNatClampNeg k.toNatClampNeg (defaultValue ty) n.toNatClampNeg j hj
    rw [hF, hTh, hz] at this
    exact this
  have hout : Jvm.Free.Multi.outerC cA n.toNatClampNeg H.size n.toNatClampNeg = vp_cell cA (n.toNatClampNeg, .inr (.inr (.inr (.inr (fun i => if i < n.toNatClampNeg then some (H.size + 1 + i) else none))))) := by
    rw [vp_cell_q]
    exact vr_outer cA n.toNatClampNeg H.size n.toNatClampNeg
  rw [hout] at f2
  have hlt : ∀ a, a ∈ L → a < H.size := fun a ha => by
    obtain ⟨k9, hk9⟩ := va_pl_get (X := X) (f := f) ha
    exact (hP k9 _ hk9).lt
  have hnl : ∀ i : Nat, i < n.toNatClampNeg → H.size + 1 + i ∉ L := fun i _ h => by
    have := hlt _ h
    omega
  have hnm : ∀ a, a ∈ (List.range n.toNatClampNeg).map (fun i => H.size + 1 + i) → a ∉ L := fun a ha h => by
    obtain ⟨i, -, rfl⟩ := List.mem_map.mp ha
    have := hlt _ h
    omega
  have hP0 : va_P D cl (X ++ va_pl L f) F.heap := hP.kept (fun k9 x hx => hold x.1 ((hP k9 x hx).lt))
  have hP1 : va_P D cl ((X ++ va_pl L f) ++ [(H.size, .inl (cA, n.toNatClampNeg, .inr (.inr (.inr (.inr (fun i => if i < n.toNatClampNeg then some (H.size + 1 + i) else none))))))]) F.heap := hP0.app (fun k9 x hx => by
    have h0 : k9 < 1 := (List.getElem?_eq_some_iff.mp hx).1
    rw [show k9 = 0 by omega] at hx
    cases hx
    exact f2)
  have hP2 : va_P D cl (((X ++ va_pl L f) ++ [(H.size, .inl (cA, n.toNatClampNeg, .inr (.inr (.inr (.inr (fun i => if i < n.toNatClampNeg then some (H.size + 1 + i) else none))))))]) ++ ((List.range n.toNatClampNeg).map (fun i => H.size + 1 + i)).map (fun a => (a, .inl (cy, z)))) F.heap := hP1.app (fun k9 x hx => by
    obtain ⟨a, ha, rfl⟩ := List.mem_map.mp (List.mem_of_getElem? hx)
    obtain ⟨i, hi, rfl⟩ := List.mem_map.mp ha
    exact hrow i (List.mem_range.mp hi))
  have hD2 : va_D A (((X ++ va_pl L f) ++ [(H.size, .inl (cA, n.toNatClampNeg, .inr (.inr (.inr (.inr (fun i => if i < n.toNatClampNeg then some (H.size + 1 + i) else none))))))]) ++ ((List.range n.toNatClampNeg).map (fun i => H.size + 1 + i)).map (fun a => (a, .inl (cy, z)))) := by
    have hD1 := hD.push (e := .inl (cA, n.toNatClampNeg, .inr (.inr (.inr (.inr (fun i => if i < n.toNatClampNeg then some (H.size + 1 + i) else none)))))) hP rfl (hA _ hS.1)
    generalize hW1 : (X ++ va_pl L f) ++ [(H.size, .inl (cA, n.toNatClampNeg, .inr (.inr (.inr (.inr (fun i => if i < n.toNatClampNeg then some (H.size + 1 + i) else none))))))] = W1 at hD1 hP1 ⊢
    have hle : ∀ (k9 : Nat) (x : Nat × va_E), W1[k9]? = some x → x.1 ≤ H.size := fun k9 x hx => by
      rw [← hW1] at hx
      by_cases hl : k9 < (X ++ va_pl L f).length
      · rw [List.getElem?_append_left hl] at hx
        exact Nat.le_of_lt ((hP k9 x hx).lt)
      · rw [List.getElem?_append_right (by omega)] at hx
        have h0 : k9 - (X ++ va_pl L f).length < 1 := (List.getElem?_eq_some_iff.mp hx).1
        rw [show k9 - (X ++ va_pl L f).length = 0 by omega] at hx
        cases hx
        exact Nat.le_refl _
    have hr : ∀ (k9 : Nat) (x : Nat × va_E), (((List.range n.toNatClampNeg).map (fun i => H.size + 1 + i)).map (fun a => ((a, .inl (cy, z)) : Nat × va_E)))[k9]? = some x → x.1 = H.size + 1 + k9 := fun k9 x hx => by
      rw [List.getElem?_map, List.getElem?_map] at hx
      by_cases h9 : k9 < n.toNatClampNeg
      · rw [List.getElem?_range h9] at hx
        cases hx
        rfl
      · have hn0 : (List.range n.toNatClampNeg)[k9]? = none := List.getElem?_eq_none (by rw [List.length_range]; omega)
        rw [hn0] at hx
        cases hx
    refine ⟨fun i j x y hi hj hxy => ?_, fun k9 x hx => ?_⟩
    · by_cases h1 : i < W1.length <;> by_cases h2 : j < W1.length
      · rw [List.getElem?_append_left h1] at hi
        rw [List.getElem?_append_left h2] at hj
        exact hD1.1 i j x y hi hj hxy
      · rw [List.getElem?_append_left h1] at hi
        rw [List.getElem?_append_right (by omega)] at hj
        have := hle _ _ hi
        have := hr _ _ hj
        omega
      · rw [List.getElem?_append_right (by omega)] at hi
        rw [List.getElem?_append_left h2] at hj
        have := hle _ _ hj
        have := hr _ _ hi
        omega
      · rw [List.getElem?_append_right (by omega)] at hi hj
        have := hr _ _ hi
        have := hr _ _ hj
        omega
    · by_cases h1 : k9 < W1.length
      · rw [List.getElem?_append_left h1] at hx
        exact hD1.2 k9 x hx
      · rw [List.getElem?_append_right (by omega)] at hx
        have := hr _ _ hx
        exact hA _ (by have := hS.1; omega)
  have hAr : ArrOfT s cA (.array ty) := fun N9 z9 => by
    obtain ⟨-, k9, hk9, cm9, hkk9⟩ := (hO 0 0 0).1
    exact ⟨(fun q hq => by cases hq), k9, hk9, cm9, hkk9⟩
  have hK2 : va_K D cl (tys ++ [(cA, .array ty)]) s := ⟨hK.1, fun k9 x hx => by
    by_cases hl : k9 < tys.length
    · rw [List.getElem?_append_left hl] at hx
      exact hK.2 k9 x hx
    · rw [List.getElem?_append_right (by omega)] at hx
      have h0 : k9 - tys.length < 1 := (List.getElem?_eq_some_iff.mp hx).1
      rw [show k9 - tys.length = 0 by omega] at hx
      cases hx
      exact ⟨hAr, fA⟩⟩
  obtain ⟨t, a1, b1⟩ := kk H.size (fun i => H.size + 1 + i) cA F.heap (fun i j _ _ h => by have h9 : H.size + 1 + i = H.size + 1 + j := h; omega) hnl hK2 (by rw [← vr_rows hnm]; exact vr_lay hP2) (by rw [← vr_rows hnm]; exact vr_layD hD2) ⟨by rw [f1]; have := hS.1; omega, fun x h1 h2 => (hold x (Nat.lt_of_lt_of_le h1 hS.1)).trans (hS.2.1 x h1 h2), hS.2.2⟩ F rfl X'
  refine ⟨t, step t ?_, b1⟩
  have e : T.heap.size = H.size := by rw [hT]
  rw [e]
  exact a1
end VGM
/-! ===== END ===== -/

/-! ===== BEGIN printed: names, fields, word lists, decode rows ===== -/
def RX0 : String := "MorningDesk$Gap"
def TX0 : u_T := fun k => match k with
  | 0 => ("MorningDesk$Gap", "school", "I", true)
  | 1 => ("MorningDesk$Gap", "klass", "I", true)
  | 2 => ("MorningDesk$Gap", "subject", "I", true)
  | 3 => ("MorningDesk$Gap", "age", "I", true)
  | _ => ("MorningDesk$Gap", "hours", "I", true)
def tyX0 : Nat → FieldType := fun k => match k with
  | 0 => .int
  | 1 => .int
  | 2 => .int
  | 3 => .int
  | _ => .int
abbrev wsX00 : List Cond := u_ws RX0 TX0 5
theorem nmX0 : ∀ a, a < 5 → ∀ b, b < 5 → a ≠ b → (TX0 a).2.1 ≠ (TX0 b).2.1 := by decide +kernel
theorem tyX0_ok : ∀ k, k < 5 → parseFieldDescriptor (TX0 k).2.2.1 = some (tyX0 k) := by decide +kernel
abbrev cX0_init : ByteArray := prog_2_method_1_code
def yX0_init : MethodName := ⟨RX0, "<init>", "(IIIII)V"⟩
def RX1 : String := "MorningDesk$Matching"
def TX1 : u_T := fun k => match k with
  | 0 => ("MorningDesk$Matching", "weights", "[[J", true)
  | 1 => ("MorningDesk$Matching", "takers", "[I", true)
  | 2 => ("MorningDesk$Matching", "openGaps", "I", false)
  | 3 => ("MorningDesk$Matching", "teacherOf", "[I", true)
  | 4 => ("MorningDesk$Matching", "taken", "I", false)
  | 5 => ("MorningDesk$Matching", "toLose", "[J", true)
  | _ => ("MorningDesk$Matching", "loserTo", "[I", true)
def tyX1 : Nat → FieldType := fun k => match k with
  | 0 => .array (.array .long)
  | 1 => .array .int
  | 2 => .int
  | 3 => .array .int
  | 4 => .int
  | 5 => .array .long
  | _ => .array .int
abbrev wsX10 : List Cond := u_ws RX1 TX1 7
theorem nmX1 : ∀ a, a < 7 → ∀ b, b < 7 → a ≠ b → (TX1 a).2.1 ≠ (TX1 b).2.1 := by decide +kernel
theorem tyX1_ok : ∀ k, k < 7 → parseFieldDescriptor (TX1 k).2.2.1 = some (tyX1 k) := by decide +kernel
abbrev cX1_init : ByteArray := prog_3_method_1_code
def yX1_init : MethodName := ⟨RX1, "<init>", "()V"⟩
abbrev cX1_clear : ByteArray := prog_3_method_2_code
def yX1_clear : MethodName := ⟨RX1, "clear", "()V"⟩
abbrev cX1_open : ByteArray := prog_3_method_3_code
def yX1_open : MethodName := ⟨RX1, "open", "(I)V"⟩
abbrev cX1_offer : ByteArray := prog_3_method_4_code
def yX1_offer : MethodName := ⟨RX1, "offer", "(III)V"⟩
abbrev cX1_solve : ByteArray := prog_3_method_5_code
def yX1_solve : MethodName := ⟨RX1, "solve", "()V"⟩
abbrev cX1_teacherFor : ByteArray := prog_3_method_6_code
def yX1_teacherFor : MethodName := ⟨RX1, "teacherFor", "(I)I"⟩
abbrev cX1_gapFor : ByteArray := prog_3_method_7_code
def yX1_gapFor : MethodName := ⟨RX1, "gapFor", "(I)I"⟩
abbrev cX1_filled : ByteArray := prog_3_method_8_code
def yX1_filled : MethodName := ⟨RX1, "filled", "()I"⟩
abbrev cX1_costInAll : ByteArray := prog_3_method_9_code
def yX1_costInAll : MethodName := ⟨RX1, "costInAll", "()I"⟩
abbrev cX1_fewestUnfillable : ByteArray := prog_3_method_10_code
def yX1_fewestUnfillable : MethodName := ⟨RX1, "fewestUnfillable", "()I"⟩
abbrev cX1_takersOf : ByteArray := prog_3_method_11_code
def yX1_takersOf : MethodName := ⟨RX1, "takersOf", "(I)I"⟩
abbrev cX1_isGap : ByteArray := prog_3_method_12_code
def yX1_isGap : MethodName := ⟨RX1, "isGap", "(I)Z"⟩
abbrev cX1_digit : ByteArray := prog_3_method_13_code
def yX1_digit : MethodName := ⟨RX1, "digit", "(II)J"⟩
abbrev cX1_weightOf : ByteArray := prog_3_method_14_code
def yX1_weightOf : MethodName := ⟨RX1, "weightOf", "(II)J"⟩
abbrev cX1_bringIn : ByteArray := prog_3_method_15_code
def yX1_bringIn : MethodName := ⟨RX1, "bringIn", "(I)V"⟩
abbrev cX1_findChains : ByteArray := prog_3_method_16_code
def yX1_findChains : MethodName := ⟨RX1, "findChains", "(I)V"⟩
abbrev cX1_lengthenChains : ByteArray := prog_3_method_17_code
def yX1_lengthenChains : MethodName := ⟨RX1, "lengthenChains", "(II)Z"⟩
abbrev cX1_cheapestEnd : ByteArray := prog_3_method_18_code
def yX1_cheapestEnd : MethodName := ⟨RX1, "cheapestEnd", "(I)I"⟩
abbrev cX1_shiftAlong : ByteArray := prog_3_method_19_code
def yX1_shiftAlong : MethodName := ⟨RX1, "shiftAlong", "(III)V"⟩
def RX2 : String := "MorningDesk$RuleBook"
def TX2 : u_T := fun k => match k with
  | 0 => ("MorningDesk$RuleBook", "numbers", "[I", true)
  | 1 => ("MorningDesk$RuleBook", "draft", "[I", true)
  | _ => ("MorningDesk$RuleBook", "place", "I", false)
def tyX2 : Nat → FieldType := fun k => match k with
  | 0 => .array .int
  | 1 => .array .int
  | _ => .int
abbrev wsX20 : List Cond := u_ws RX2 TX2 3
theorem nmX2 : ∀ a, a < 3 → ∀ b, b < 3 → a ≠ b → (TX2 a).2.1 ≠ (TX2 b).2.1 := by decide +kernel
theorem tyX2_ok : ∀ k, k < 3 → parseFieldDescriptor (TX2 k).2.2.1 = some (tyX2 k) := by decide +kernel
abbrev cX2_init : ByteArray := prog_4_method_1_code
def yX2_init : MethodName := ⟨RX2, "<init>", "()V"⟩
abbrev cX2_number : ByteArray := prog_4_method_2_code
def yX2_number : MethodName := ⟨RX2, "number", "(I)I"⟩
abbrev cX2_read : ByteArray := prog_4_method_3_code
def yX2_read : MethodName := ⟨RX2, "read", "(LMorningDesk$Tape;I)I"⟩
abbrev cX2_readClause : ByteArray := prog_4_method_4_code
def yX2_readClause : MethodName := ⟨RX2, "readClause", "(LMorningDesk$Tape;I)I"⟩
abbrev cX2_readDigits : ByteArray := prog_4_method_5_code
def yX2_readDigits : MethodName := ⟨RX2, "readDigits", "(LMorningDesk$Tape;I)I"⟩
abbrev cX2_isDigit : ByteArray := prog_4_method_6_code
def yX2_isDigit : MethodName := ⟨RX2, "isDigit", "(I)Z"⟩
abbrev cX2_kindOf : ByteArray := prog_4_method_7_code
def yX2_kindOf : MethodName := ⟨RX2, "kindOf", "(I)I"⟩
def RX3 : String := "MorningDesk$Tape"
def TX3 : u_T := fun k => match k with
  | 0 => ("MorningDesk$Tape", "bytes", "[B", true)
  | _ => ("MorningDesk$Tape", "size", "I", false)
def tyX3 : Nat → FieldType := fun k => match k with
  | 0 => .array .byte
  | _ => .int
abbrev wsX30 : List Cond := u_ws RX3 TX3 2
theorem nmX3 : ∀ a, a < 2 → ∀ b, b < 2 → a ≠ b → (TX3 a).2.1 ≠ (TX3 b).2.1 := by decide +kernel
theorem tyX3_ok : ∀ k, k < 2 → parseFieldDescriptor (TX3 k).2.2.1 = some (tyX3 k) := by decide +kernel
abbrev cX3_init : ByteArray := prog_5_method_1_code
def yX3_init : MethodName := ⟨RX3, "<init>", "()V"⟩
abbrev cX3_hasRoom : ByteArray := prog_5_method_2_code
def yX3_hasRoom : MethodName := ⟨RX3, "hasRoom", "()Z"⟩
abbrev cX3_append : ByteArray := prog_5_method_3_code
def yX3_append : MethodName := ⟨RX3, "append", "(I)V"⟩
abbrev cX3_signAt : ByteArray := prog_5_method_4_code
def yX3_signAt : MethodName := ⟨RX3, "signAt", "(II)I"⟩
def RX4 : String := "MorningDesk$Teacher"
def TX4 : u_T := fun k => match k with
  | 0 => ("MorningDesk$Teacher", "subjects", "I", true)
  | 1 => ("MorningDesk$Teacher", "ages", "I", true)
  | 2 => ("MorningDesk$Teacher", "check", "I", true)
  | 3 => ("MorningDesk$Teacher", "minutes", "[I", true)
  | 4 => ("MorningDesk$Teacher", "liked", "I", false)
  | 5 => ("MorningDesk$Teacher", "barred", "I", false)
  | 6 => ("MorningDesk$Teacher", "state", "I", false)
  | 7 => ("MorningDesk$Teacher", "sentGap", "I", false)
  | 8 => ("MorningDesk$Teacher", "missed", "I", false)
  | 9 => ("MorningDesk$Teacher", "worked", "I", false)
  | _ => ("MorningDesk$Teacher", "paid", "J", false)
def tyX4 : Nat → FieldType := fun k => match k with
  | 0 => .int
  | 1 => .int
  | 2 => .int
  | 3 => .array .int
  | 4 => .int
  | 5 => .int
  | 6 => .int
  | 7 => .int
  | 8 => .int
  | 9 => .int
  | _ => .long
abbrev wsX40 : List Cond := u_ws RX4 TX4 11
theorem nmX4 : ∀ a, a < 11 → ∀ b, b < 11 → a ≠ b → (TX4 a).2.1 ≠ (TX4 b).2.1 := by decide +kernel
theorem tyX4_ok : ∀ k, k < 11 → parseFieldDescriptor (TX4 k).2.2.1 = some (tyX4 k) := by decide +kernel
abbrev cX4_init : ByteArray := prog_6_method_1_code
def yX4_init : MethodName := ⟨RX4, "<init>", "(III)V"⟩
abbrev cX4_startDay : ByteArray := prog_6_method_2_code
def yX4_startDay : MethodName := ⟨RX4, "startDay", "()V"⟩
abbrev cX4_minutesTo : ByteArray := prog_6_method_3_code
def yX4_minutesTo : MethodName := ⟨RX4, "minutesTo", "(I)I"⟩
abbrev cX4_fills : ByteArray := prog_6_method_4_code
def yX4_fills : MethodName := ⟨RX4, "fills", "(LMorningDesk$Gap;LMorningDesk$RuleBook;I)Z"⟩
abbrev cX4_costFor : ByteArray := prog_6_method_5_code
def yX4_costFor : MethodName := ⟨RX4, "costFor", "(LMorningDesk$Gap;LMorningDesk$RuleBook;)I"⟩
abbrev cX4_takeAnswer : ByteArray := prog_6_method_6_code
def yX4_takeAnswer : MethodName := ⟨RX4, "takeAnswer", "(III)V"⟩
abbrev cX4_workAt : ByteArray := prog_6_method_7_code
def yX4_workAt : MethodName := ⟨RX4, "workAt", "(LMorningDesk$Gap;LMorningDesk$RuleBook;)V"⟩
def RX5 : String := "MorningDesk$Visits"
def TX5 : u_T := fun k => match k with
  | 0 => ("MorningDesk$Visits", "visitors", "[B", true)
  | 1 => ("MorningDesk$Visits", "rooms", "[B", true)
  | 2 => ("MorningDesk$Visits", "days", "[S", true)
  | 3 => ("MorningDesk$Visits", "nextSlot", "I", false)
  | _ => ("MorningDesk$Visits", "kept", "I", false)
def tyX5 : Nat → FieldType := fun k => match k with
  | 0 => .array .byte
  | 1 => .array .byte
  | 2 => .array .short
  | 3 => .int
  | _ => .int
abbrev wsX50 : List Cond := u_ws RX5 TX5 5
theorem nmX5 : ∀ a, a < 5 → ∀ b, b < 5 → a ≠ b → (TX5 a).2.1 ≠ (TX5 b).2.1 := by decide +kernel
theorem tyX5_ok : ∀ k, k < 5 → parseFieldDescriptor (TX5 k).2.2.1 = some (tyX5 k) := by decide +kernel
abbrev cX5_init : ByteArray := prog_7_method_1_code
def yX5_init : MethodName := ⟨RX5, "<init>", "()V"⟩
abbrev cX5_keep : ByteArray := prog_7_method_2_code
def yX5_keep : MethodName := ⟨RX5, "keep", "(ILMorningDesk$Gap;I)V"⟩
abbrev cX5_teachersSeen : ByteArray := prog_7_method_3_code
def yX5_teachersSeen : MethodName := ⟨RX5, "teachersSeen", "(III)I"⟩
abbrev cX5_roomOf : ByteArray := prog_7_method_4_code
def yX5_roomOf : MethodName := ⟨RX5, "roomOf", "(II)I"⟩
def RX6 : String := "MorningDesk"
def TX6 : u_T := fun k => match k with
  | 0 => ("MorningDesk", "tape", "LMorningDesk$Tape;", true)
  | 1 => ("MorningDesk", "ruleBook", "LMorningDesk$RuleBook;", true)
  | 2 => ("MorningDesk", "teachers", "[LMorningDesk$Teacher;", true)
  | 3 => ("MorningDesk", "gaps", "[LMorningDesk$Gap;", true)
  | 4 => ("MorningDesk", "visits", "LMorningDesk$Visits;", true)
  | 5 => ("MorningDesk", "matching", "LMorningDesk$Matching;", true)
  | 6 => ("MorningDesk", "teacherCount", "I", false)
  | 7 => ("MorningDesk", "gapCount", "I", false)
  | _ => ("MorningDesk", "today", "I", false)
def tyX6 : Nat → FieldType := fun k => match k with
  | 0 => .object "MorningDesk$Tape"
  | 1 => .object "MorningDesk$RuleBook"
  | 2 => .array (.object "MorningDesk$Teacher")
  | 3 => .array (.object "MorningDesk$Gap")
  | 4 => .object "MorningDesk$Visits"
  | 5 => .object "MorningDesk$Matching"
  | 6 => .int
  | 7 => .int
  | _ => .int
abbrev wsX60 : List Cond := u_ws RX6 TX6 9
theorem nmX6 : ∀ a, a < 9 → ∀ b, b < 9 → a ≠ b → (TX6 a).2.1 ≠ (TX6 b).2.1 := by decide +kernel
theorem tyX6_ok : ∀ k, k < 9 → parseFieldDescriptor (TX6 k).2.2.1 = some (tyX6 k) := by decide +kernel
abbrev cX6_init : ByteArray := prog_1_method_1_code
def yX6_init : MethodName := ⟨RX6, "<init>", "()V"⟩
abbrev cX6_feed : ByteArray := prog_1_method_2_code
def yX6_feed : MethodName := ⟨RX6, "feed", "(IIIII)I"⟩
abbrev cX6_rules : ByteArray := prog_1_method_3_code
def yX6_rules : MethodName := ⟨RX6, "rules", "(I)I"⟩
abbrev cX6_teacher : ByteArray := prog_1_method_4_code
def yX6_teacher : MethodName := ⟨RX6, "teacher", "(III)I"⟩
abbrev cX6_way : ByteArray := prog_1_method_5_code
def yX6_way : MethodName := ⟨RX6, "way", "(III)Z"⟩
abbrev cX6_likes : ByteArray := prog_1_method_6_code
def yX6_likes : MethodName := ⟨RX6, "likes", "(III)Z"⟩
abbrev cX6_gap : ByteArray := prog_1_method_7_code
def yX6_gap : MethodName := ⟨RX6, "gap", "(IIIII)I"⟩
abbrev cX6_can : ByteArray := prog_1_method_8_code
def yX6_can : MethodName := ⟨RX6, "can", "(II)I"⟩
abbrev cX6_cost : ByteArray := prog_1_method_9_code
def yX6_cost : MethodName := ⟨RX6, "cost", "(II)I"⟩
abbrev cX6_match : ByteArray := prog_1_method_10_code
def yX6_match : MethodName := ⟨RX6, "match", "()I"⟩
abbrev cX6_costs : ByteArray := prog_1_method_11_code
def yX6_costs : MethodName := ⟨RX6, "costs", "()I"⟩
abbrev cX6_who : ByteArray := prog_1_method_12_code
def yX6_who : MethodName := ⟨RX6, "who", "(I)I"⟩
abbrev cX6_next : ByteArray := prog_1_method_13_code
def yX6_next : MethodName := ⟨RX6, "next", "()I"⟩
abbrev cX6_answer : ByteArray := prog_1_method_14_code
def yX6_answer : MethodName := ⟨RX6, "answer", "(II)Z"⟩
abbrev cX6_hall : ByteArray := prog_1_method_15_code
def yX6_hall : MethodName := ⟨RX6, "hall", "()I"⟩
abbrev cX6_day : ByteArray := prog_1_method_16_code
def yX6_day : MethodName := ⟨RX6, "day", "()I"⟩
abbrev cX6_pay : ByteArray := prog_1_method_17_code
def yX6_pay : MethodName := ⟨RX6, "pay", "(I)J"⟩
abbrev cX6_strangers : ByteArray := prog_1_method_18_code
def yX6_strangers : MethodName := ⟨RX6, "strangers", "(II)I"⟩
abbrev cX6_look : ByteArray := prog_1_method_19_code
def yX6_look : MethodName := ⟨RX6, "look", "(II)I"⟩
abbrev cX6_about : ByteArray := prog_1_method_20_code
def yX6_about : MethodName := ⟨RX6, "about", "(II)I"⟩
abbrev cX6_count : ByteArray := prog_1_method_21_code
def yX6_count : MethodName := ⟨RX6, "count", "(I)I"⟩
abbrev cX6_within : ByteArray := prog_1_method_22_code
def yX6_within : MethodName := ⟨RX6, "within", "(III)Z"⟩
abbrev cX6_isSchool : ByteArray := prog_1_method_23_code
def yX6_isSchool : MethodName := ⟨RX6, "isSchool", "(I)Z"⟩
abbrev cX6_isClass : ByteArray := prog_1_method_24_code
def yX6_isClass : MethodName := ⟨RX6, "isClass", "(I)Z"⟩
abbrev cX6_hasBit : ByteArray := prog_1_method_25_code
def yX6_hasBit : MethodName := ⟨RX6, "hasBit", "(II)Z"⟩
abbrev cX6_teacherAt : ByteArray := prog_1_method_26_code
def yX6_teacherAt : MethodName := ⟨RX6, "teacherAt", "(I)LMorningDesk$Teacher;"⟩
abbrev cX6_gapAt : ByteArray := prog_1_method_27_code
def yX6_gapAt : MethodName := ⟨RX6, "gapAt", "(I)LMorningDesk$Gap;"⟩
abbrev cX6_sentTo : ByteArray := prog_1_method_28_code
def yX6_sentTo : MethodName := ⟨RX6, "sentTo", "(I)I"⟩
abbrev cX6_countInState : ByteArray := prog_1_method_29_code
def yX6_countInState : MethodName := ⟨RX6, "countInState", "(I)I"⟩
abbrev cX6_findMatch : ByteArray := prog_1_method_30_code
def yX6_findMatch : MethodName := ⟨RX6, "findMatch", "()V"⟩
abbrev cX6_offerAll : ByteArray := prog_1_method_31_code
def yX6_offerAll : MethodName := ⟨RX6, "offerAll", "()V"⟩
abbrev cX6_offerTeachers : ByteArray := prog_1_method_32_code
def yX6_offerTeachers : MethodName := ⟨RX6, "offerTeachers", "(ILMorningDesk$Gap;)V"⟩
abbrev cX6_isCalledAhead : ByteArray := prog_1_method_33_code
def yX6_isCalledAhead : MethodName := ⟨RX6, "isCalledAhead", "(II)Z"⟩
abbrev cX6_endDayOf : ByteArray := prog_1_method_34_code
def yX6_endDayOf : MethodName := ⟨RX6, "endDayOf", "(I)V"⟩
def RX7 : String := "MorningDeskModel"
def TX7 : u_T := fun k => match k with
  | 0 => ("MorningDeskModel", "tape", "[B", true)
  | 1 => ("MorningDeskModel", "taped", "I", false)
  | 2 => ("MorningDeskModel", "day", "I", false)
  | 3 => ("MorningDeskModel", "teachers", "I", false)
  | 4 => ("MorningDeskModel", "gaps", "I", false)
  | 5 => ("MorningDeskModel", "visits", "I", false)
  | 6 => ("MorningDeskModel", "rule", "[I", true)
  | 7 => ("MorningDeskModel", "read", "[I", true)
  | 8 => ("MorningDeskModel", "subjects", "[I", true)
  | 9 => ("MorningDeskModel", "ages", "[I", true)
  | 10 => ("MorningDeskModel", "check", "[I", true)
  | 11 => ("MorningDeskModel", "way", "[I", true)
  | 12 => ("MorningDeskModel", "liked", "[I", true)
  | 13 => ("MorningDeskModel", "barred", "[I", true)
  | 14 => ("MorningDeskModel", "how", "[I", true)
  | 15 => ("MorningDeskModel", "sent", "[I", true)
  | 16 => ("MorningDeskModel", "tries", "[I", true)
  | 17 => ("MorningDeskModel", "worked", "[I", true)
  | 18 => ("MorningDeskModel", "pay", "[J", true)
  | 19 => ("MorningDeskModel", "school", "[I", true)
  | 20 => ("MorningDeskModel", "klass", "[I", true)
  | 21 => ("MorningDeskModel", "subject", "[I", true)
  | 22 => ("MorningDeskModel", "age", "[I", true)
  | 23 => ("MorningDeskModel", "hours", "[I", true)
  | 24 => ("MorningDeskModel", "visitor", "[I", true)
  | 25 => ("MorningDeskModel", "visited", "[I", true)
  | 26 => ("MorningDeskModel", "visitDay", "[I", true)
  | 27 => ("MorningDeskModel", "isFresh", "Z", false)
  | 28 => ("MorningDeskModel", "best", "[I", true)
  | 29 => ("MorningDeskModel", "mate", "[I", true)
  | 30 => ("MorningDeskModel", "matched", "I", false)
  | _ => ("MorningDeskModel", "matchCost", "I", false)
def tyX7 : Nat → FieldType := fun k => match k with
  | 0 => .array .byte
  | 1 => .int
  | 2 => .int
  | 3 => .int
  | 4 => .int
  | 5 => .int
  | 6 => .array .int
  | 7 => .array .int
  | 8 => .array .int
  | 9 => .array .int
  | 10 => .array .int
  | 11 => .array .int
  | 12 => .array .int
  | 13 => .array .int
  | 14 => .array .int
  | 15 => .array .int
  | 16 => .array .int
  | 17 => .array .int
  | 18 => .array .long
  | 19 => .array .int
  | 20 => .array .int
  | 21 => .array .int
  | 22 => .array .int
  | 23 => .array .int
  | 24 => .array .int
  | 25 => .array .int
  | 26 => .array .int
  | 27 => .boolean
  | 28 => .array .int
  | 29 => .array .int
  | 30 => .int
  | _ => .int
abbrev wsX70 : List Cond := u_ws RX7 TX7 32
theorem nmX7 : ∀ a, a < 32 → ∀ b, b < 32 → a ≠ b → (TX7 a).2.1 ≠ (TX7 b).2.1 := by decide +kernel
theorem tyX7_ok : ∀ k, k < 32 → parseFieldDescriptor (TX7 k).2.2.1 = some (tyX7 k) := by decide +kernel
abbrev cX7_init : ByteArray := prog_9_method_1_code
def yX7_init : MethodName := ⟨RX7, "<init>", "()V"⟩
abbrev cX7_lies : ByteArray := prog_9_method_2_code
def yX7_lies : MethodName := ⟨RX7, "lies", "(III)Z"⟩
abbrev cX7_has : ByteArray := prog_9_method_3_code
def yX7_has : MethodName := ⟨RX7, "has", "(II)Z"⟩
abbrev cX7_sizeOf : ByteArray := prog_9_method_4_code
def yX7_sizeOf : MethodName := ⟨RX7, "sizeOf", "(I)I"⟩
abbrev cX7_push : ByteArray := prog_9_method_5_code
def yX7_push : MethodName := ⟨RX7, "push", "(I)V"⟩
abbrev cX7_feed : ByteArray := prog_9_method_6_code
def yX7_feed : MethodName := ⟨RX7, "feed", "(IIIII)I"⟩
abbrev cX7_asAtFirst : ByteArray := prog_9_method_7_code
def yX7_asAtFirst : MethodName := ⟨RX7, "asAtFirst", "([I)V"⟩
abbrev cX7_letter : ByteArray := prog_9_method_8_code
def yX7_letter : MethodName := ⟨RX7, "letter", "(I)I"⟩
abbrev cX7_canBe : ByteArray := prog_9_method_9_code
def yX7_canBe : MethodName := ⟨RX7, "canBe", "(II)Z"⟩
abbrev cX7_at : ByteArray := prog_9_method_10_code
def yX7_at : MethodName := ⟨RX7, "at", "(II)I"⟩
abbrev cX7_reads : ByteArray := prog_9_method_11_code
def yX7_reads : MethodName := ⟨RX7, "reads", "(I)I"⟩
abbrev cX7_rules : ByteArray := prog_9_method_12_code
def yX7_rules : MethodName := ⟨RX7, "rules", "(I)I"⟩
abbrev cX7_isTeacher : ByteArray := prog_9_method_13_code
def yX7_isTeacher : MethodName := ⟨RX7, "isTeacher", "(I)Z"⟩
abbrev cX7_isGap : ByteArray := prog_9_method_14_code
def yX7_isGap : MethodName := ⟨RX7, "isGap", "(I)Z"⟩
abbrev cX7_teacher : ByteArray := prog_9_method_15_code
def yX7_teacher : MethodName := ⟨RX7, "teacher", "(III)I"⟩
abbrev cX7_way : ByteArray := prog_9_method_16_code
def yX7_way : MethodName := ⟨RX7, "way", "(III)Z"⟩
abbrev cX7_likes : ByteArray := prog_9_method_17_code
def yX7_likes : MethodName := ⟨RX7, "likes", "(III)Z"⟩
abbrev cX7_gap : ByteArray := prog_9_method_18_code
def yX7_gap : MethodName := ⟨RX7, "gap", "(IIIII)I"⟩
abbrev cX7_canFill : ByteArray := prog_9_method_19_code
def yX7_canFill : MethodName := ⟨RX7, "canFill", "(II)Z"⟩
abbrev cX7_costOf : ByteArray := prog_9_method_20_code
def yX7_costOf : MethodName := ⟨RX7, "costOf", "(II)I"⟩
abbrev cX7_can : ByteArray := prog_9_method_21_code
def yX7_can : MethodName := ⟨RX7, "can", "(II)I"⟩
abbrev cX7_cost : ByteArray := prog_9_method_22_code
def yX7_cost : MethodName := ⟨RX7, "cost", "(II)I"⟩
abbrev cX7_senderOf : ByteArray := prog_9_method_23_code
def yX7_senderOf : MethodName := ⟨RX7, "senderOf", "(I)I"⟩
abbrev cX7_goes : ByteArray := prog_9_method_24_code
def yX7_goes : MethodName := ⟨RX7, "goes", "(II)Z"⟩
abbrev cX7_worth : ByteArray := prog_9_method_25_code
def yX7_worth : MethodName := ⟨RX7, "worth", "(III)I"⟩
abbrev cX7_works : ByteArray := prog_9_method_26_code
def yX7_works : MethodName := ⟨RX7, "works", "()V"⟩
abbrev cX7_match : ByteArray := prog_9_method_27_code
def yX7_match : MethodName := ⟨RX7, "match", "()I"⟩
abbrev cX7_costs : ByteArray := prog_9_method_28_code
def yX7_costs : MethodName := ⟨RX7, "costs", "()I"⟩
abbrev cX7_who : ByteArray := prog_9_method_29_code
def yX7_who : MethodName := ⟨RX7, "who", "(I)I"⟩
abbrev cX7_next : ByteArray := prog_9_method_30_code
def yX7_next : MethodName := ⟨RX7, "next", "()I"⟩
abbrev cX7_answer : ByteArray := prog_9_method_31_code
def yX7_answer : MethodName := ⟨RX7, "answer", "(II)Z"⟩
abbrev cX7_hall : ByteArray := prog_9_method_32_code
def yX7_hall : MethodName := ⟨RX7, "hall", "()I"⟩
abbrev cX7_goesBy : ByteArray := prog_9_method_33_code
def yX7_goesBy : MethodName := ⟨RX7, "goesBy", "(I)V"⟩
abbrev cX7_day : ByteArray := prog_9_method_34_code
def yX7_day : MethodName := ⟨RX7, "day", "()I"⟩
abbrev cX7_pay : ByteArray := prog_9_method_35_code
def yX7_pay : MethodName := ⟨RX7, "pay", "(I)J"⟩
abbrev cX7_kept : ByteArray := prog_9_method_36_code
def yX7_kept : MethodName := ⟨RX7, "kept", "()I"⟩
abbrev cX7_strangers : ByteArray := prog_9_method_37_code
def yX7_strangers : MethodName := ⟨RX7, "strangers", "(II)I"⟩
abbrev cX7_look : ByteArray := prog_9_method_38_code
def yX7_look : MethodName := ⟨RX7, "look", "(II)I"⟩
abbrev cX7_about : ByteArray := prog_9_method_39_code
def yX7_about : MethodName := ⟨RX7, "about", "(II)I"⟩
abbrev cX7_thoseWho : ByteArray := prog_9_method_40_code
def yX7_thoseWho : MethodName := ⟨RX7, "thoseWho", "(I)I"⟩
abbrev cX7_count : ByteArray := prog_9_method_41_code
def yX7_count : MethodName := ⟨RX7, "count", "(I)I"⟩
def RJ6 : String := "java/lang/Integer"
def TJ6 : u_T := fun k => match k with
  | _ => ("", "", "", false)
def tyJ6 : Nat → FieldType := fun k => match k with
  | _ => .int
abbrev wsJ60 : List Cond := u_ws RJ6 TJ6 0
theorem nmJ6 : ∀ a, a < 0 → ∀ b, b < 0 → a ≠ b → (TJ6 a).2.1 ≠ (TJ6 b).2.1 := by decide +kernel
theorem tyJ6_ok : ∀ k, k < 0 → parseFieldDescriptor (TJ6 k).2.2.1 = some (tyJ6 k) := by decide +kernel
abbrev cJ6_bitCount_0f7a4 : ByteArray := prog_10_method_49_code
def yJ6_bitCount_0f7a4 : MethodName := ⟨RJ6, "bitCount", "(I)I"⟩
def RJ9 : String := "java/lang/Math"
def TJ9 : u_T := fun k => match k with
  | _ => ("", "", "", false)
def tyJ9 : Nat → FieldType := fun k => match k with
  | _ => .int
abbrev wsJ90 : List Cond := u_ws RJ9 TJ9 0
theorem nmJ9 : ∀ a, a < 0 → ∀ b, b < 0 → a ≠ b → (TJ9 a).2.1 ≠ (TJ9 b).2.1 := by decide +kernel
theorem tyJ9_ok : ∀ k, k < 0 → parseFieldDescriptor (TJ9 k).2.2.1 = some (tyJ9 k) := by decide +kernel
abbrev cJ9_max_7cf53 : ByteArray := prog_11_method_65_code
def yJ9_max_7cf53 : MethodName := ⟨RJ9, "max", "(II)I"⟩
abbrev cJ9_min_7cf53 : ByteArray := prog_11_method_69_code
def yJ9_min_7cf53 : MethodName := ⟨RJ9, "min", "(II)I"⟩
def RJ10 : String := "java/lang/System"
def TJ10 : u_T := fun k => match k with
  | _ => ("", "", "", false)
def tyJ10 : Nat → FieldType := fun k => match k with
  | _ => .int
abbrev wsJ100 : List Cond := u_ws RJ10 TJ10 0
theorem nmJ10 : ∀ a, a < 0 → ∀ b, b < 0 → a ≠ b → (TJ10 a).2.1 ≠ (TJ10 b).2.1 := by decide +kernel
theorem tyJ10_ok : ∀ k, k < 0 → parseFieldDescriptor (TJ10 k).2.2.1 = some (tyJ10 k) := by decide +kernel
def RJ7 : String := "java/util/Arrays"
def TJ7 : u_T := fun k => match k with
  | _ => ("", "", "", false)
def tyJ7 : Nat → FieldType := fun k => match k with
  | _ => .int
abbrev wsJ70 : List Cond := u_ws RJ7 TJ7 0
theorem nmJ7 : ∀ a, a < 0 → ∀ b, b < 0 → a ≠ b → (TJ7 a).2.1 ≠ (TJ7 b).2.1 := by decide +kernel
theorem tyJ7_ok : ∀ k, k < 0 → parseFieldDescriptor (TJ7 k).2.2.1 = some (tyJ7 k) := by decide +kernel
abbrev cJ7_fill_d0a16 : ByteArray := prog_13_method_101_code
def yJ7_fill_d0a16 : MethodName := ⟨RJ7, "fill", "([JJ)V"⟩
abbrev cJ7_fill_53178 : ByteArray := prog_13_method_103_code
def yJ7_fill_53178 : MethodName := ⟨RJ7, "fill", "([II)V"⟩
def RL : String := "MorningDeskLaw"
abbrev cL_law : ByteArray := code
def yL_law : MethodName := ⟨RL, "law", "([I)Z"⟩
set_option maxRecDepth 20000 in
theorem inX0 : ∀ w ∈ wsX00, w ∈ lw_tbl := by decide +kernel
set_option maxRecDepth 20000 in
theorem inX1 : ∀ w ∈ wsX10, w ∈ lw_tbl := by decide +kernel
set_option maxRecDepth 20000 in
theorem inX2 : ∀ w ∈ wsX20, w ∈ lw_tbl := by decide +kernel
set_option maxRecDepth 20000 in
theorem inX3 : ∀ w ∈ wsX30, w ∈ lw_tbl := by decide +kernel
set_option maxRecDepth 20000 in
theorem inX4 : ∀ w ∈ wsX40, w ∈ lw_tbl := by decide +kernel
set_option maxRecDepth 20000 in
theorem inX5 : ∀ w ∈ wsX50, w ∈ lw_tbl := by decide +kernel
set_option maxRecDepth 20000 in
theorem inX6 : ∀ w ∈ wsX60, w ∈ lw_tbl := by decide +kernel
set_option maxRecDepth 20000 in
theorem inX7 : ∀ w ∈ wsX70, w ∈ lw_tbl := by decide +kernel
