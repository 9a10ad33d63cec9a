section
-- ===== PART A: goes FIRST, ahead of the names: the tables' words, and 'selects' of the private methods out of them =====
/-- a private method of a class that the tables say can be made, by its rows of tables_1 -/
def lw_okq (q : MethodName × Nat) : Prop := (q.1.cls ≠ "java/lang/invoke/MethodHandle" ∧ q.1.cls ≠ "java/lang/invoke/VarHandle") ∧ Cond.instantiable q.1.cls q.2 ∈ tables_1 ∧ Cond.privateMethod q.1 ∈ tables_1 ∧ Cond.instanceMethod q.1 ∈ tables_1
theorem lw_p0 : lw_okq (⟨"MorningDesk$RuleBook", "readClause", "(LMorningDesk$Tape;I)I"⟩, 3) := ⟨⟨by decide +kernel, by decide +kernel⟩, List.mem_of_getElem? (i := 37) (by decide +kernel), List.mem_of_getElem? (i := 169) (by decide +kernel), List.mem_of_getElem? (i := 170) (by decide +kernel)⟩
theorem lw_p1 : lw_okq (⟨"MorningDesk$RuleBook", "readDigits", "(LMorningDesk$Tape;I)I"⟩, 3) := ⟨⟨by decide +kernel, by decide +kernel⟩, List.mem_of_getElem? (i := 37) (by decide +kernel), List.mem_of_getElem? (i := 185) (by decide +kernel), List.mem_of_getElem? (i := 186) (by decide +kernel)⟩
theorem lw_p2 : lw_okq (⟨"MorningDesk", "teacherAt", "(I)LMorningDesk$Teacher;"⟩, 9) := ⟨⟨by decide +kernel, by decide +kernel⟩, List.mem_of_getElem? (i := 14) (by decide +kernel), List.mem_of_getElem? (i := 258) (by decide +kernel), List.mem_of_getElem? (i := 259) (by decide +kernel)⟩
theorem lw_p3 : lw_okq (⟨"MorningDesk", "gapAt", "(I)LMorningDesk$Gap;"⟩, 9) := ⟨⟨by decide +kernel, by decide +kernel⟩, List.mem_of_getElem? (i := 14) (by decide +kernel), List.mem_of_getElem? (i := 312) (by decide +kernel), List.mem_of_getElem? (i := 313) (by decide +kernel)⟩
theorem lw_p4 : lw_okq (⟨"MorningDesk", "findMatch", "()V"⟩, 9) := ⟨⟨by decide +kernel, by decide +kernel⟩, List.mem_of_getElem? (i := 14) (by decide +kernel), List.mem_of_getElem? (i := 346) (by decide +kernel), List.mem_of_getElem? (i := 347) (by decide +kernel)⟩
theorem lw_p5 : lw_okq (⟨"MorningDesk", "offerAll", "()V"⟩, 9) := ⟨⟨by decide +kernel, by decide +kernel⟩, List.mem_of_getElem? (i := 14) (by decide +kernel), List.mem_of_getElem? (i := 350) (by decide +kernel), List.mem_of_getElem? (i := 351) (by decide +kernel)⟩
theorem lw_p6 : lw_okq (⟨"MorningDesk", "sentTo", "(I)I"⟩, 9) := ⟨⟨by decide +kernel, by decide +kernel⟩, List.mem_of_getElem? (i := 14) (by decide +kernel), List.mem_of_getElem? (i := 363) (by decide +kernel), List.mem_of_getElem? (i := 364) (by decide +kernel)⟩
theorem lw_p7 : lw_okq (⟨"MorningDesk", "offerTeachers", "(ILMorningDesk$Gap;)V"⟩, 9) := ⟨⟨by decide +kernel, by decide +kernel⟩, List.mem_of_getElem? (i := 14) (by decide +kernel), List.mem_of_getElem? (i := 378) (by decide +kernel), List.mem_of_getElem? (i := 379) (by decide +kernel)⟩
theorem lw_p8 : lw_okq (⟨"MorningDesk$Matching", "bringIn", "(I)V"⟩, 7) := ⟨⟨by decide +kernel, by decide +kernel⟩, List.mem_of_getElem? (i := 87) (by decide +kernel), List.mem_of_getElem? (i := 391) (by decide +kernel), List.mem_of_getElem? (i := 392) (by decide +kernel)⟩
theorem lw_p9 : lw_okq (⟨"MorningDesk$Matching", "findChains", "(I)V"⟩, 7) := ⟨⟨by decide +kernel, by decide +kernel⟩, List.mem_of_getElem? (i := 87) (by decide +kernel), List.mem_of_getElem? (i := 395) (by decide +kernel), List.mem_of_getElem? (i := 396) (by decide +kernel)⟩
theorem lw_p10 : lw_okq (⟨"MorningDesk$Matching", "lengthenChains", "(II)Z"⟩, 7) := ⟨⟨by decide +kernel, by decide +kernel⟩, List.mem_of_getElem? (i := 87) (by decide +kernel), List.mem_of_getElem? (i := 400) (by decide +kernel), List.mem_of_getElem? (i := 401) (by decide +kernel)⟩
theorem lw_p11 : lw_okq (⟨"MorningDesk$Matching", "weightOf", "(II)J"⟩, 7) := ⟨⟨by decide +kernel, by decide +kernel⟩, List.mem_of_getElem? (i := 87) (by decide +kernel), List.mem_of_getElem? (i := 404) (by decide +kernel), List.mem_of_getElem? (i := 405) (by decide +kernel)⟩
theorem lw_p12 : lw_okq (⟨"MorningDesk$Matching", "cheapestEnd", "(I)I"⟩, 7) := ⟨⟨by decide +kernel, by decide +kernel⟩, List.mem_of_getElem? (i := 87) (by decide +kernel), List.mem_of_getElem? (i := 408) (by decide +kernel), List.mem_of_getElem? (i := 409) (by decide +kernel)⟩
theorem lw_p13 : lw_okq (⟨"MorningDesk$Matching", "shiftAlong", "(III)V"⟩, 7) := ⟨⟨by decide +kernel, by decide +kernel⟩, List.mem_of_getElem? (i := 87) (by decide +kernel), List.mem_of_getElem? (i := 412) (by decide +kernel), List.mem_of_getElem? (i := 413) (by decide +kernel)⟩
theorem lw_p14 : lw_okq (⟨"MorningDesk", "isCalledAhead", "(II)Z"⟩, 9) := ⟨⟨by decide +kernel, by decide +kernel⟩, List.mem_of_getElem? (i := 14) (by decide +kernel), List.mem_of_getElem? (i := 440) (by decide +kernel), List.mem_of_getElem? (i := 441) (by decide +kernel)⟩
theorem lw_p15 : lw_okq (⟨"MorningDesk$Matching", "takersOf", "(I)I"⟩, 7) := ⟨⟨by decide +kernel, by decide +kernel⟩, List.mem_of_getElem? (i := 87) (by decide +kernel), List.mem_of_getElem? (i := 471) (by decide +kernel), List.mem_of_getElem? (i := 472) (by decide +kernel)⟩
def lw_privs_1 : List (MethodName × Nat) := [(⟨"MorningDesk$RuleBook", "readClause", "(LMorningDesk$Tape;I)I"⟩, 3), (⟨"MorningDesk$RuleBook", "readDigits", "(LMorningDesk$Tape;I)I"⟩, 3), (⟨"MorningDesk", "teacherAt", "(I)LMorningDesk$Teacher;"⟩, 9), (⟨"MorningDesk", "gapAt", "(I)LMorningDesk$Gap;"⟩, 9), (⟨"MorningDesk", "findMatch", "()V"⟩, 9), (⟨"MorningDesk", "offerAll", "()V"⟩, 9), (⟨"MorningDesk", "sentTo", "(I)I"⟩, 9), (⟨"MorningDesk", "offerTeachers", "(ILMorningDesk$Gap;)V"⟩, 9), (⟨"MorningDesk$Matching", "bringIn", "(I)V"⟩, 7), (⟨"MorningDesk$Matching", "findChains", "(I)V"⟩, 7), (⟨"MorningDesk$Matching", "lengthenChains", "(II)Z"⟩, 7), (⟨"MorningDesk$Matching", "weightOf", "(II)J"⟩, 7), (⟨"MorningDesk$Matching", "cheapestEnd", "(I)I"⟩, 7), (⟨"MorningDesk$Matching", "shiftAlong", "(III)V"⟩, 7), (⟨"MorningDesk", "isCalledAhead", "(II)Z"⟩, 9), (⟨"MorningDesk$Matching", "takersOf", "(I)I"⟩, 7)]
theorem lw_r1 : ∀ q ∈ lw_privs_1, lw_okq q := List.forall_mem_cons.mpr ⟨lw_p0, List.forall_mem_cons.mpr ⟨lw_p1, List.forall_mem_cons.mpr ⟨lw_p2, List.forall_mem_cons.mpr ⟨lw_p3, List.forall_mem_cons.mpr ⟨lw_p4, List.forall_mem_cons.mpr ⟨lw_p5, List.forall_mem_cons.mpr ⟨lw_p6, List.forall_mem_cons.mpr ⟨lw_p7, List.forall_mem_cons.mpr ⟨lw_p8, List.forall_mem_cons.mpr ⟨lw_p9, List.forall_mem_cons.mpr ⟨lw_p10, List.forall_mem_cons.mpr ⟨lw_p11, List.forall_mem_cons.mpr ⟨lw_p12, List.forall_mem_cons.mpr ⟨lw_p13, List.forall_mem_cons.mpr ⟨lw_p14, List.forall_mem_cons.mpr ⟨lw_p15, fun _ h => absurd h List.not_mem_nil⟩⟩⟩⟩⟩⟩⟩⟩⟩⟩⟩⟩⟩⟩⟩⟩
theorem lw_p16 : lw_okq (⟨"MorningDesk", "endDayOf", "(I)V"⟩, 9) := ⟨⟨by decide +kernel, by decide +kernel⟩, List.mem_of_getElem? (i := 14) (by decide +kernel), List.mem_of_getElem? (i := 479) (by decide +kernel), List.mem_of_getElem? (i := 480) (by decide +kernel)⟩
theorem lw_p17 : lw_okq (⟨"MorningDesk", "countInState", "(I)I"⟩, 9) := ⟨⟨by decide +kernel, by decide +kernel⟩, List.mem_of_getElem? (i := 14) (by decide +kernel), List.mem_of_getElem? (i := 524) (by decide +kernel), List.mem_of_getElem? (i := 525) (by decide +kernel)⟩
theorem lw_p18 : lw_okq (⟨"MorningDeskModel", "push", "(I)V"⟩, 32) := ⟨⟨by decide +kernel, by decide +kernel⟩, List.mem_of_getElem? (i := 528) (by decide +kernel), List.mem_of_getElem? (i := 639) (by decide +kernel), List.mem_of_getElem? (i := 640) (by decide +kernel)⟩
theorem lw_p19 : lw_okq (⟨"MorningDeskModel", "reads", "(I)I"⟩, 32) := ⟨⟨by decide +kernel, by decide +kernel⟩, List.mem_of_getElem? (i := 528) (by decide +kernel), List.mem_of_getElem? (i := 647) (by decide +kernel), List.mem_of_getElem? (i := 648) (by decide +kernel)⟩
theorem lw_p20 : lw_okq (⟨"MorningDeskModel", "at", "(II)I"⟩, 32) := ⟨⟨by decide +kernel, by decide +kernel⟩, List.mem_of_getElem? (i := 528) (by decide +kernel), List.mem_of_getElem? (i := 651) (by decide +kernel), List.mem_of_getElem? (i := 652) (by decide +kernel)⟩
theorem lw_p21 : lw_okq (⟨"MorningDeskModel", "isTeacher", "(I)Z"⟩, 32) := ⟨⟨by decide +kernel, by decide +kernel⟩, List.mem_of_getElem? (i := 528) (by decide +kernel), List.mem_of_getElem? (i := 672) (by decide +kernel), List.mem_of_getElem? (i := 673) (by decide +kernel)⟩
theorem lw_p22 : lw_okq (⟨"MorningDeskModel", "isGap", "(I)Z"⟩, 32) := ⟨⟨by decide +kernel, by decide +kernel⟩, List.mem_of_getElem? (i := 528) (by decide +kernel), List.mem_of_getElem? (i := 688) (by decide +kernel), List.mem_of_getElem? (i := 689) (by decide +kernel)⟩
theorem lw_p23 : lw_okq (⟨"MorningDeskModel", "canFill", "(II)Z"⟩, 32) := ⟨⟨by decide +kernel, by decide +kernel⟩, List.mem_of_getElem? (i := 528) (by decide +kernel), List.mem_of_getElem? (i := 692) (by decide +kernel), List.mem_of_getElem? (i := 693) (by decide +kernel)⟩
theorem lw_p24 : lw_okq (⟨"MorningDeskModel", "costOf", "(II)I"⟩, 32) := ⟨⟨by decide +kernel, by decide +kernel⟩, List.mem_of_getElem? (i := 528) (by decide +kernel), List.mem_of_getElem? (i := 703) (by decide +kernel), List.mem_of_getElem? (i := 704) (by decide +kernel)⟩
theorem lw_p25 : lw_okq (⟨"MorningDeskModel", "works", "()V"⟩, 32) := ⟨⟨by decide +kernel, by decide +kernel⟩, List.mem_of_getElem? (i := 528) (by decide +kernel), List.mem_of_getElem? (i := 711) (by decide +kernel), List.mem_of_getElem? (i := 712) (by decide +kernel)⟩
theorem lw_p26 : lw_okq (⟨"MorningDeskModel", "senderOf", "(I)I"⟩, 32) := ⟨⟨by decide +kernel, by decide +kernel⟩, List.mem_of_getElem? (i := 528) (by decide +kernel), List.mem_of_getElem? (i := 715) (by decide +kernel), List.mem_of_getElem? (i := 716) (by decide +kernel)⟩
theorem lw_p27 : lw_okq (⟨"MorningDeskModel", "goes", "(II)Z"⟩, 32) := ⟨⟨by decide +kernel, by decide +kernel⟩, List.mem_of_getElem? (i := 528) (by decide +kernel), List.mem_of_getElem? (i := 719) (by decide +kernel), List.mem_of_getElem? (i := 720) (by decide +kernel)⟩
theorem lw_p28 : lw_okq (⟨"MorningDeskModel", "worth", "(III)I"⟩, 32) := ⟨⟨by decide +kernel, by decide +kernel⟩, List.mem_of_getElem? (i := 528) (by decide +kernel), List.mem_of_getElem? (i := 723) (by decide +kernel), List.mem_of_getElem? (i := 724) (by decide +kernel)⟩
theorem lw_p29 : lw_okq (⟨"MorningDeskModel", "goesBy", "(I)V"⟩, 32) := ⟨⟨by decide +kernel, by decide +kernel⟩, List.mem_of_getElem? (i := 528) (by decide +kernel), List.mem_of_getElem? (i := 755) (by decide +kernel), List.mem_of_getElem? (i := 756) (by decide +kernel)⟩
theorem lw_p30 : lw_okq (⟨"MorningDeskModel", "kept", "()I"⟩, 32) := ⟨⟨by decide +kernel, by decide +kernel⟩, List.mem_of_getElem? (i := 528) (by decide +kernel), List.mem_of_getElem? (i := 767) (by decide +kernel), List.mem_of_getElem? (i := 768) (by decide +kernel)⟩
theorem lw_p31 : lw_okq (⟨"MorningDeskModel", "thoseWho", "(I)I"⟩, 32) := ⟨⟨by decide +kernel, by decide +kernel⟩, List.mem_of_getElem? (i := 528) (by decide +kernel), List.mem_of_getElem? (i := 783) (by decide +kernel), List.mem_of_getElem? (i := 784) (by decide +kernel)⟩
def lw_privs_2 : List (MethodName × Nat) := [(⟨"MorningDesk", "endDayOf", "(I)V"⟩, 9), (⟨"MorningDesk", "countInState", "(I)I"⟩, 9), (⟨"MorningDeskModel", "push", "(I)V"⟩, 32), (⟨"MorningDeskModel", "reads", "(I)I"⟩, 32), (⟨"MorningDeskModel", "at", "(II)I"⟩, 32), (⟨"MorningDeskModel", "isTeacher", "(I)Z"⟩, 32), (⟨"MorningDeskModel", "isGap", "(I)Z"⟩, 32), (⟨"MorningDeskModel", "canFill", "(II)Z"⟩, 32), (⟨"MorningDeskModel", "costOf", "(II)I"⟩, 32), (⟨"MorningDeskModel", "works", "()V"⟩, 32), (⟨"MorningDeskModel", "senderOf", "(I)I"⟩, 32), (⟨"MorningDeskModel", "goes", "(II)Z"⟩, 32), (⟨"MorningDeskModel", "worth", "(III)I"⟩, 32), (⟨"MorningDeskModel", "goesBy", "(I)V"⟩, 32), (⟨"MorningDeskModel", "kept", "()I"⟩, 32), (⟨"MorningDeskModel", "thoseWho", "(I)I"⟩, 32)]
theorem lw_r2 : ∀ q ∈ lw_privs_2, lw_okq q := List.forall_mem_cons.mpr ⟨lw_p16, List.forall_mem_cons.mpr ⟨lw_p17, List.forall_mem_cons.mpr ⟨lw_p18, List.forall_mem_cons.mpr ⟨lw_p19, List.forall_mem_cons.mpr ⟨lw_p20, List.forall_mem_cons.mpr ⟨lw_p21, List.forall_mem_cons.mpr ⟨lw_p22, List.forall_mem_cons.mpr ⟨lw_p23, List.forall_mem_cons.mpr ⟨lw_p24, List.forall_mem_cons.mpr ⟨lw_p25, List.forall_mem_cons.mpr ⟨lw_p26, List.forall_mem_cons.mpr ⟨lw_p27, List.forall_mem_cons.mpr ⟨lw_p28, List.forall_mem_cons.mpr ⟨lw_p29, List.forall_mem_cons.mpr ⟨lw_p30, List.forall_mem_cons.mpr ⟨lw_p31, fun _ h => absurd h List.not_mem_nil⟩⟩⟩⟩⟩⟩⟩⟩⟩⟩⟩⟩⟩⟩⟩⟩
def lw_privs : List (MethodName × Nat) := lw_privs_1 ++ (lw_privs_2)
def lw_tbl : List Cond := k2_sels lw_privs ++ tables_1
theorem lw_privs_ok : ∀ q ∈ lw_privs, lw_okq q := by
  show ∀ q ∈ lw_privs_1 ++ (lw_privs_2), lw_okq q
  exact List.forall_mem_append.mpr ⟨lw_r1, lw_r2⟩
end
section
/-! ===== BEGIN words of one list among another's, by their places ===== -/
theorem goodIn_r {big : List Cond} (ws : List Cond) (ps : List Nat) (hp : ws = ps.filterMap (fun i => big[i]?)) (h : ws.all goodWord = true) : GoodIn big ws := by
  intro w hw
  have h1 := List.all_eq_true.mp h w hw
  rw [hp] at hw
  obtain ⟨i, -, hi⟩ := List.mem_filterMap.mp hw
  have hm : w ∈ big := by first | exact List.mem_of_getElem? hi | exact List.getElem?_mem hi
  exact ⟨hm, good_of_word h1⟩
theorem goodIn_app {big a b : List Cond} (ha : GoodIn big a) (hb : GoodIn big b) : GoodIn big (a ++ b) := fun w h => (List.mem_append.mp h).elim (ha w) (hb w)
theorem goodIn_ca {big a b : List Cond} {c : Cond} (ha : GoodIn big (c :: a)) (hb : GoodIn big b) : GoodIn big (c :: (a ++ b)) := fun w h => (List.mem_cons.mp h).elim (fun e => ha w (List.mem_cons.mpr (Or.inl e))) (fun h => (List.mem_append.mp h).elim (fun h => ha w (List.mem_cons.mpr (Or.inr h))) (hb w))
theorem goodIn_sub {big ws : List Cond} (hm : ∀ w ∈ ws, w ∈ big) (h : ws.all goodWord = true) : GoodIn big ws := fun w hw => ⟨hm w hw, good_of_word (List.all_eq_true.mp h w hw)⟩
/-! ===== END ===== -/

def va_AOA (ty : FieldType) (U : State) : Prop := (Cond.arrayOver (.array ty)).before #[] U = true
theorem va_AOA.use {ty : FieldType} {A : Array Value} {U : State} (h : va_AOA ty U) : (Cond.arrayOver (.array ty)).before A U = true := h
/-! ===== BEGIN new T[n][m]: the outer array a place, the inner ones among the pooled ===== -/
/-- f, but v at every address of l -/
def vr_up {α : Type} (f : Nat → α) (l : List Nat) (v : α) : Nat → α := fun a => if a ∈ l then v else f a
theorem vr_up_in {α : Type} {f : Nat → α} {l : List Nat} {v : α} {a : Nat} (h : a ∈ l) : vr_up f l v a = v := if_pos h
theorem vr_up_ne {α : Type} {f : Nat → α} {l : List Nat} {v : α} {a : Nat} (h : a ∉ l) : vr_up f l v a = f a := if_neg h
theorem vr_rows {L l : List Nat} {f : Nat → va_E} {e : va_E} (h : ∀ a, a ∈ l → a ∉ L) : va_pl L f ++ l.map (fun a => (a, e)) = va_pl (L ++ l) (vr_up f l e) := by
  unfold va_pl
  rw [List.map_append]
  congr 1
  · apply List.map_congr_left
    intro a ha
    rw [vr_up_ne (fun q => h a q ha)]
  · apply List.map_congr_left
    intro a ha
    rw [vr_up_in ha]
theorem vr_lay {X rows : va_W} {x : Nat × va_E} {pl : va_W} {D : va_G} {cl : List vw_C} {H : Heap} (hP : va_P D cl (((X ++ pl) ++ [x]) ++ rows) H) : va_P D cl ((X ++ [x]) ++ (pl ++ rows)) H := by
  rw [List.append_assoc (X ++ pl)] at hP
  have h := va_P.swap hP
  rw [← List.append_assoc X] at h
  have h2 := va_P.swap h
  rw [List.append_assoc (X ++ [x])] at h2
  exact h2
theorem vr_layD {X rows : va_W} {x : Nat × va_E} {pl : va_W} {A : Nat → Prop} (hD : va_D A (((X ++ pl) ++ [x]) ++ rows)) : va_D A ((X ++ [x]) ++ (pl ++ rows)) := by
  rw [List.append_assoc (X ++ pl)] at hD
  have h := va_D.swap hD
  rw [← List.append_assoc X] at h
  have h2 := va_D.swap h
  rw [List.append_assoc (X ++ [x])] at h2
  exact h2
theorem vr_outer (c : ClassId) (N h0 : Nat) : ∀ i : Nat, Jvm.Free.Multi.outerC c N h0 i = arrV c N (fun j => va_rf (if j < i then some (h0 + 1 + j) else none))
  | 0 => by
    show ({ cls := c, slots := Array.replicate N .null, vm := .none } : Cell) = _
    rw [arrV_new]
    refine congrArg (arrV c N) (funext fun j => ?_)
    simp [va_rf]
  | i + 1 => by
    show (Jvm.Free.Multi.outerC c N h0 i).setSlot i (.ref (h0 + 1 + i)) = _
    rw [vr_outer c N h0 i, arrV_store]
    refine congrArg (arrV c N) (funext fun j => ?_)
    by_cases e : j = i
    · subst e
      simp [updV, va_rf]
    · by_cases h : j < i
      · simp [updV, e, h, Nat.lt_succ_of_lt h]
      · simp [updV, e, h, show ¬ j < i + 1 by omega]
section VGM
variable {p : Program} {l : Launch} {e : Env} {R : Room} {s : State} {m : MethodId} {args : Array Value} {below : List Frame} {meth : Method} {c : Code} {H : Heap} {locs : List Loc} {cells slots : Nat} {Q : State → Prop}
variable {cc : ByteArray} {pc : Nat} {ls : Array Slot} {rest : List Value} {D : va_G} {cl : List vw_C} {A : Nat → Prop} {a : Nat} {tys : List (ClassId × FieldType)} {ws : va_W} {H0 : Heap}
theorem va_mna {X : va_W} {L : List Nat} {f : Nat → va_E} {cc : ByteArray} (hexec : p.tables.exec = Jvm.exec) (hb : c.code = cc) {own : String} {index : Nat} {ty : FieldType} {cy : ClassId} (hown : s.vm.findClass own = some m.cls) (hclink : (Cond.classLink own index ("[" ++ (FieldType.array ty).toString)).before args s = true) (hover : va_AOA ty s) (harr : (Cond.arrayClass ty).before args s = true) (hcy : s.vm.findClass (FieldType.array ty).toString = some cy)
    (hK : va_K D cl tys s) (hP : va_P D cl (X ++ va_pl L f) H) (hD : va_D A (X ++ va_pl L f)) (hS : va_S A H0 H locs) (hA : ∀ q, H0.size ≤ q → A q) {n k : Int32} {N' K' : Nat} {z : vp_A} (hn : ¬ n < 0) (hk : ¬ k < 0) (hN : n.toNatClampNeg = N') (hM : k.toNatClampNeg = K')
    (hb1 : N' * 4 ≤ 536870912) (hb2 : K' * componentBytes ty ≤ 536870912) (hb3 : K' ≤ 536870912) (hdf : fits ty (defaultValue ty) = true) (hdd : (defaultValue ty).isDefault = true) (hcells : cells + (1 + N') ≤ R.cells) (hslots : slots + (N' + N' * K') ≤ R.slots) (hz : ∀ c : ClassId, Jvm.Free.Multi.innerC c K' (defaultValue ty) = vp_cell c z) (hdg : decode cc pc = .ok (.multianewarray index 2, 4))
    (kk : ∀ (q : Nat) (r : Nat → Nat) (cA : ClassId) (H1 : Heap), (∀ i j : Nat, i < N' → j < N' → r i = r j → i = j) → (∀ i : Nat, i < N' → r i ∉ L) → va_K D cl (tys ++ [(cA, .array ty)]) s →
      va_P D cl ((X ++ [(q, .inl (cA, N', .inr (.inr (.inr (.inr (fun i => if i < N' then some (r i) else none))))))]) ++ va_pl (L ++ (List.range N').map r) (vr_up f ((List.range N').map r) (.inl (cy, z)))) H1 → va_D A ((X ++ [(q, .inl (cA, N', .inr (.inr (.inr (.inr (fun i => if i < N' then some (r i) else none))))))]) ++ va_pl (L ++ (List.range N').map r) (vr_up f ((List.range N').map r) (.inl (cy, z)))) → va_S A H0 H1 locs →
      W p l e R s m args below meth c H1 locs (cells + 1 + N') (slots + N' + N' * K') Q (F0 m (pc + 4) ls (.ref q :: rest))) : W p l e R s m args below meth c H locs cells slots Q (F0 m pc ls (.int k :: .int n :: rest)) := by
  subst hN
  subst hM
  intro T hT Xs
  obtain ⟨vm₁, cA, comp, -, fA, fC, hO, -, X', step⟩ := Xs.multianewarray2F hexec hown hclink (va_AOA.use hover) harr (g := F0 m pc ls (.int k :: .int n :: rest)) rfl (by rw [hb]; exact hdg) rfl hn hk hb1 hb2 hb3 hdf hdd hcells hslots
  have ec : some cy = some comp := hcy.symm.trans fC
  cases ec
  generalize hF : Jvm.Free.Multi.fill (T.setVm vm₁) cA cy n.toNatClampNeg k.toNatClampNeg (defaultValue ty) n.toNatClampNeg = F at X' step
  have hTh : (T.setVm vm₁).heap = H := hT
  obtain ⟨f1, f2, -, -⟩ := Jvm.Free.Multi.fill_facts (T.setVm vm₁) cA cy n.toNatClampNeg k.toNatClampNeg (defaultValue ty) n.toNatClampNeg
  rw [hF, hTh] at f1 f2
  have hold : ∀ x : Nat, x < H.size → F.heap[x]? = H[x]? := fun x hx => by
    have := Jvm.Free.Multi.fill_old (T.setVm vm₁) cA cy n.toNatClampNeg k.toNatClampNeg (defaultValue ty) (a := x) (by rw [hTh]; exact hx) n.toNatClampNeg
    rw [hF, hTh] at this
    exact this
  have hrow : ∀ j : Nat, j < n.toNatClampNeg → F.heap[H.size + 1 + j]? = some (vp_cell cy z) := fun j hj => by
    have := Jvm.Free.Multi.fill_inner (T.setVm vm₁) cA cy n.toNatClampNeg k.toNatClampNeg (defaultValue ty) n.toNatClampNeg j hj
    rw [hF, hTh, hz] at this
    exact this
  have hout : Jvm.Free.Multi.outerC cA n.toNatClampNeg H.size n.toNatClampNeg = vp_cell cA (n.toNatClampNeg, .inr (.inr (.inr (.inr (fun i => if i < n.toNatClampNeg then some (H.size + 1 + i) else none))))) := by
    rw [vp_cell_q]
    exact vr_outer cA n.toNatClampNeg H.size n.toNatClampNeg
  rw [hout] at f2
  have hlt : ∀ a, a ∈ L → a < H.size := fun a ha => by
    obtain ⟨k9, hk9⟩ := va_pl_get (X := X) (f := f) ha
    exact (hP k9 _ hk9).lt
  have hnl : ∀ i : Nat, i < n.toNatClampNeg → H.size + 1 + i ∉ L := fun i _ h => by
    have := hlt _ h
    omega
  have hnm : ∀ a, a ∈ (List.range n.toNatClampNeg).map (fun i => H.size + 1 + i) → a ∉ L := fun a ha h => by
    obtain ⟨i, -, rfl⟩ := List.mem_map.mp ha
    have := hlt _ h
    omega
  have hP0 : va_P D cl (X ++ va_pl L f) F.heap := hP.kept (fun k9 x hx => hold x.1 ((hP k9 x hx).lt))
  have hP1 : va_P D cl ((X ++ va_pl L f) ++ [(H.size, .inl (cA, n.toNatClampNeg, .inr (.inr (.inr (.inr (fun i => if i < n.toNatClampNeg then some (H.size + 1 + i) else none))))))]) F.heap := hP0.app (fun k9 x hx => by
    have h0 : k9 < 1 := (List.getElem?_eq_some_iff.mp hx).1
    rw [show k9 = 0 by omega] at hx
    cases hx
    exact f2)
  have hP2 : va_P D cl (((X ++ va_pl L f) ++ [(H.size, .inl (cA, n.toNatClampNeg, .inr (.inr (.inr (.inr (fun i => if i < n.toNatClampNeg then some (H.size + 1 + i) else none))))))]) ++ ((List.range n.toNatClampNeg).map (fun i => H.size + 1 + i)).map (fun a => (a, .inl (cy, z)))) F.heap := hP1.app (fun k9 x hx => by
    obtain ⟨a, ha, rfl⟩ := List.mem_map.mp (List.mem_of_getElem? hx)
    obtain ⟨i, hi, rfl⟩ := List.mem_map.mp ha
    exact hrow i (List.mem_range.mp hi))
  have hD2 : va_D A (((X ++ va_pl L f) ++ [(H.size, .inl (cA, n.toNatClampNeg, .inr (.inr (.inr (.inr (fun i => if i < n.toNatClampNeg then some (H.size + 1 + i) else none))))))]) ++ ((List.range n.toNatClampNeg).map (fun i => H.size + 1 + i)).map (fun a => (a, .inl (cy, z)))) := by
    have hD1 := hD.push (e := .inl (cA, n.toNatClampNeg, .inr (.inr (.inr (.inr (fun i => if i < n.toNatClampNeg then some (H.size + 1 + i) else none)))))) hP rfl (hA _ hS.1)
    generalize hW1 : (X ++ va_pl L f) ++ [(H.size, .inl (cA, n.toNatClampNeg, .inr (.inr (.inr (.inr (fun i => if i < n.toNatClampNeg then some (H.size + 1 + i) else none))))))] = W1 at hD1 hP1 ⊢
    have hle : ∀ (k9 : Nat) (x : Nat × va_E), W1[k9]? = some x → x.1 ≤ H.size := fun k9 x hx => by
      rw [← hW1] at hx
      by_cases hl : k9 < (X ++ va_pl L f).length
      · rw [List.getElem?_append_left hl] at hx
        exact Nat.le_of_lt ((hP k9 x hx).lt)
      · rw [List.getElem?_append_right (by omega)] at hx
        have h0 : k9 - (X ++ va_pl L f).length < 1 := (List.getElem?_eq_some_iff.mp hx).1
        rw [show k9 - (X ++ va_pl L f).length = 0 by omega] at hx
        cases hx
        exact Nat.le_refl _
    have hr : ∀ (k9 : Nat) (x : Nat × va_E), (((List.range n.toNatClampNeg).map (fun i => H.size + 1 + i)).map (fun a => ((a, .inl (cy, z)) : Nat × va_E)))[k9]? = some x → x.1 = H.size + 1 + k9 := fun k9 x hx => by
      rw [List.getElem?_map, List.getElem?_map] at hx
      by_cases h9 : k9 < n.toNatClampNeg
      · rw [List.getElem?_range h9] at hx
        cases hx
        rfl
      · have hn0 : (List.range n.toNatClampNeg)[k9]? = none := List.getElem?_eq_none (by rw [List.length_range]; omega)
        rw [hn0] at hx
        cases hx
    refine ⟨fun i j x y hi hj hxy => ?_, fun k9 x hx => ?_⟩
    · by_cases h1 : i < W1.length <;> by_cases h2 : j < W1.length
      · rw [List.getElem?_append_left h1] at hi
        rw [List.getElem?_append_left h2] at hj
        exact hD1.1 i j x y hi hj hxy
      · rw [List.getElem?_append_left h1] at hi
        rw [List.getElem?_append_right (by omega)] at hj
        have := hle _ _ hi
        have := hr _ _ hj
        omega
      · rw [List.getElem?_append_right (by omega)] at hi
        rw [List.getElem?_append_left h2] at hj
        have := hle _ _ hj
        have := hr _ _ hi
        omega
      · rw [List.getElem?_append_right (by omega)] at hi hj
        have := hr _ _ hi
        have := hr _ _ hj
        omega
    · by_cases h1 : k9 < W1.length
      · rw [List.getElem?_append_left h1] at hx
        exact hD1.2 k9 x hx
      · rw [List.getElem?_append_right (by omega)] at hx
        have := hr _ _ hx
        exact hA _ (by have := hS.1; omega)
  have hAr : ArrOfT s cA (.array ty) := fun N9 z9 => by
    obtain ⟨-, k9, hk9, cm9, hkk9⟩ := (hO 0 0 0).1
    exact ⟨(fun q hq => by cases hq), k9, hk9, cm9, hkk9⟩
  have hK2 : va_K D cl (tys ++ [(cA, .array ty)]) s := ⟨hK.1, fun k9 x hx => by
    by_cases hl : k9 < tys.length
    · rw [List.getElem?_append_left hl] at hx
      exact hK.2 k9 x hx
    · rw [List.getElem?_append_right (by omega)] at hx
      have h0 : k9 - tys.length < 1 := (List.getElem?_eq_some_iff.mp hx).1
      rw [show k9 - tys.length = 0 by omega] at hx
      cases hx
      exact ⟨hAr, fA⟩⟩
  obtain ⟨t, a1, b1⟩ := kk H.size (fun i => H.size + 1 + i) cA F.heap (fun i j _ _ h => by have h9 : H.size + 1 + i = H.size + 1 + j := h; omega) hnl hK2 (by rw [← vr_rows hnm]; exact vr_lay hP2) (by rw [← vr_rows hnm]; exact vr_layD hD2) ⟨by rw [f1]; have := hS.1; omega, fun x h1 h2 => (hold x (Nat.lt_of_lt_of_le h1 hS.1)).trans (hS.2.1 x h1 h2), hS.2.2⟩ F rfl X'
  refine ⟨t, step t ?_, b1⟩
  have e : T.heap.size = H.size := by rw [hT]
  rw [e]
  exact a1
end VGM
/-! ===== END ===== -/

/-! ===== BEGIN printed: names, fields, word lists, decode rows ===== -/
def RX0 : String := "MorningDesk$Gap"
def TX0 : u_T := fun k => match k with
  | 0 => ("MorningDesk$Gap", "school", "I", true)
  | 1 => ("MorningDesk$Gap", "klass", "I", true)
  | 2 => ("MorningDesk$Gap", "subject", "I", true)
  | 3 => ("MorningDesk$Gap", "age", "I", true)
  | _ => ("MorningDesk$Gap", "hours", "I", true)
def tyX0 : Nat → FieldType := fun k => match k with
  | 0 => .int
  | 1 => .int
  | 2 => .int
  | 3 => .int
  | _ => .int
abbrev wsX00 : List Cond := u_ws RX0 TX0 5
theorem nmX0 : ∀ a, a < 5 → ∀ b, b < 5 → a ≠ b → (TX0 a).2.1 ≠ (TX0 b).2.1 := by decide +kernel
theorem tyX0_ok : ∀ k, k < 5 → parseFieldDescriptor (TX0 k).2.2.1 = some (tyX0 k) := by decide +kernel
abbrev cX0_init : ByteArray := prog_2_method_1_code
def yX0_init : MethodName := ⟨RX0, "<init>", "(IIIII)V"⟩
def RX1 : String := "MorningDesk$Matching"
def TX1 : u_T := fun k => match k with
  | 0 => ("MorningDesk$Matching", "weights", "[[J", true)
  | 1 => ("MorningDesk$Matching", "takers", "[I", true)
  | 2 => ("MorningDesk$Matching", "openGaps", "I", false)
  | 3 => ("MorningDesk$Matching", "teacherOf", "[I", true)
  | 4 => ("MorningDesk$Matching", "taken", "I", false)
  | 5 => ("MorningDesk$Matching", "toLose", "[J", true)
  | _ => ("MorningDesk$Matching", "loserTo", "[I", true)
def tyX1 : Nat → FieldType := fun k => match k with
  | 0 => .array (.array .long)
  | 1 => .array .int
  | 2 => .int
  | 3 => .array .int
  | 4 => .int
  | 5 => .array .long
  | _ => .array .int
abbrev wsX10 : List Cond := u_ws RX1 TX1 7
theorem nmX1 : ∀ a, a < 7 → ∀ b, b < 7 → a ≠ b → (TX1 a).2.1 ≠ (TX1 b).2.1 := by decide +kernel
theorem tyX1_ok : ∀ k, k < 7 → parseFieldDescriptor (TX1 k).2.2.1 = some (tyX1 k) := by decide +kernel
abbrev cX1_init : ByteArray := prog_3_method_1_code
def yX1_init : MethodName := ⟨RX1, "<init>", "()V"⟩
abbrev cX1_clear : ByteArray := prog_3_method_2_code
def yX1_clear : MethodName := ⟨RX1, "clear", "()V"⟩
abbrev cX1_open : ByteArray := prog_3_method_3_code
def yX1_open : MethodName := ⟨RX1, "open", "(I)V"⟩
abbrev cX1_offer : ByteArray := prog_3_method_4_code
def yX1_offer : MethodName := ⟨RX1, "offer", "(III)V"⟩
abbrev cX1_solve : ByteArray := prog_3_method_5_code
def yX1_solve : MethodName := ⟨RX1, "solve", "()V"⟩
abbrev cX1_teacherFor : ByteArray := prog_3_method_6_code
def yX1_teacherFor : MethodName := ⟨RX1, "teacherFor", "(I)I"⟩
abbrev cX1_gapFor : ByteArray := prog_3_method_7_code
def yX1_gapFor : MethodName := ⟨RX1, "gapFor", "(I)I"⟩
abbrev cX1_filled : ByteArray := prog_3_method_8_code
def yX1_filled : MethodName := ⟨RX1, "filled", "()I"⟩
abbrev cX1_costInAll : ByteArray := prog_3_method_9_code
def yX1_costInAll : MethodName := ⟨RX1, "costInAll", "()I"⟩
abbrev cX1_fewestUnfillable : ByteArray := prog_3_method_10_code
def yX1_fewestUnfillable : MethodName := ⟨RX1, "fewestUnfillable", "()I"⟩
abbrev cX1_takersOf : ByteArray := prog_3_method_11_code
def yX1_takersOf : MethodName := ⟨RX1, "takersOf", "(I)I"⟩
abbrev cX1_isGap : ByteArray := prog_3_method_12_code
def yX1_isGap : MethodName := ⟨RX1, "isGap", "(I)Z"⟩
abbrev cX1_digit : ByteArray := prog_3_method_13_code
def yX1_digit : MethodName := ⟨RX1, "digit", "(II)J"⟩
abbrev cX1_weightOf : ByteArray := prog_3_method_14_code
def yX1_weightOf : MethodName := ⟨RX1, "weightOf", "(II)J"⟩
abbrev cX1_bringIn : ByteArray := prog_3_method_15_code
def yX1_bringIn : MethodName := ⟨RX1, "bringIn", "(I)V"⟩
abbrev cX1_findChains : ByteArray := prog_3_method_16_code
def yX1_findChains : MethodName := ⟨RX1, "findChains", "(I)V"⟩
abbrev cX1_lengthenChains : ByteArray := prog_3_method_17_code
def yX1_lengthenChains : MethodName := ⟨RX1, "lengthenChains", "(II)Z"⟩
abbrev cX1_cheapestEnd : ByteArray := prog_3_method_18_code
def yX1_cheapestEnd : MethodName := ⟨RX1, "cheapestEnd", "(I)I"⟩
abbrev cX1_shiftAlong : ByteArray := prog_3_method_19_code
def yX1_shiftAlong : MethodName := ⟨RX1, "shiftAlong", "(III)V"⟩
def RX2 : String := "MorningDesk$RuleBook"
def TX2 : u_T := fun k => match k with
  | 0 => ("MorningDesk$RuleBook", "numbers", "[I", true)
  | 1 => ("MorningDesk$RuleBook", "draft", "[I", true)
  | _ => ("MorningDesk$RuleBook", "place", "I", false)
def tyX2 : Nat → FieldType := fun k => match k with
  | 0 => .array .int
  | 1 => .array .int
  | _ => .int
abbrev wsX20 : List Cond := u_ws RX2 TX2 3
theorem nmX2 : ∀ a, a < 3 → ∀ b, b < 3 → a ≠ b → (TX2 a).2.1 ≠ (TX2 b).2.1 := by decide +kernel
theorem tyX2_ok : ∀ k, k < 3 → parseFieldDescriptor (TX2 k).2.2.1 = some (tyX2 k) := by decide +kernel
abbrev cX2_init : ByteArray := prog_4_method_1_code
def yX2_init : MethodName := ⟨RX2, "<init>", "()V"⟩
abbrev cX2_number : ByteArray := prog_4_method_2_code
def yX2_number : MethodName := ⟨RX2, "number", "(I)I"⟩
abbrev cX2_read : ByteArray := prog_4_method_3_code
def yX2_read : MethodName := ⟨RX2, "read", "(LMorningDesk$Tape;I)I"⟩
abbrev cX2_readClause : ByteArray := prog_4_method_4_code
def yX2_readClause : MethodName := ⟨RX2, "readClause", "(LMorningDesk$Tape;I)I"⟩
abbrev cX2_readDigits : ByteArray := prog_4_method_5_code
def yX2_readDigits : MethodName := ⟨RX2, "readDigits", "(LMorningDesk$Tape;I)I"⟩
abbrev cX2_isDigit : ByteArray := prog_4_method_6_code
def yX2_isDigit : MethodName := ⟨RX2, "isDigit", "(I)Z"⟩
abbrev cX2_kindOf : ByteArray := prog_4_method_7_code
def yX2_kindOf : MethodName := ⟨RX2, "kindOf", "(I)I"⟩
def RX3 : String := "MorningDesk$Tape"
def TX3 : u_T := fun k => match k with
  | 0 => ("MorningDesk$Tape", "bytes", "[B", true)
  | _ => ("MorningDesk$Tape", "size", "I", false)
def tyX3 : Nat → FieldType := fun k => match k with
  | 0 => .array .byte
  | _ => .int
abbrev wsX30 : List Cond := u_ws RX3 TX3 2
theorem nmX3 : ∀ a, a < 2 → ∀ b, b < 2 → a ≠ b → (TX3 a).2.1 ≠ (TX3 b).2.1 := by decide +kernel
theorem tyX3_ok : ∀ k, k < 2 → parseFieldDescriptor (TX3 k).2.2.1 = some (tyX3 k) := by decide +kernel
abbrev cX3_init : ByteArray := prog_5_method_1_code
def yX3_init : MethodName := ⟨RX3, "<init>", "()V"⟩
abbrev cX3_hasRoom : ByteArray := prog_5_method_2_code
def yX3_hasRoom : MethodName := ⟨RX3, "hasRoom", "()Z"⟩
abbrev cX3_append : ByteArray := prog_5_method_3_code
def yX3_append : MethodName := ⟨RX3, "append", "(I)V"⟩
abbrev cX3_signAt : ByteArray := prog_5_method_4_code
def yX3_signAt : MethodName := ⟨RX3, "signAt", "(II)I"⟩
def RX4 : String := "MorningDesk$Teacher"
def TX4 : u_T := fun k => match k with
  | 0 => ("MorningDesk$Teacher", "subjects", "I", true)
  | 1 => ("MorningDesk$Teacher", "ages", "I", true)
  | 2 => ("MorningDesk$Teacher", "check", "I", true)
  | 3 => ("MorningDesk$Teacher", "minutes", "[I", true)
  | 4 => ("MorningDesk$Teacher", "liked", "I", false)
  | 5 => ("MorningDesk$Teacher", "barred", "I", false)
  | 6 => ("MorningDesk$Teacher", "state", "I", false)
  | 7 => ("MorningDesk$Teacher", "sentGap", "I", false)
  | 8 => ("MorningDesk$Teacher", "missed", "I", false)
  | 9 => ("MorningDesk$Teacher", "worked", "I", false)
  | _ => ("MorningDesk$Teacher", "paid", "J", false)
def tyX4 : Nat → FieldType := fun k => match k with
  | 0 => .int
  | 1 => .int
  | 2 => .int
  | 3 => .array .int
  | 4 => .int
  | 5 => .int
  | 6 => .int
  | 7 => .int
  | 8 => .int
  | 9 => .int
  | _ => .long
abbrev wsX40 : List Cond := u_ws RX4 TX4 11
theorem nmX4 : ∀ a, a < 11 → ∀ b, b < 11 → a ≠ b → (TX4 a).2.1 ≠ (TX4 b).2.1 := by decide +kernel
theorem tyX4_ok : ∀ k, k < 11 → parseFieldDescriptor (TX4 k).2.2.1 = some (tyX4 k) := by decide +kernel
abbrev cX4_init : ByteArray := prog_6_method_1_code
def yX4_init : MethodName := ⟨RX4, "<init>", "(III)V"⟩
abbrev cX4_startDay : ByteArray := prog_6_method_2_code
def yX4_startDay : MethodName := ⟨RX4, "startDay", "()V"⟩
abbrev cX4_minutesTo : ByteArray := prog_6_method_3_code
def yX4_minutesTo : MethodName := ⟨RX4, "minutesTo", "(I)I"⟩
abbrev cX4_fills : ByteArray := prog_6_method_4_code
def yX4_fills : MethodName := ⟨RX4, "fills", "(LMorningDesk$Gap;LMorningDesk$RuleBook;I)Z"⟩
abbrev cX4_costFor : ByteArray := prog_6_method_5_code
def yX4_costFor : MethodName := ⟨RX4, "costFor", "(LMorningDesk$Gap;LMorningDesk$RuleBook;)I"⟩
abbrev cX4_takeAnswer : ByteArray := prog_6_method_6_code
def yX4_takeAnswer : MethodName := ⟨RX4, "takeAnswer", "(III)V"⟩
abbrev cX4_workAt : ByteArray := prog_6_method_7_code
def yX4_workAt : MethodName := ⟨RX4, "workAt", "(LMorningDesk$Gap;LMorningDesk$RuleBook;)V"⟩
def RX5 : String := "MorningDesk$Visits"
def TX5 : u_T := fun k => match k with
  | 0 => ("MorningDesk$Visits", "visitors", "[B", true)
  | 1 => ("MorningDesk$Visits", "rooms", "[B", true)
  | 2 => ("MorningDesk$Visits", "days", "[S", true)
  | 3 => ("MorningDesk$Visits", "nextSlot", "I", false)
  | _ => ("MorningDesk$Visits", "kept", "I", false)
def tyX5 : Nat → FieldType := fun k => match k with
  | 0 => .array .byte
  | 1 => .array .byte
  | 2 => .array .short
  | 3 => .int
  | _ => .int
abbrev wsX50 : List Cond := u_ws RX5 TX5 5
theorem nmX5 : ∀ a, a < 5 → ∀ b, b < 5 → a ≠ b → (TX5 a).2.1 ≠ (TX5 b).2.1 := by decide +kernel
theorem tyX5_ok : ∀ k, k < 5 → parseFieldDescriptor (TX5 k).2.2.1 = some (tyX5 k) := by decide +kernel
abbrev cX5_init : ByteArray := prog_7_method_1_code
def yX5_init : MethodName := ⟨RX5, "<init>", "()V"⟩
abbrev cX5_keep : ByteArray := prog_7_method_2_code
def yX5_keep : MethodName := ⟨RX5, "keep", "(ILMorningDesk$Gap;I)V"⟩
abbrev cX5_teachersSeen : ByteArray := prog_7_method_3_code
def yX5_teachersSeen : MethodName := ⟨RX5, "teachersSeen", "(III)I"⟩
abbrev cX5_roomOf : ByteArray := prog_7_method_4_code
def yX5_roomOf : MethodName := ⟨RX5, "roomOf", "(II)I"⟩
def RX6 : String := "MorningDesk"
def TX6 : u_T := fun k => match k with
  | 0 => ("MorningDesk", "tape", "LMorningDesk$Tape;", true)
  | 1 => ("MorningDesk", "ruleBook", "LMorningDesk$RuleBook;", true)
  | 2 => ("MorningDesk", "teachers", "[LMorningDesk$Teacher;", true)
  | 3 => ("MorningDesk", "gaps", "[LMorningDesk$Gap;", true)
  | 4 => ("MorningDesk", "visits", "LMorningDesk$Visits;", true)
  | 5 => ("MorningDesk", "matching", "LMorningDesk$Matching;", true)
  | 6 => ("MorningDesk", "teacherCount", "I", false)
  | 7 => ("MorningDesk", "gapCount", "I", false)
  | _ => ("MorningDesk", "today", "I", false)
def tyX6 : Nat → FieldType := fun k => match k with
  | 0 => .object "MorningDesk$Tape"
  | 1 => .object "MorningDesk$RuleBook"
  | 2 => .array (.object "MorningDesk$Teacher")
  | 3 => .array (.object "MorningDesk$Gap")
  | 4 => .object "MorningDesk$Visits"
  | 5 => .object "MorningDesk$Matching"
  | 6 => .int
  | 7 => .int
  | _ => .int
abbrev wsX60 : List Cond := u_ws RX6 TX6 9
theorem nmX6 : ∀ a, a < 9 → ∀ b, b < 9 → a ≠ b → (TX6 a).2.1 ≠ (TX6 b).2.1 := by decide +kernel
theorem tyX6_ok : ∀ k, k < 9 → parseFieldDescriptor (TX6 k).2.2.1 = some (tyX6 k) := by decide +kernel
abbrev cX6_init : ByteArray := prog_1_method_1_code
def yX6_init : MethodName := ⟨RX6, "<init>", "()V"⟩
abbrev cX6_feed : ByteArray := prog_1_method_2_code
def yX6_feed : MethodName := ⟨RX6, "feed", "(IIIII)I"⟩
abbrev cX6_rules : ByteArray := prog_1_method_3_code
def yX6_rules : MethodName := ⟨RX6, "rules", "(I)I"⟩
abbrev cX6_teacher : ByteArray := prog_1_method_4_code
def yX6_teacher : MethodName := ⟨RX6, "teacher", "(III)I"⟩
abbrev cX6_way : ByteArray := prog_1_method_5_code
def yX6_way : MethodName := ⟨RX6, "way", "(III)Z"⟩
abbrev cX6_likes : ByteArray := prog_1_method_6_code
def yX6_likes : MethodName := ⟨RX6, "likes", "(III)Z"⟩
abbrev cX6_gap : ByteArray := prog_1_method_7_code
def yX6_gap : MethodName := ⟨RX6, "gap", "(IIIII)I"⟩
abbrev cX6_can : ByteArray := prog_1_method_8_code
def yX6_can : MethodName := ⟨RX6, "can", "(II)I"⟩
abbrev cX6_cost : ByteArray := prog_1_method_9_code
def yX6_cost : MethodName := ⟨RX6, "cost", "(II)I"⟩
abbrev cX6_match : ByteArray := prog_1_method_10_code
def yX6_match : MethodName := ⟨RX6, "match", "()I"⟩
abbrev cX6_costs : ByteArray := prog_1_method_11_code
def yX6_costs : MethodName := ⟨RX6, "costs", "()I"⟩
abbrev cX6_who : ByteArray := prog_1_method_12_code
def yX6_who : MethodName := ⟨RX6, "who", "(I)I"⟩
abbrev cX6_next : ByteArray := prog_1_method_13_code
def yX6_next : MethodName := ⟨RX6, "next", "()I"⟩
abbrev cX6_answer : ByteArray := prog_1_method_14_code
def yX6_answer : MethodName := ⟨RX6, "answer", "(II)Z"⟩
abbrev cX6_hall : ByteArray := prog_1_method_15_code
def yX6_hall : MethodName := ⟨RX6, "hall", "()I"⟩
abbrev cX6_day : ByteArray := prog_1_method_16_code
def yX6_day : MethodName := ⟨RX6, "day", "()I"⟩
abbrev cX6_pay : ByteArray := prog_1_method_17_code
def yX6_pay : MethodName := ⟨RX6, "pay", "(I)J"⟩
abbrev cX6_strangers : ByteArray := prog_1_method_18_code
def yX6_strangers : MethodName := ⟨RX6, "strangers", "(II)I"⟩
abbrev cX6_look : ByteArray := prog_1_method_19_code
def yX6_look : MethodName := ⟨RX6, "look", "(II)I"⟩
abbrev cX6_about : ByteArray := prog_1_method_20_code
def yX6_about : MethodName := ⟨RX6, "about", "(II)I"⟩
abbrev cX6_count : ByteArray := prog_1_method_21_code
def yX6_count : MethodName := ⟨RX6, "count", "(I)I"⟩
abbrev cX6_within : ByteArray := prog_1_method_22_code
def yX6_within : MethodName := ⟨RX6, "within", "(III)Z"⟩
abbrev cX6_isSchool : ByteArray := prog_1_method_23_code
def yX6_isSchool : MethodName := ⟨RX6, "isSchool", "(I)Z"⟩
abbrev cX6_isClass : ByteArray := prog_1_method_24_code
def yX6_isClass : MethodName := ⟨RX6, "isClass", "(I)Z"⟩
abbrev cX6_hasBit : ByteArray := prog_1_method_25_code
def yX6_hasBit : MethodName := ⟨RX6, "hasBit", "(II)Z"⟩
abbrev cX6_teacherAt : ByteArray := prog_1_method_26_code
def yX6_teacherAt : MethodName := ⟨RX6, "teacherAt", "(I)LMorningDesk$Teacher;"⟩
abbrev cX6_gapAt : ByteArray := prog_1_method_27_code
def yX6_gapAt : MethodName := ⟨RX6, "gapAt", "(I)LMorningDesk$Gap;"⟩
abbrev cX6_sentTo : ByteArray := prog_1_method_28_code
def yX6_sentTo : MethodName := ⟨RX6, "sentTo", "(I)I"⟩
abbrev cX6_countInState : ByteArray := prog_1_method_29_code
def yX6_countInState : MethodName := ⟨RX6, "countInState", "(I)I"⟩
abbrev cX6_findMatch : ByteArray := prog_1_method_30_code
def yX6_findMatch : MethodName := ⟨RX6, "findMatch", "()V"⟩
abbrev cX6_offerAll : ByteArray := prog_1_method_31_code
def yX6_offerAll : MethodName := ⟨RX6, "offerAll", "()V"⟩
abbrev cX6_offerTeachers : ByteArray := prog_1_method_32_code
def yX6_offerTeachers : MethodName := ⟨RX6, "offerTeachers", "(ILMorningDesk$Gap;)V"⟩
abbrev cX6_isCalledAhead : ByteArray := prog_1_method_33_code
def yX6_isCalledAhead : MethodName := ⟨RX6, "isCalledAhead", "(II)Z"⟩
abbrev cX6_endDayOf : ByteArray := prog_1_method_34_code
def yX6_endDayOf : MethodName := ⟨RX6, "endDayOf", "(I)V"⟩
def RX7 : String := "MorningDeskModel"
def TX7 : u_T := fun k => match k with
  | 0 => ("MorningDeskModel", "tape", "[B", true)
  | 1 => ("MorningDeskModel", "taped", "I", false)
  | 2 => ("MorningDeskModel", "day", "I", false)
  | 3 => ("MorningDeskModel", "teachers", "I", false)
  | 4 => ("MorningDeskModel", "gaps", "I", false)
  | 5 => ("MorningDeskModel", "visits", "I", false)
  | 6 => ("MorningDeskModel", "rule", "[I", true)
  | 7 => ("MorningDeskModel", "read", "[I", true)
  | 8 => ("MorningDeskModel", "subjects", "[I", true)
  | 9 => ("MorningDeskModel", "ages", "[I", true)
  | 10 => ("MorningDeskModel", "check", "[I", true)
  | 11 => ("MorningDeskModel", "way", "[I", true)
  | 12 => ("MorningDeskModel", "liked", "[I", true)
  | 13 => ("MorningDeskModel", "barred", "[I", true)
  | 14 => ("MorningDeskModel", "how", "[I", true)
  | 15 => ("MorningDeskModel", "sent", "[I", true)
  | 16 => ("MorningDeskModel", "tries", "[I", true)
  | 17 => ("MorningDeskModel", "worked", "[I", true)
  | 18 => ("MorningDeskModel", "pay", "[J", true)
  | 19 => ("MorningDeskModel", "school", "[I", true)
  | 20 => ("MorningDeskModel", "klass", "[I", true)
  | 21 => ("MorningDeskModel", "subject", "[I", true)
  | 22 => ("MorningDeskModel", "age", "[I", true)
  | 23 => ("MorningDeskModel", "hours", "[I", true)
  | 24 => ("MorningDeskModel", "visitor", "[I", true)
  | 25 => ("MorningDeskModel", "visited", "[I", true)
  | 26 => ("MorningDeskModel", "visitDay", "[I", true)
  | 27 => ("MorningDeskModel", "isFresh", "Z", false)
  | 28 => ("MorningDeskModel", "best", "[I", true)
  | 29 => ("MorningDeskModel", "mate", "[I", true)
  | 30 => ("MorningDeskModel", "matched", "I", false)
  | _ => ("MorningDeskModel", "matchCost", "I", false)
def tyX7 : Nat → FieldType := fun k => match k with
  | 0 => .array .byte
  | 1 => .int
  | 2 => .int
  | 3 => .int
  | 4 => .int
  | 5 => .int
  | 6 => .array .int
  | 7 => .array .int
  | 8 => .array .int
  | 9 => .array .int
  | 10 => .array .int
  | 11 => .array .int
  | 12 => .array .int
  | 13 => .array .int
  | 14 => .array .int
  | 15 => .array .int
  | 16 => .array .int
  | 17 => .array .int
  | 18 => .array .long
  | 19 => .array .int
  | 20 => .array .int
  | 21 => .array .int
  | 22 => .array .int
  | 23 => .array .int
  | 24 => .array .int
  | 25 => .array .int
  | 26 => .array .int
  | 27 => .boolean
  | 28 => .array .int
  | 29 => .array .int
  | 30 => .int
  | _ => .int
abbrev wsX70 : List Cond := u_ws RX7 TX7 32
theorem nmX7 : ∀ a, a < 32 → ∀ b, b < 32 → a ≠ b → (TX7 a).2.1 ≠ (TX7 b).2.1 := by decide +kernel
theorem tyX7_ok : ∀ k, k < 32 → parseFieldDescriptor (TX7 k).2.2.1 = some (tyX7 k) := by decide +kernel
abbrev cX7_init : ByteArray := prog_9_method_1_code
def yX7_init : MethodName := ⟨RX7, "<init>", "()V"⟩
abbrev cX7_lies : ByteArray := prog_9_method_2_code
def yX7_lies : MethodName := ⟨RX7, "lies", "(III)Z"⟩
abbrev cX7_has : ByteArray := prog_9_method_3_code
def yX7_has : MethodName := ⟨RX7, "has", "(II)Z"⟩
abbrev cX7_sizeOf : ByteArray := prog_9_method_4_code
def yX7_sizeOf : MethodName := ⟨RX7, "sizeOf", "(I)I"⟩
abbrev cX7_push : ByteArray := prog_9_method_5_code
def yX7_push : MethodName := ⟨RX7, "push", "(I)V"⟩
abbrev cX7_feed : ByteArray := prog_9_method_6_code
def yX7_feed : MethodName := ⟨RX7, "feed", "(IIIII)I"⟩
abbrev cX7_asAtFirst : ByteArray := prog_9_method_7_code
def yX7_asAtFirst : MethodName := ⟨RX7, "asAtFirst", "([I)V"⟩
abbrev cX7_letter : ByteArray := prog_9_method_8_code
def yX7_letter : MethodName := ⟨RX7, "letter", "(I)I"⟩
abbrev cX7_canBe : ByteArray := prog_9_method_9_code
def yX7_canBe : MethodName := ⟨RX7, "canBe", "(II)Z"⟩
abbrev cX7_at : ByteArray := prog_9_method_10_code
def yX7_at : MethodName := ⟨RX7, "at", "(II)I"⟩
abbrev cX7_reads : ByteArray := prog_9_method_11_code
def yX7_reads : MethodName := ⟨RX7, "reads", "(I)I"⟩
abbrev cX7_rules : ByteArray := prog_9_method_12_code
def yX7_rules : MethodName := ⟨RX7, "rules", "(I)I"⟩
abbrev cX7_isTeacher : ByteArray := prog_9_method_13_code
def yX7_isTeacher : MethodName := ⟨RX7, "isTeacher", "(I)Z"⟩
abbrev cX7_isGap : ByteArray := prog_9_method_14_code
def yX7_isGap : MethodName := ⟨RX7, "isGap", "(I)Z"⟩
abbrev cX7_teacher : ByteArray := prog_9_method_15_code
def yX7_teacher : MethodName := ⟨RX7, "teacher", "(III)I"⟩
abbrev cX7_way : ByteArray := prog_9_method_16_code
def yX7_way : MethodName := ⟨RX7, "way", "(III)Z"⟩
abbrev cX7_likes : ByteArray := prog_9_method_17_code
def yX7_likes : MethodName := ⟨RX7, "likes", "(III)Z"⟩
abbrev cX7_gap : ByteArray := prog_9_method_18_code
def yX7_gap : MethodName := ⟨RX7, "gap", "(IIIII)I"⟩
abbrev cX7_canFill : ByteArray := prog_9_method_19_code
def yX7_canFill : MethodName := ⟨RX7, "canFill", "(II)Z"⟩
abbrev cX7_costOf : ByteArray := prog_9_method_20_code
def yX7_costOf : MethodName := ⟨RX7, "costOf", "(II)I"⟩
abbrev cX7_can : ByteArray := prog_9_method_21_code
def yX7_can : MethodName := ⟨RX7, "can", "(II)I"⟩
abbrev cX7_cost : ByteArray := prog_9_method_22_code
def yX7_cost : MethodName := ⟨RX7, "cost", "(II)I"⟩
abbrev cX7_senderOf : ByteArray := prog_9_method_23_code
def yX7_senderOf : MethodName := ⟨RX7, "senderOf", "(I)I"⟩
abbrev cX7_goes : ByteArray := prog_9_method_24_code
def yX7_goes : MethodName := ⟨RX7, "goes", "(II)Z"⟩
abbrev cX7_worth : ByteArray := prog_9_method_25_code
def yX7_worth : MethodName := ⟨RX7, "worth", "(III)I"⟩
abbrev cX7_works : ByteArray := prog_9_method_26_code
def yX7_works : MethodName := ⟨RX7, "works", "()V"⟩
abbrev cX7_match : ByteArray := prog_9_method_27_code
def yX7_match : MethodName := ⟨RX7, "match", "()I"⟩
abbrev cX7_costs : ByteArray := prog_9_method_28_code
def yX7_costs : MethodName := ⟨RX7, "costs", "()I"⟩
abbrev cX7_who : ByteArray := prog_9_method_29_code
def yX7_who : MethodName := ⟨RX7, "who", "(I)I"⟩
abbrev cX7_next : ByteArray := prog_9_method_30_code
def yX7_next : MethodName := ⟨RX7, "next", "()I"⟩
abbrev cX7_answer : ByteArray := prog_9_method_31_code
def yX7_answer : MethodName := ⟨RX7, "answer", "(II)Z"⟩
abbrev cX7_hall : ByteArray := prog_9_method_32_code
def yX7_hall : MethodName := ⟨RX7, "hall", "()I"⟩
abbrev cX7_goesBy : ByteArray := prog_9_method_33_code
def yX7_goesBy : MethodName := ⟨RX7, "goesBy", "(I)V"⟩
abbrev cX7_day : ByteArray := prog_9_method_34_code
def yX7_day : MethodName := ⟨RX7, "day", "()I"⟩
abbrev cX7_pay : ByteArray := prog_9_method_35_code
def yX7_pay : MethodName := ⟨RX7, "pay", "(I)J"⟩
abbrev cX7_kept : ByteArray := prog_9_method_36_code
def yX7_kept : MethodName := ⟨RX7, "kept", "()I"⟩
abbrev cX7_strangers : ByteArray := prog_9_method_37_code
def yX7_strangers : MethodName := ⟨RX7, "strangers", "(II)I"⟩
abbrev cX7_look : ByteArray := prog_9_method_38_code
def yX7_look : MethodName := ⟨RX7, "look", "(II)I"⟩
abbrev cX7_about : ByteArray := prog_9_method_39_code
def yX7_about : MethodName := ⟨RX7, "about", "(II)I"⟩
abbrev cX7_thoseWho : ByteArray := prog_9_method_40_code
def yX7_thoseWho : MethodName := ⟨RX7, "thoseWho", "(I)I"⟩
abbrev cX7_count : ByteArray := prog_9_method_41_code
def yX7_count : MethodName := ⟨RX7, "count", "(I)I"⟩
def RJ6 : String := "java/lang/Integer"
def TJ6 : u_T := fun k => match k with
  | _ => ("", "", "", false)
def tyJ6 : Nat → FieldType := fun k => match k with
  | _ => .int
abbrev wsJ60 : List Cond := u_ws RJ6 TJ6 0
theorem nmJ6 : ∀ a, a < 0 → ∀ b, b < 0 → a ≠ b → (TJ6 a).2.1 ≠ (TJ6 b).2.1 := by decide +kernel
theorem tyJ6_ok : ∀ k, k < 0 → parseFieldDescriptor (TJ6 k).2.2.1 = some (tyJ6 k) := by decide +kernel
abbrev cJ6_bitCount_0f7a4 : ByteArray := prog_10_method_49_code
def yJ6_bitCount_0f7a4 : MethodName := ⟨RJ6, "bitCount", "(I)I"⟩
def RJ9 : String := "java/lang/Math"
def TJ9 : u_T := fun k => match k with
  | _ => ("", "", "", false)
def tyJ9 : Nat → FieldType := fun k => match k with
  | _ => .int
abbrev wsJ90 : List Cond := u_ws RJ9 TJ9 0
theorem nmJ9 : ∀ a, a < 0 → ∀ b, b < 0 → a ≠ b → (TJ9 a).2.1 ≠ (TJ9 b).2.1 := by decide +kernel
theorem tyJ9_ok : ∀ k, k < 0 → parseFieldDescriptor (TJ9 k).2.2.1 = some (tyJ9 k) := by decide +kernel
abbrev cJ9_max_7cf53 : ByteArray := prog_11_method_65_code
def yJ9_max_7cf53 : MethodName := ⟨RJ9, "max", "(II)I"⟩
abbrev cJ9_min_7cf53 : ByteArray := prog_11_method_69_code
def yJ9_min_7cf53 : MethodName := ⟨RJ9, "min", "(II)I"⟩
def RJ10 : String := "java/lang/System"
def TJ10 : u_T := fun k => match k with
  | _ => ("", "", "", false)
def tyJ10 : Nat → FieldType := fun k => match k with
  | _ => .int
abbrev wsJ100 : List Cond := u_ws RJ10 TJ10 0
theorem nmJ10 : ∀ a, a < 0 → ∀ b, b < 0 → a ≠ b → (TJ10 a).2.1 ≠ (TJ10 b).2.1 := by decide +kernel
theorem tyJ10_ok : ∀ k, k < 0 → parseFieldDescriptor (TJ10 k).2.2.1 = some (tyJ10 k) := by decide +kernel
def RJ7 : String := "java/util/Arrays"
def TJ7 : u_T := fun k => match k with
  | _ => ("", "", "", false)
def tyJ7 : Nat → FieldType := fun k => match k with
  | _ => .int
abbrev wsJ70 : List Cond := u_ws RJ7 TJ7 0
theorem nmJ7 : ∀ a, a < 0 → ∀ b, b < 0 → a ≠ b → (TJ7 a).2.1 ≠ (TJ7 b).2.1 := by decide +kernel
theorem tyJ7_ok : ∀ k, k < 0 → parseFieldDescriptor (TJ7 k).2.2.1 = some (tyJ7 k) := by decide +kernel
abbrev cJ7_fill_d0a16 : ByteArray := prog_13_method_101_code
def yJ7_fill_d0a16 : MethodName := ⟨RJ7, "fill", "([JJ)V"⟩
abbrev cJ7_fill_53178 : ByteArray := prog_13_method_103_code
def yJ7_fill_53178 : MethodName := ⟨RJ7, "fill", "([II)V"⟩
def RL : String := "MorningDeskLaw"
abbrev cL_law : ByteArray := code
def yL_law : MethodName := ⟨RL, "law", "([I)Z"⟩
set_option maxRecDepth 20000 in
theorem inX0 : ∀ w ∈ wsX00, w ∈ lw_tbl := by decide +kernel
set_option maxRecDepth 20000 in
theorem inX1 : ∀ w ∈ wsX10, w ∈ lw_tbl := by decide +kernel
set_option maxRecDepth 20000 in
theorem inX2 : ∀ w ∈ wsX20, w ∈ lw_tbl := by decide +kernel
set_option maxRecDepth 20000 in
theorem inX3 : ∀ w ∈ wsX30, w ∈ lw_tbl := by decide +kernel
set_option maxRecDepth 20000 in
theorem inX4 : ∀ w ∈ wsX40, w ∈ lw_tbl := by decide +kernel
set_option maxRecDepth 20000 in
theorem inX5 : ∀ w ∈ wsX50, w ∈ lw_tbl := by decide +kernel
set_option maxRecDepth 20000 in
theorem inX6 : ∀ w ∈ wsX60, w ∈ lw_tbl := by decide +kernel
set_option maxRecDepth 20000 in
theorem inX7 : ∀ w ∈ wsX70, w ∈ lw_tbl := by decide +kernel
end
section
theorem dX0_init_0 : decode cX0_init 0 = .ok (.aload_n 0, 1) := by decide +kernel
theorem dX0_init_1 : decode cX0_init 1 = .ok (.invokespecial 1, 3) := by decide +kernel
theorem dX0_init_4 : decode cX0_init 4 = .ok (.aload_n 0, 1) := by decide +kernel
theorem dX0_init_5 : decode cX0_init 5 = .ok (.iload_n 1, 1) := by decide +kernel
theorem dX0_init_6 : decode cX0_init 6 = .ok (.putfield 7, 3) := by decide +kernel
theorem dX0_init_9 : decode cX0_init 9 = .ok (.aload_n 0, 1) := by decide +kernel
theorem dX0_init_10 : decode cX0_init 10 = .ok (.iload_n 2, 1) := by decide +kernel
theorem dX0_init_11 : decode cX0_init 11 = .ok (.putfield 13, 3) := by decide +kernel
theorem dX0_init_14 : decode cX0_init 14 = .ok (.aload_n 0, 1) := by decide +kernel
theorem dX0_init_15 : decode cX0_init 15 = .ok (.iload_n 3, 1) := by decide +kernel
theorem dX0_init_16 : decode cX0_init 16 = .ok (.putfield 16, 3) := by decide +kernel
theorem dX0_init_19 : decode cX0_init 19 = .ok (.aload_n 0, 1) := by decide +kernel
theorem dX0_init_20 : decode cX0_init 20 = .ok (.iload 4, 2) := by decide +kernel
theorem dX0_init_22 : decode cX0_init 22 = .ok (.putfield 19, 3) := by decide +kernel
theorem dX0_init_25 : decode cX0_init 25 = .ok (.aload_n 0, 1) := by decide +kernel
theorem dX0_init_26 : decode cX0_init 26 = .ok (.iload 5, 2) := by decide +kernel
theorem dX0_init_28 : decode cX0_init 28 = .ok (.putfield 22, 3) := by decide +kernel
theorem dX0_init_31 : decode cX0_init 31 = .ok (.return_, 1) := by decide +kernel
theorem dX1_init_0 : decode cX1_init 0 = .ok (.aload_n 0, 1) := by decide +kernel
theorem dX1_init_1 : decode cX1_init 1 = .ok (.invokespecial 5, 3) := by decide +kernel
theorem dX1_init_4 : decode cX1_init 4 = .ok (.aload_n 0, 1) := by decide +kernel
theorem dX1_init_5 : decode cX1_init 5 = .ok (.bipush 10, 2) := by decide +kernel
theorem dX1_init_7 : decode cX1_init 7 = .ok (.bipush 13, 2) := by decide +kernel
theorem dX1_init_9 : decode cX1_init 9 = .ok (.multianewarray 11 2, 4) := by decide +kernel
theorem dX1_init_13 : decode cX1_init 13 = .ok (.putfield 13, 3) := by decide +kernel
theorem dX1_init_16 : decode cX1_init 16 = .ok (.aload_n 0, 1) := by decide +kernel
theorem dX1_init_17 : decode cX1_init 17 = .ok (.bipush 10, 2) := by decide +kernel
theorem dX1_init_19 : decode cX1_init 19 = .ok (.newarray .int, 2) := by decide +kernel
theorem dX1_init_21 : decode cX1_init 21 = .ok (.putfield 16, 3) := by decide +kernel
theorem dX1_init_24 : decode cX1_init 24 = .ok (.aload_n 0, 1) := by decide +kernel
theorem dX1_init_25 : decode cX1_init 25 = .ok (.bipush 10, 2) := by decide +kernel
theorem dX1_init_27 : decode cX1_init 27 = .ok (.newarray .int, 2) := by decide +kernel
theorem dX1_init_29 : decode cX1_init 29 = .ok (.putfield 20, 3) := by decide +kernel
theorem dX1_init_32 : decode cX1_init 32 = .ok (.aload_n 0, 1) := by decide +kernel
theorem dX1_init_33 : decode cX1_init 33 = .ok (.bipush 10, 2) := by decide +kernel
theorem dX1_init_35 : decode cX1_init 35 = .ok (.newarray .long, 2) := by decide +kernel
theorem dX1_init_37 : decode cX1_init 37 = .ok (.putfield 23, 3) := by decide +kernel
theorem dX1_init_40 : decode cX1_init 40 = .ok (.aload_n 0, 1) := by decide +kernel
theorem dX1_init_41 : decode cX1_init 41 = .ok (.bipush 10, 2) := by decide +kernel
theorem dX1_init_43 : decode cX1_init 43 = .ok (.newarray .int, 2) := by decide +kernel
theorem dX1_init_45 : decode cX1_init 45 = .ok (.putfield 27, 3) := by decide +kernel
theorem dX1_init_48 : decode cX1_init 48 = .ok (.return_, 1) := by decide +kernel
theorem dX1_clear_0 : decode cX1_clear 0 = .ok (.iconst 0, 1) := by decide +kernel
theorem dX1_clear_1 : decode cX1_clear 1 = .ok (.istore_n 1, 1) := by decide +kernel
theorem dX1_clear_2 : decode cX1_clear 2 = .ok (.iload_n 1, 1) := by decide +kernel
theorem dX1_clear_3 : decode cX1_clear 3 = .ok (.bipush 10, 2) := by decide +kernel
theorem dX1_clear_5 : decode cX1_clear 5 = .ok (.if_icmp .ge 21, 3) := by decide +kernel
theorem dX1_clear_8 : decode cX1_clear 8 = .ok (.aload_n 0, 1) := by decide +kernel
theorem dX1_clear_9 : decode cX1_clear 9 = .ok (.getfield 13, 3) := by decide +kernel
theorem dX1_clear_12 : decode cX1_clear 12 = .ok (.iload_n 1, 1) := by decide +kernel
theorem dX1_clear_13 : decode cX1_clear 13 = .ok (.aaload, 1) := by decide +kernel
theorem dX1_clear_14 : decode cX1_clear 14 = .ok (.ldc2_w 30, 3) := by decide +kernel
theorem dX1_clear_17 : decode cX1_clear 17 = .ok (.invokestatic 32, 3) := by decide +kernel
theorem dX1_clear_20 : decode cX1_clear 20 = .ok (.iinc 1 1, 3) := by decide +kernel
theorem dX1_clear_23 : decode cX1_clear 23 = .ok (.goto (-21), 3) := by decide +kernel
theorem dX1_clear_26 : decode cX1_clear 26 = .ok (.aload_n 0, 1) := by decide +kernel
theorem dX1_clear_27 : decode cX1_clear 27 = .ok (.getfield 16, 3) := by decide +kernel
theorem dX1_clear_30 : decode cX1_clear 30 = .ok (.iconst 0, 1) := by decide +kernel
theorem dX1_clear_31 : decode cX1_clear 31 = .ok (.invokestatic 38, 3) := by decide +kernel
theorem dX1_clear_34 : decode cX1_clear 34 = .ok (.aload_n 0, 1) := by decide +kernel
theorem dX1_clear_35 : decode cX1_clear 35 = .ok (.getfield 20, 3) := by decide +kernel
theorem dX1_clear_38 : decode cX1_clear 38 = .ok (.bipush 12, 2) := by decide +kernel
theorem dX1_clear_40 : decode cX1_clear 40 = .ok (.invokestatic 38, 3) := by decide +kernel
theorem dX1_clear_43 : decode cX1_clear 43 = .ok (.aload_n 0, 1) := by decide +kernel
theorem dX1_clear_44 : decode cX1_clear 44 = .ok (.iconst 0, 1) := by decide +kernel
theorem dX1_clear_45 : decode cX1_clear 45 = .ok (.putfield 41, 3) := by decide +kernel
theorem dX1_clear_48 : decode cX1_clear 48 = .ok (.aload_n 0, 1) := by decide +kernel
theorem dX1_clear_49 : decode cX1_clear 49 = .ok (.iconst 0, 1) := by decide +kernel
theorem dX1_clear_50 : decode cX1_clear 50 = .ok (.putfield 45, 3) := by decide +kernel
theorem dX1_clear_53 : decode cX1_clear 53 = .ok (.return_, 1) := by decide +kernel
theorem dX1_open_0 : decode cX1_open 0 = .ok (.iload_n 1, 1) := by decide +kernel
theorem dX1_open_1 : decode cX1_open 1 = .ok (.invokestatic 48, 3) := by decide +kernel
theorem dX1_open_4 : decode cX1_open 4 = .ok (.ifCond .eq 34, 3) := by decide +kernel
theorem dX1_open_7 : decode cX1_open 7 = .ok (.aload_n 0, 1) := by decide +kernel
theorem dX1_open_8 : decode cX1_open 8 = .ok (.dup, 1) := by decide +kernel
theorem dX1_open_9 : decode cX1_open 9 = .ok (.getfield 41, 3) := by decide +kernel
theorem dX1_open_12 : decode cX1_open 12 = .ok (.iconst 1, 1) := by decide +kernel
theorem dX1_open_13 : decode cX1_open 13 = .ok (.iload_n 1, 1) := by decide +kernel
theorem dX1_open_14 : decode cX1_open 14 = .ok (.ishl, 1) := by decide +kernel
theorem dX1_open_15 : decode cX1_open 15 = .ok (.ior, 1) := by decide +kernel
theorem dX1_open_16 : decode cX1_open 16 = .ok (.putfield 41, 3) := by decide +kernel
theorem dX1_open_19 : decode cX1_open 19 = .ok (.aload_n 0, 1) := by decide +kernel
theorem dX1_open_20 : decode cX1_open 20 = .ok (.getfield 13, 3) := by decide +kernel
theorem dX1_open_23 : decode cX1_open 23 = .ok (.iload_n 1, 1) := by decide +kernel
theorem dX1_open_24 : decode cX1_open 24 = .ok (.aaload, 1) := by decide +kernel
theorem dX1_open_25 : decode cX1_open 25 = .ok (.bipush 12, 2) := by decide +kernel
theorem dX1_open_27 : decode cX1_open 27 = .ok (.ldc2_w 52, 3) := by decide +kernel
theorem dX1_open_30 : decode cX1_open 30 = .ok (.iload_n 1, 1) := by decide +kernel
theorem dX1_open_31 : decode cX1_open 31 = .ok (.bipush 12, 2) := by decide +kernel
theorem dX1_open_33 : decode cX1_open 33 = .ok (.invokestatic 54, 3) := by decide +kernel
theorem dX1_open_36 : decode cX1_open 36 = .ok (.ladd, 1) := by decide +kernel
theorem dX1_open_37 : decode cX1_open 37 = .ok (.lastore, 1) := by decide +kernel
theorem dX1_open_38 : decode cX1_open 38 = .ok (.return_, 1) := by decide +kernel
theorem dX1_offer_0 : decode cX1_offer 0 = .ok (.iload_n 1, 1) := by decide +kernel
theorem dX1_offer_1 : decode cX1_offer 1 = .ok (.invokestatic 48, 3) := by decide +kernel
theorem dX1_offer_4 : decode cX1_offer 4 = .ok (.ifCond .eq 44, 3) := by decide +kernel
theorem dX1_offer_7 : decode cX1_offer 7 = .ok (.iload_n 2, 1) := by decide +kernel
theorem dX1_offer_8 : decode cX1_offer 8 = .ok (.ifCond .lt 40, 3) := by decide +kernel
theorem dX1_offer_11 : decode cX1_offer 11 = .ok (.iload_n 2, 1) := by decide +kernel
theorem dX1_offer_12 : decode cX1_offer 12 = .ok (.bipush 12, 2) := by decide +kernel
theorem dX1_offer_14 : decode cX1_offer 14 = .ok (.if_icmp .ge 34, 3) := by decide +kernel
theorem dX1_offer_17 : decode cX1_offer 17 = .ok (.aload_n 0, 1) := by decide +kernel
theorem dX1_offer_18 : decode cX1_offer 18 = .ok (.getfield 13, 3) := by decide +kernel
theorem dX1_offer_21 : decode cX1_offer 21 = .ok (.iload_n 1, 1) := by decide +kernel
theorem dX1_offer_22 : decode cX1_offer 22 = .ok (.aaload, 1) := by decide +kernel
theorem dX1_offer_23 : decode cX1_offer 23 = .ok (.iload_n 2, 1) := by decide +kernel
theorem dX1_offer_24 : decode cX1_offer 24 = .ok (.iload_n 3, 1) := by decide +kernel
theorem dX1_offer_25 : decode cX1_offer 25 = .ok (.i2l, 1) := by decide +kernel
theorem dX1_offer_26 : decode cX1_offer 26 = .ok (.bipush 40, 2) := by decide +kernel
theorem dX1_offer_28 : decode cX1_offer 28 = .ok (.lshl, 1) := by decide +kernel
theorem dX1_offer_29 : decode cX1_offer 29 = .ok (.iload_n 1, 1) := by decide +kernel
theorem dX1_offer_30 : decode cX1_offer 30 = .ok (.iload_n 2, 1) := by decide +kernel
theorem dX1_offer_31 : decode cX1_offer 31 = .ok (.invokestatic 54, 3) := by decide +kernel
theorem dX1_offer_34 : decode cX1_offer 34 = .ok (.ladd, 1) := by decide +kernel
theorem dX1_offer_35 : decode cX1_offer 35 = .ok (.lastore, 1) := by decide +kernel
theorem dX1_offer_36 : decode cX1_offer 36 = .ok (.aload_n 0, 1) := by decide +kernel
theorem dX1_offer_37 : decode cX1_offer 37 = .ok (.getfield 16, 3) := by decide +kernel
theorem dX1_offer_40 : decode cX1_offer 40 = .ok (.iload_n 1, 1) := by decide +kernel
theorem dX1_offer_41 : decode cX1_offer 41 = .ok (.dup2, 1) := by decide +kernel
theorem dX1_offer_42 : decode cX1_offer 42 = .ok (.iaload, 1) := by decide +kernel
theorem dX1_offer_43 : decode cX1_offer 43 = .ok (.iconst 1, 1) := by decide +kernel
theorem dX1_offer_44 : decode cX1_offer 44 = .ok (.iload_n 2, 1) := by decide +kernel
theorem dX1_offer_45 : decode cX1_offer 45 = .ok (.ishl, 1) := by decide +kernel
theorem dX1_offer_46 : decode cX1_offer 46 = .ok (.ior, 1) := by decide +kernel
theorem dX1_offer_47 : decode cX1_offer 47 = .ok (.iastore, 1) := by decide +kernel
theorem dX1_offer_48 : decode cX1_offer 48 = .ok (.return_, 1) := by decide +kernel
theorem dX1_solve_0 : decode cX1_solve 0 = .ok (.iconst 0, 1) := by decide +kernel
theorem dX1_solve_1 : decode cX1_solve 1 = .ok (.istore_n 1, 1) := by decide +kernel
theorem dX1_solve_2 : decode cX1_solve 2 = .ok (.iload_n 1, 1) := by decide +kernel
theorem dX1_solve_3 : decode cX1_solve 3 = .ok (.bipush 10, 2) := by decide +kernel
theorem dX1_solve_5 : decode cX1_solve 5 = .ok (.if_icmp .ge 25, 3) := by decide +kernel
theorem dX1_solve_8 : decode cX1_solve 8 = .ok (.aload_n 0, 1) := by decide +kernel
theorem dX1_solve_9 : decode cX1_solve 9 = .ok (.getfield 41, 3) := by decide +kernel
theorem dX1_solve_12 : decode cX1_solve 12 = .ok (.iload_n 1, 1) := by decide +kernel
theorem dX1_solve_13 : decode cX1_solve 13 = .ok (.invokestatic 58, 3) := by decide +kernel
theorem dX1_solve_16 : decode cX1_solve 16 = .ok (.ifCond .eq 8, 3) := by decide +kernel
theorem dX1_solve_19 : decode cX1_solve 19 = .ok (.aload_n 0, 1) := by decide +kernel
theorem dX1_solve_20 : decode cX1_solve 20 = .ok (.iload_n 1, 1) := by decide +kernel
theorem dX1_solve_21 : decode cX1_solve 21 = .ok (.invokevirtual 62, 3) := by decide +kernel
theorem dX1_solve_24 : decode cX1_solve 24 = .ok (.iinc 1 1, 3) := by decide +kernel
theorem dX1_solve_27 : decode cX1_solve 27 = .ok (.goto (-25), 3) := by decide +kernel
theorem dX1_solve_30 : decode cX1_solve 30 = .ok (.return_, 1) := by decide +kernel
theorem dX1_teacherFor_0 : decode cX1_teacherFor 0 = .ok (.iload_n 1, 1) := by decide +kernel
theorem dX1_teacherFor_1 : decode cX1_teacherFor 1 = .ok (.invokestatic 48, 3) := by decide +kernel
theorem dX1_teacherFor_4 : decode cX1_teacherFor 4 = .ok (.ifCond .eq 23, 3) := by decide +kernel
theorem dX1_teacherFor_7 : decode cX1_teacherFor 7 = .ok (.aload_n 0, 1) := by decide +kernel
theorem dX1_teacherFor_8 : decode cX1_teacherFor 8 = .ok (.getfield 20, 3) := by decide +kernel
theorem dX1_teacherFor_11 : decode cX1_teacherFor 11 = .ok (.iload_n 1, 1) := by decide +kernel
theorem dX1_teacherFor_12 : decode cX1_teacherFor 12 = .ok (.iaload, 1) := by decide +kernel
theorem dX1_teacherFor_13 : decode cX1_teacherFor 13 = .ok (.bipush 12, 2) := by decide +kernel
theorem dX1_teacherFor_15 : decode cX1_teacherFor 15 = .ok (.if_icmp .eq 12, 3) := by decide +kernel
theorem dX1_teacherFor_18 : decode cX1_teacherFor 18 = .ok (.aload_n 0, 1) := by decide +kernel
theorem dX1_teacherFor_19 : decode cX1_teacherFor 19 = .ok (.getfield 20, 3) := by decide +kernel
theorem dX1_teacherFor_22 : decode cX1_teacherFor 22 = .ok (.iload_n 1, 1) := by decide +kernel
theorem dX1_teacherFor_23 : decode cX1_teacherFor 23 = .ok (.iaload, 1) := by decide +kernel
theorem dX1_teacherFor_24 : decode cX1_teacherFor 24 = .ok (.goto 4, 3) := by decide +kernel
theorem dX1_teacherFor_27 : decode cX1_teacherFor 27 = .ok (.iconst (-1), 1) := by decide +kernel
theorem dX1_teacherFor_28 : decode cX1_teacherFor 28 = .ok (.ireturn, 1) := by decide +kernel
theorem dX1_gapFor_0 : decode cX1_gapFor 0 = .ok (.iconst 0, 1) := by decide +kernel
theorem dX1_gapFor_1 : decode cX1_gapFor 1 = .ok (.istore_n 2, 1) := by decide +kernel
theorem dX1_gapFor_2 : decode cX1_gapFor 2 = .ok (.iload_n 2, 1) := by decide +kernel
theorem dX1_gapFor_3 : decode cX1_gapFor 3 = .ok (.bipush 10, 2) := by decide +kernel
theorem dX1_gapFor_5 : decode cX1_gapFor 5 = .ok (.if_icmp .ge 32, 3) := by decide +kernel
theorem dX1_gapFor_8 : decode cX1_gapFor 8 = .ok (.aload_n 0, 1) := by decide +kernel
theorem dX1_gapFor_9 : decode cX1_gapFor 9 = .ok (.getfield 20, 3) := by decide +kernel
theorem dX1_gapFor_12 : decode cX1_gapFor 12 = .ok (.iload_n 2, 1) := by decide +kernel
theorem dX1_gapFor_13 : decode cX1_gapFor 13 = .ok (.iaload, 1) := by decide +kernel
theorem dX1_gapFor_14 : decode cX1_gapFor 14 = .ok (.bipush 12, 2) := by decide +kernel
theorem dX1_gapFor_16 : decode cX1_gapFor 16 = .ok (.if_icmp .eq 15, 3) := by decide +kernel
theorem dX1_gapFor_19 : decode cX1_gapFor 19 = .ok (.aload_n 0, 1) := by decide +kernel
theorem dX1_gapFor_20 : decode cX1_gapFor 20 = .ok (.getfield 20, 3) := by decide +kernel
theorem dX1_gapFor_23 : decode cX1_gapFor 23 = .ok (.iload_n 2, 1) := by decide +kernel
theorem dX1_gapFor_24 : decode cX1_gapFor 24 = .ok (.iaload, 1) := by decide +kernel
theorem dX1_gapFor_25 : decode cX1_gapFor 25 = .ok (.iload_n 1, 1) := by decide +kernel
theorem dX1_gapFor_26 : decode cX1_gapFor 26 = .ok (.if_icmp .ne 5, 3) := by decide +kernel
theorem dX1_gapFor_29 : decode cX1_gapFor 29 = .ok (.iload_n 2, 1) := by decide +kernel
theorem dX1_gapFor_30 : decode cX1_gapFor 30 = .ok (.ireturn, 1) := by decide +kernel
theorem dX1_gapFor_31 : decode cX1_gapFor 31 = .ok (.iinc 2 1, 3) := by decide +kernel
theorem dX1_gapFor_34 : decode cX1_gapFor 34 = .ok (.goto (-32), 3) := by decide +kernel
theorem dX1_gapFor_37 : decode cX1_gapFor 37 = .ok (.iconst (-1), 1) := by decide +kernel
theorem dX1_gapFor_38 : decode cX1_gapFor 38 = .ok (.ireturn, 1) := by decide +kernel
theorem dX1_filled_0 : decode cX1_filled 0 = .ok (.iconst 0, 1) := by decide +kernel
theorem dX1_filled_1 : decode cX1_filled 1 = .ok (.istore_n 1, 1) := by decide +kernel
theorem dX1_filled_2 : decode cX1_filled 2 = .ok (.iconst 0, 1) := by decide +kernel
theorem dX1_filled_3 : decode cX1_filled 3 = .ok (.istore_n 2, 1) := by decide +kernel
theorem dX1_filled_4 : decode cX1_filled 4 = .ok (.iload_n 2, 1) := by decide +kernel
theorem dX1_filled_5 : decode cX1_filled 5 = .ok (.bipush 10, 2) := by decide +kernel
theorem dX1_filled_7 : decode cX1_filled 7 = .ok (.if_icmp .ge 23, 3) := by decide +kernel
theorem dX1_filled_10 : decode cX1_filled 10 = .ok (.aload_n 0, 1) := by decide +kernel
theorem dX1_filled_11 : decode cX1_filled 11 = .ok (.getfield 20, 3) := by decide +kernel
theorem dX1_filled_14 : decode cX1_filled 14 = .ok (.iload_n 2, 1) := by decide +kernel
theorem dX1_filled_15 : decode cX1_filled 15 = .ok (.iaload, 1) := by decide +kernel
theorem dX1_filled_16 : decode cX1_filled 16 = .ok (.bipush 12, 2) := by decide +kernel
theorem dX1_filled_18 : decode cX1_filled 18 = .ok (.if_icmp .eq 6, 3) := by decide +kernel
theorem dX1_filled_21 : decode cX1_filled 21 = .ok (.iinc 1 1, 3) := by decide +kernel
theorem dX1_filled_24 : decode cX1_filled 24 = .ok (.iinc 2 1, 3) := by decide +kernel
theorem dX1_filled_27 : decode cX1_filled 27 = .ok (.goto (-23), 3) := by decide +kernel
theorem dX1_filled_30 : decode cX1_filled 30 = .ok (.iload_n 1, 1) := by decide +kernel
theorem dX1_filled_31 : decode cX1_filled 31 = .ok (.ireturn, 1) := by decide +kernel
theorem dX1_costInAll_0 : decode cX1_costInAll 0 = .ok (.iconst 0, 1) := by decide +kernel
theorem dX1_costInAll_1 : decode cX1_costInAll 1 = .ok (.istore_n 1, 1) := by decide +kernel
theorem dX1_costInAll_2 : decode cX1_costInAll 2 = .ok (.iconst 0, 1) := by decide +kernel
theorem dX1_costInAll_3 : decode cX1_costInAll 3 = .ok (.istore_n 2, 1) := by decide +kernel
theorem dX1_costInAll_4 : decode cX1_costInAll 4 = .ok (.iload_n 2, 1) := by decide +kernel
theorem dX1_costInAll_5 : decode cX1_costInAll 5 = .ok (.bipush 10, 2) := by decide +kernel
theorem dX1_costInAll_7 : decode cX1_costInAll 7 = .ok (.if_icmp .ge 38, 3) := by decide +kernel
theorem dX1_costInAll_10 : decode cX1_costInAll 10 = .ok (.aload_n 0, 1) := by decide +kernel
theorem dX1_costInAll_11 : decode cX1_costInAll 11 = .ok (.getfield 20, 3) := by decide +kernel
theorem dX1_costInAll_14 : decode cX1_costInAll 14 = .ok (.iload_n 2, 1) := by decide +kernel
theorem dX1_costInAll_15 : decode cX1_costInAll 15 = .ok (.iaload, 1) := by decide +kernel
theorem dX1_costInAll_16 : decode cX1_costInAll 16 = .ok (.bipush 12, 2) := by decide +kernel
theorem dX1_costInAll_18 : decode cX1_costInAll 18 = .ok (.if_icmp .eq 21, 3) := by decide +kernel
theorem dX1_costInAll_21 : decode cX1_costInAll 21 = .ok (.iload_n 1, 1) := by decide +kernel
theorem dX1_costInAll_22 : decode cX1_costInAll 22 = .ok (.aload_n 0, 1) := by decide +kernel
theorem dX1_costInAll_23 : decode cX1_costInAll 23 = .ok (.iload_n 2, 1) := by decide +kernel
theorem dX1_costInAll_24 : decode cX1_costInAll 24 = .ok (.aload_n 0, 1) := by decide +kernel
theorem dX1_costInAll_25 : decode cX1_costInAll 25 = .ok (.getfield 20, 3) := by decide +kernel
theorem dX1_costInAll_28 : decode cX1_costInAll 28 = .ok (.iload_n 2, 1) := by decide +kernel
theorem dX1_costInAll_29 : decode cX1_costInAll 29 = .ok (.iaload, 1) := by decide +kernel
theorem dX1_costInAll_30 : decode cX1_costInAll 30 = .ok (.invokevirtual 66, 3) := by decide +kernel
theorem dX1_costInAll_33 : decode cX1_costInAll 33 = .ok (.bipush 40, 2) := by decide +kernel
theorem dX1_costInAll_35 : decode cX1_costInAll 35 = .ok (.lshr, 1) := by decide +kernel
theorem dX1_costInAll_36 : decode cX1_costInAll 36 = .ok (.l2i, 1) := by decide +kernel
theorem dX1_costInAll_37 : decode cX1_costInAll 37 = .ok (.iadd, 1) := by decide +kernel
theorem dX1_costInAll_38 : decode cX1_costInAll 38 = .ok (.istore_n 1, 1) := by decide +kernel
theorem dX1_costInAll_39 : decode cX1_costInAll 39 = .ok (.iinc 2 1, 3) := by decide +kernel
theorem dX1_costInAll_42 : decode cX1_costInAll 42 = .ok (.goto (-38), 3) := by decide +kernel
theorem dX1_costInAll_45 : decode cX1_costInAll 45 = .ok (.iload_n 1, 1) := by decide +kernel
theorem dX1_costInAll_46 : decode cX1_costInAll 46 = .ok (.ireturn, 1) := by decide +kernel
theorem dX1_fewestUnfillable_0 : decode cX1_fewestUnfillable 0 = .ok (.iconst 0, 1) := by decide +kernel
theorem dX1_fewestUnfillable_1 : decode cX1_fewestUnfillable 1 = .ok (.istore_n 1, 1) := by decide +kernel
theorem dX1_fewestUnfillable_2 : decode cX1_fewestUnfillable 2 = .ok (.bipush 11, 2) := by decide +kernel
theorem dX1_fewestUnfillable_4 : decode cX1_fewestUnfillable 4 = .ok (.istore_n 2, 1) := by decide +kernel
theorem dX1_fewestUnfillable_5 : decode cX1_fewestUnfillable 5 = .ok (.iconst 1, 1) := by decide +kernel
theorem dX1_fewestUnfillable_6 : decode cX1_fewestUnfillable 6 = .ok (.istore_n 3, 1) := by decide +kernel
theorem dX1_fewestUnfillable_7 : decode cX1_fewestUnfillable 7 = .ok (.iload_n 3, 1) := by decide +kernel
theorem dX1_fewestUnfillable_8 : decode cX1_fewestUnfillable 8 = .ok (.aload_n 0, 1) := by decide +kernel
theorem dX1_fewestUnfillable_9 : decode cX1_fewestUnfillable 9 = .ok (.getfield 41, 3) := by decide +kernel
theorem dX1_fewestUnfillable_12 : decode cX1_fewestUnfillable 12 = .ok (.if_icmp .gt 52, 3) := by decide +kernel
theorem dX1_fewestUnfillable_15 : decode cX1_fewestUnfillable 15 = .ok (.iload_n 3, 1) := by decide +kernel
theorem dX1_fewestUnfillable_16 : decode cX1_fewestUnfillable 16 = .ok (.aload_n 0, 1) := by decide +kernel
theorem dX1_fewestUnfillable_17 : decode cX1_fewestUnfillable 17 = .ok (.getfield 41, 3) := by decide +kernel
theorem dX1_fewestUnfillable_20 : decode cX1_fewestUnfillable 20 = .ok (.iand, 1) := by decide +kernel
theorem dX1_fewestUnfillable_21 : decode cX1_fewestUnfillable 21 = .ok (.iload_n 3, 1) := by decide +kernel
theorem dX1_fewestUnfillable_22 : decode cX1_fewestUnfillable 22 = .ok (.if_icmp .eq 6, 3) := by decide +kernel
theorem dX1_fewestUnfillable_25 : decode cX1_fewestUnfillable 25 = .ok (.goto 33, 3) := by decide +kernel
theorem dX1_fewestUnfillable_28 : decode cX1_fewestUnfillable 28 = .ok (.iload_n 3, 1) := by decide +kernel
theorem dX1_fewestUnfillable_29 : decode cX1_fewestUnfillable 29 = .ok (.invokestatic 69, 3) := by decide +kernel
theorem dX1_fewestUnfillable_32 : decode cX1_fewestUnfillable 32 = .ok (.istore 4, 2) := by decide +kernel
theorem dX1_fewestUnfillable_34 : decode cX1_fewestUnfillable 34 = .ok (.iload 4, 2) := by decide +kernel
theorem dX1_fewestUnfillable_36 : decode cX1_fewestUnfillable 36 = .ok (.iload_n 2, 1) := by decide +kernel
theorem dX1_fewestUnfillable_37 : decode cX1_fewestUnfillable 37 = .ok (.if_icmp .ge 21, 3) := by decide +kernel
theorem dX1_fewestUnfillable_40 : decode cX1_fewestUnfillable 40 = .ok (.aload_n 0, 1) := by decide +kernel
theorem dX1_fewestUnfillable_41 : decode cX1_fewestUnfillable 41 = .ok (.iload_n 3, 1) := by decide +kernel
theorem dX1_fewestUnfillable_42 : decode cX1_fewestUnfillable 42 = .ok (.invokevirtual 75, 3) := by decide +kernel
theorem dX1_fewestUnfillable_45 : decode cX1_fewestUnfillable 45 = .ok (.invokestatic 69, 3) := by decide +kernel
theorem dX1_fewestUnfillable_48 : decode cX1_fewestUnfillable 48 = .ok (.iload 4, 2) := by decide +kernel
theorem dX1_fewestUnfillable_50 : decode cX1_fewestUnfillable 50 = .ok (.if_icmp .ge 8, 3) := by decide +kernel
theorem dX1_fewestUnfillable_53 : decode cX1_fewestUnfillable 53 = .ok (.iload_n 3, 1) := by decide +kernel
theorem dX1_fewestUnfillable_54 : decode cX1_fewestUnfillable 54 = .ok (.istore_n 1, 1) := by decide +kernel
theorem dX1_fewestUnfillable_55 : decode cX1_fewestUnfillable 55 = .ok (.iload 4, 2) := by decide +kernel
theorem dX1_fewestUnfillable_57 : decode cX1_fewestUnfillable 57 = .ok (.istore_n 2, 1) := by decide +kernel
theorem dX1_fewestUnfillable_58 : decode cX1_fewestUnfillable 58 = .ok (.iinc 3 1, 3) := by decide +kernel
theorem dX1_fewestUnfillable_61 : decode cX1_fewestUnfillable 61 = .ok (.goto (-54), 3) := by decide +kernel
theorem dX1_fewestUnfillable_64 : decode cX1_fewestUnfillable 64 = .ok (.iload_n 1, 1) := by decide +kernel
theorem dX1_fewestUnfillable_65 : decode cX1_fewestUnfillable 65 = .ok (.ireturn, 1) := by decide +kernel
theorem dX1_takersOf_0 : decode cX1_takersOf 0 = .ok (.iconst 0, 1) := by decide +kernel
theorem dX1_takersOf_1 : decode cX1_takersOf 1 = .ok (.istore_n 2, 1) := by decide +kernel
theorem dX1_takersOf_2 : decode cX1_takersOf 2 = .ok (.iconst 0, 1) := by decide +kernel
theorem dX1_takersOf_3 : decode cX1_takersOf 3 = .ok (.istore_n 3, 1) := by decide +kernel
theorem dX1_takersOf_4 : decode cX1_takersOf 4 = .ok (.iload_n 3, 1) := by decide +kernel
theorem dX1_takersOf_5 : decode cX1_takersOf 5 = .ok (.bipush 10, 2) := by decide +kernel
theorem dX1_takersOf_7 : decode cX1_takersOf 7 = .ok (.if_icmp .ge 26, 3) := by decide +kernel
theorem dX1_takersOf_10 : decode cX1_takersOf 10 = .ok (.iload_n 1, 1) := by decide +kernel
theorem dX1_takersOf_11 : decode cX1_takersOf 11 = .ok (.iload_n 3, 1) := by decide +kernel
theorem dX1_takersOf_12 : decode cX1_takersOf 12 = .ok (.invokestatic 58, 3) := by decide +kernel
theorem dX1_takersOf_15 : decode cX1_takersOf 15 = .ok (.ifCond .eq 12, 3) := by decide +kernel
theorem dX1_takersOf_18 : decode cX1_takersOf 18 = .ok (.iload_n 2, 1) := by decide +kernel
theorem dX1_takersOf_19 : decode cX1_takersOf 19 = .ok (.aload_n 0, 1) := by decide +kernel
theorem dX1_takersOf_20 : decode cX1_takersOf 20 = .ok (.getfield 16, 3) := by decide +kernel
theorem dX1_takersOf_23 : decode cX1_takersOf 23 = .ok (.iload_n 3, 1) := by decide +kernel
theorem dX1_takersOf_24 : decode cX1_takersOf 24 = .ok (.iaload, 1) := by decide +kernel
theorem dX1_takersOf_25 : decode cX1_takersOf 25 = .ok (.ior, 1) := by decide +kernel
theorem dX1_takersOf_26 : decode cX1_takersOf 26 = .ok (.istore_n 2, 1) := by decide +kernel
theorem dX1_takersOf_27 : decode cX1_takersOf 27 = .ok (.iinc 3 1, 3) := by decide +kernel
theorem dX1_takersOf_30 : decode cX1_takersOf 30 = .ok (.goto (-26), 3) := by decide +kernel
theorem dX1_takersOf_33 : decode cX1_takersOf 33 = .ok (.iload_n 2, 1) := by decide +kernel
theorem dX1_takersOf_34 : decode cX1_takersOf 34 = .ok (.ireturn, 1) := by decide +kernel
theorem dX1_isGap_0 : decode cX1_isGap 0 = .ok (.iload_n 0, 1) := by decide +kernel
theorem dX1_isGap_1 : decode cX1_isGap 1 = .ok (.ifCond .lt 13, 3) := by decide +kernel
theorem dX1_isGap_4 : decode cX1_isGap 4 = .ok (.iload_n 0, 1) := by decide +kernel
theorem dX1_isGap_5 : decode cX1_isGap 5 = .ok (.bipush 10, 2) := by decide +kernel
theorem dX1_isGap_7 : decode cX1_isGap 7 = .ok (.if_icmp .ge 7, 3) := by decide +kernel
theorem dX1_isGap_10 : decode cX1_isGap 10 = .ok (.iconst 1, 1) := by decide +kernel
theorem dX1_isGap_11 : decode cX1_isGap 11 = .ok (.goto 4, 3) := by decide +kernel
theorem dX1_isGap_14 : decode cX1_isGap 14 = .ok (.iconst 0, 1) := by decide +kernel
theorem dX1_isGap_15 : decode cX1_isGap 15 = .ok (.ireturn, 1) := by decide +kernel
theorem dX1_digit_0 : decode cX1_digit 0 = .ok (.iload_n 1, 1) := by decide +kernel
theorem dX1_digit_1 : decode cX1_digit 1 = .ok (.i2l, 1) := by decide +kernel
theorem dX1_digit_2 : decode cX1_digit 2 = .ok (.iconst 4, 1) := by decide +kernel
theorem dX1_digit_3 : decode cX1_digit 3 = .ok (.bipush 9, 2) := by decide +kernel
theorem dX1_digit_5 : decode cX1_digit 5 = .ok (.iload_n 0, 1) := by decide +kernel
theorem dX1_digit_6 : decode cX1_digit 6 = .ok (.isub, 1) := by decide +kernel
theorem dX1_digit_7 : decode cX1_digit 7 = .ok (.imul, 1) := by decide +kernel
theorem dX1_digit_8 : decode cX1_digit 8 = .ok (.lshl, 1) := by decide +kernel
theorem dX1_digit_9 : decode cX1_digit 9 = .ok (.lreturn, 1) := by decide +kernel
theorem dX1_weightOf_0 : decode cX1_weightOf 0 = .ok (.iload_n 1, 1) := by decide +kernel
theorem dX1_weightOf_1 : decode cX1_weightOf 1 = .ok (.ifCond .lt 30, 3) := by decide +kernel
theorem dX1_weightOf_4 : decode cX1_weightOf 4 = .ok (.iload_n 1, 1) := by decide +kernel
theorem dX1_weightOf_5 : decode cX1_weightOf 5 = .ok (.bipush 10, 2) := by decide +kernel
theorem dX1_weightOf_7 : decode cX1_weightOf 7 = .ok (.if_icmp .ge 24, 3) := by decide +kernel
theorem dX1_weightOf_10 : decode cX1_weightOf 10 = .ok (.iload_n 2, 1) := by decide +kernel
theorem dX1_weightOf_11 : decode cX1_weightOf 11 = .ok (.ifCond .lt 20, 3) := by decide +kernel
theorem dX1_weightOf_14 : decode cX1_weightOf 14 = .ok (.iload_n 2, 1) := by decide +kernel
theorem dX1_weightOf_15 : decode cX1_weightOf 15 = .ok (.bipush 12, 2) := by decide +kernel
theorem dX1_weightOf_17 : decode cX1_weightOf 17 = .ok (.if_icmp .gt 14, 3) := by decide +kernel
theorem dX1_weightOf_20 : decode cX1_weightOf 20 = .ok (.aload_n 0, 1) := by decide +kernel
theorem dX1_weightOf_21 : decode cX1_weightOf 21 = .ok (.getfield 13, 3) := by decide +kernel
theorem dX1_weightOf_24 : decode cX1_weightOf 24 = .ok (.iload_n 1, 1) := by decide +kernel
theorem dX1_weightOf_25 : decode cX1_weightOf 25 = .ok (.aaload, 1) := by decide +kernel
theorem dX1_weightOf_26 : decode cX1_weightOf 26 = .ok (.iload_n 2, 1) := by decide +kernel
theorem dX1_weightOf_27 : decode cX1_weightOf 27 = .ok (.laload, 1) := by decide +kernel
theorem dX1_weightOf_28 : decode cX1_weightOf 28 = .ok (.goto 6, 3) := by decide +kernel
theorem dX1_weightOf_31 : decode cX1_weightOf 31 = .ok (.ldc2_w 30, 3) := by decide +kernel
theorem dX1_weightOf_34 : decode cX1_weightOf 34 = .ok (.lreturn, 1) := by decide +kernel
theorem dX1_bringIn_0 : decode cX1_bringIn 0 = .ok (.aload_n 0, 1) := by decide +kernel
theorem dX1_bringIn_1 : decode cX1_bringIn 1 = .ok (.iload_n 1, 1) := by decide +kernel
theorem dX1_bringIn_2 : decode cX1_bringIn 2 = .ok (.invokevirtual 78, 3) := by decide +kernel
theorem dX1_bringIn_5 : decode cX1_bringIn 5 = .ok (.iload_n 1, 1) := by decide +kernel
theorem dX1_bringIn_6 : decode cX1_bringIn 6 = .ok (.istore_n 2, 1) := by decide +kernel
theorem dX1_bringIn_7 : decode cX1_bringIn 7 = .ok (.bipush 12, 2) := by decide +kernel
theorem dX1_bringIn_9 : decode cX1_bringIn 9 = .ok (.istore_n 3, 1) := by decide +kernel
theorem dX1_bringIn_10 : decode cX1_bringIn 10 = .ok (.ldc2_w 81, 3) := by decide +kernel
theorem dX1_bringIn_13 : decode cX1_bringIn 13 = .ok (.lstore 4, 2) := by decide +kernel
theorem dX1_bringIn_15 : decode cX1_bringIn 15 = .ok (.iconst 0, 1) := by decide +kernel
theorem dX1_bringIn_16 : decode cX1_bringIn 16 = .ok (.istore 6, 2) := by decide +kernel
theorem dX1_bringIn_18 : decode cX1_bringIn 18 = .ok (.iload 6, 2) := by decide +kernel
theorem dX1_bringIn_20 : decode cX1_bringIn 20 = .ok (.iload_n 1, 1) := by decide +kernel
theorem dX1_bringIn_21 : decode cX1_bringIn 21 = .ok (.if_icmp .gt 87, 3) := by decide +kernel
theorem dX1_bringIn_24 : decode cX1_bringIn 24 = .ok (.iload 6, 2) := by decide +kernel
theorem dX1_bringIn_26 : decode cX1_bringIn 26 = .ok (.bipush 10, 2) := by decide +kernel
theorem dX1_bringIn_28 : decode cX1_bringIn 28 = .ok (.if_icmp .ge 80, 3) := by decide +kernel
theorem dX1_bringIn_31 : decode cX1_bringIn 31 = .ok (.aload_n 0, 1) := by decide +kernel
theorem dX1_bringIn_32 : decode cX1_bringIn 32 = .ok (.getfield 23, 3) := by decide +kernel
theorem dX1_bringIn_35 : decode cX1_bringIn 35 = .ok (.iload 6, 2) := by decide +kernel
theorem dX1_bringIn_37 : decode cX1_bringIn 37 = .ok (.laload, 1) := by decide +kernel
theorem dX1_bringIn_38 : decode cX1_bringIn 38 = .ok (.ldc2_w 81, 3) := by decide +kernel
theorem dX1_bringIn_41 : decode cX1_bringIn 41 = .ok (.lcmp, 1) := by decide +kernel
theorem dX1_bringIn_42 : decode cX1_bringIn 42 = .ok (.ifCond .ne 6, 3) := by decide +kernel
theorem dX1_bringIn_45 : decode cX1_bringIn 45 = .ok (.goto 57, 3) := by decide +kernel
theorem dX1_bringIn_48 : decode cX1_bringIn 48 = .ok (.aload_n 0, 1) := by decide +kernel
theorem dX1_bringIn_49 : decode cX1_bringIn 49 = .ok (.iload 6, 2) := by decide +kernel
theorem dX1_bringIn_51 : decode cX1_bringIn 51 = .ok (.invokevirtual 83, 3) := by decide +kernel
theorem dX1_bringIn_54 : decode cX1_bringIn 54 = .ok (.istore 7, 2) := by decide +kernel
theorem dX1_bringIn_56 : decode cX1_bringIn 56 = .ok (.aload_n 0, 1) := by decide +kernel
theorem dX1_bringIn_57 : decode cX1_bringIn 57 = .ok (.getfield 23, 3) := by decide +kernel
theorem dX1_bringIn_60 : decode cX1_bringIn 60 = .ok (.iload 6, 2) := by decide +kernel
theorem dX1_bringIn_62 : decode cX1_bringIn 62 = .ok (.laload, 1) := by decide +kernel
theorem dX1_bringIn_63 : decode cX1_bringIn 63 = .ok (.aload_n 0, 1) := by decide +kernel
theorem dX1_bringIn_64 : decode cX1_bringIn 64 = .ok (.iload 6, 2) := by decide +kernel
theorem dX1_bringIn_66 : decode cX1_bringIn 66 = .ok (.iload 7, 2) := by decide +kernel
theorem dX1_bringIn_68 : decode cX1_bringIn 68 = .ok (.invokevirtual 66, 3) := by decide +kernel
theorem dX1_bringIn_71 : decode cX1_bringIn 71 = .ok (.ladd, 1) := by decide +kernel
theorem dX1_bringIn_72 : decode cX1_bringIn 72 = .ok (.lload 4, 2) := by decide +kernel
theorem dX1_bringIn_74 : decode cX1_bringIn 74 = .ok (.lcmp, 1) := by decide +kernel
theorem dX1_bringIn_75 : decode cX1_bringIn 75 = .ok (.ifCond .ge 27, 3) := by decide +kernel
theorem dX1_bringIn_78 : decode cX1_bringIn 78 = .ok (.aload_n 0, 1) := by decide +kernel
theorem dX1_bringIn_79 : decode cX1_bringIn 79 = .ok (.getfield 23, 3) := by decide +kernel
theorem dX1_bringIn_82 : decode cX1_bringIn 82 = .ok (.iload 6, 2) := by decide +kernel
theorem dX1_bringIn_84 : decode cX1_bringIn 84 = .ok (.laload, 1) := by decide +kernel
theorem dX1_bringIn_85 : decode cX1_bringIn 85 = .ok (.aload_n 0, 1) := by decide +kernel
theorem dX1_bringIn_86 : decode cX1_bringIn 86 = .ok (.iload 6, 2) := by decide +kernel
theorem dX1_bringIn_88 : decode cX1_bringIn 88 = .ok (.iload 7, 2) := by decide +kernel
theorem dX1_bringIn_90 : decode cX1_bringIn 90 = .ok (.invokevirtual 66, 3) := by decide +kernel
theorem dX1_bringIn_93 : decode cX1_bringIn 93 = .ok (.ladd, 1) := by decide +kernel
theorem dX1_bringIn_94 : decode cX1_bringIn 94 = .ok (.lstore 4, 2) := by decide +kernel
theorem dX1_bringIn_96 : decode cX1_bringIn 96 = .ok (.iload 6, 2) := by decide +kernel
theorem dX1_bringIn_98 : decode cX1_bringIn 98 = .ok (.istore_n 2, 1) := by decide +kernel
theorem dX1_bringIn_99 : decode cX1_bringIn 99 = .ok (.iload 7, 2) := by decide +kernel
theorem dX1_bringIn_101 : decode cX1_bringIn 101 = .ok (.istore_n 3, 1) := by decide +kernel
theorem dX1_bringIn_102 : decode cX1_bringIn 102 = .ok (.iinc 6 1, 3) := by decide +kernel
theorem dX1_bringIn_105 : decode cX1_bringIn 105 = .ok (.goto (-87), 3) := by decide +kernel
theorem dX1_bringIn_108 : decode cX1_bringIn 108 = .ok (.aload_n 0, 1) := by decide +kernel
theorem dX1_bringIn_109 : decode cX1_bringIn 109 = .ok (.iload_n 1, 1) := by decide +kernel
theorem dX1_bringIn_110 : decode cX1_bringIn 110 = .ok (.iload_n 2, 1) := by decide +kernel
theorem dX1_bringIn_111 : decode cX1_bringIn 111 = .ok (.iload_n 3, 1) := by decide +kernel
theorem dX1_bringIn_112 : decode cX1_bringIn 112 = .ok (.invokevirtual 86, 3) := by decide +kernel
theorem dX1_bringIn_115 : decode cX1_bringIn 115 = .ok (.return_, 1) := by decide +kernel
theorem dX1_findChains_0 : decode cX1_findChains 0 = .ok (.aload_n 0, 1) := by decide +kernel
theorem dX1_findChains_1 : decode cX1_findChains 1 = .ok (.getfield 23, 3) := by decide +kernel
theorem dX1_findChains_4 : decode cX1_findChains 4 = .ok (.ldc2_w 81, 3) := by decide +kernel
theorem dX1_findChains_7 : decode cX1_findChains 7 = .ok (.invokestatic 32, 3) := by decide +kernel
theorem dX1_findChains_10 : decode cX1_findChains 10 = .ok (.aload_n 0, 1) := by decide +kernel
theorem dX1_findChains_11 : decode cX1_findChains 11 = .ok (.getfield 27, 3) := by decide +kernel
theorem dX1_findChains_14 : decode cX1_findChains 14 = .ok (.iconst (-1), 1) := by decide +kernel
theorem dX1_findChains_15 : decode cX1_findChains 15 = .ok (.invokestatic 38, 3) := by decide +kernel
theorem dX1_findChains_18 : decode cX1_findChains 18 = .ok (.aload_n 0, 1) := by decide +kernel
theorem dX1_findChains_19 : decode cX1_findChains 19 = .ok (.getfield 23, 3) := by decide +kernel
theorem dX1_findChains_22 : decode cX1_findChains 22 = .ok (.iload_n 1, 1) := by decide +kernel
theorem dX1_findChains_23 : decode cX1_findChains 23 = .ok (.lconst 0, 1) := by decide +kernel
theorem dX1_findChains_24 : decode cX1_findChains 24 = .ok (.lastore, 1) := by decide +kernel
theorem dX1_findChains_25 : decode cX1_findChains 25 = .ok (.iconst 1, 1) := by decide +kernel
theorem dX1_findChains_26 : decode cX1_findChains 26 = .ok (.istore_n 2, 1) := by decide +kernel
theorem dX1_findChains_27 : decode cX1_findChains 27 = .ok (.iconst 0, 1) := by decide +kernel
theorem dX1_findChains_28 : decode cX1_findChains 28 = .ok (.istore_n 3, 1) := by decide +kernel
theorem dX1_findChains_29 : decode cX1_findChains 29 = .ok (.iload_n 3, 1) := by decide +kernel
theorem dX1_findChains_30 : decode cX1_findChains 30 = .ok (.bipush 10, 2) := by decide +kernel
theorem dX1_findChains_32 : decode cX1_findChains 32 = .ok (.if_icmp .ge 63, 3) := by decide +kernel
theorem dX1_findChains_35 : decode cX1_findChains 35 = .ok (.iload_n 2, 1) := by decide +kernel
theorem dX1_findChains_36 : decode cX1_findChains 36 = .ok (.ifCond .eq 59, 3) := by decide +kernel
theorem dX1_findChains_39 : decode cX1_findChains 39 = .ok (.iconst 0, 1) := by decide +kernel
theorem dX1_findChains_40 : decode cX1_findChains 40 = .ok (.istore_n 2, 1) := by decide +kernel
theorem dX1_findChains_41 : decode cX1_findChains 41 = .ok (.iconst 0, 1) := by decide +kernel
theorem dX1_findChains_42 : decode cX1_findChains 42 = .ok (.istore 4, 2) := by decide +kernel
theorem dX1_findChains_44 : decode cX1_findChains 44 = .ok (.iload 4, 2) := by decide +kernel
theorem dX1_findChains_46 : decode cX1_findChains 46 = .ok (.iload_n 1, 1) := by decide +kernel
theorem dX1_findChains_47 : decode cX1_findChains 47 = .ok (.if_icmp .gt 42, 3) := by decide +kernel
theorem dX1_findChains_50 : decode cX1_findChains 50 = .ok (.iload 4, 2) := by decide +kernel
theorem dX1_findChains_52 : decode cX1_findChains 52 = .ok (.bipush 10, 2) := by decide +kernel
theorem dX1_findChains_54 : decode cX1_findChains 54 = .ok (.if_icmp .ge 35, 3) := by decide +kernel
theorem dX1_findChains_57 : decode cX1_findChains 57 = .ok (.aload_n 0, 1) := by decide +kernel
theorem dX1_findChains_58 : decode cX1_findChains 58 = .ok (.getfield 23, 3) := by decide +kernel
theorem dX1_findChains_61 : decode cX1_findChains 61 = .ok (.iload 4, 2) := by decide +kernel
theorem dX1_findChains_63 : decode cX1_findChains 63 = .ok (.laload, 1) := by decide +kernel
theorem dX1_findChains_64 : decode cX1_findChains 64 = .ok (.ldc2_w 81, 3) := by decide +kernel
theorem dX1_findChains_67 : decode cX1_findChains 67 = .ok (.lcmp, 1) := by decide +kernel
theorem dX1_findChains_68 : decode cX1_findChains 68 = .ok (.ifCond .eq 15, 3) := by decide +kernel
theorem dX1_findChains_71 : decode cX1_findChains 71 = .ok (.aload_n 0, 1) := by decide +kernel
theorem dX1_findChains_72 : decode cX1_findChains 72 = .ok (.iload 4, 2) := by decide +kernel
theorem dX1_findChains_74 : decode cX1_findChains 74 = .ok (.iload_n 1, 1) := by decide +kernel
theorem dX1_findChains_75 : decode cX1_findChains 75 = .ok (.invokevirtual 90, 3) := by decide +kernel
theorem dX1_findChains_78 : decode cX1_findChains 78 = .ok (.ifCond .eq 5, 3) := by decide +kernel
theorem dX1_findChains_81 : decode cX1_findChains 81 = .ok (.iconst 1, 1) := by decide +kernel
theorem dX1_findChains_82 : decode cX1_findChains 82 = .ok (.istore_n 2, 1) := by decide +kernel
theorem dX1_findChains_83 : decode cX1_findChains 83 = .ok (.iinc 4 1, 3) := by decide +kernel
theorem dX1_findChains_86 : decode cX1_findChains 86 = .ok (.goto (-42), 3) := by decide +kernel
theorem dX1_findChains_89 : decode cX1_findChains 89 = .ok (.iinc 3 1, 3) := by decide +kernel
theorem dX1_findChains_92 : decode cX1_findChains 92 = .ok (.goto (-63), 3) := by decide +kernel
theorem dX1_findChains_95 : decode cX1_findChains 95 = .ok (.return_, 1) := by decide +kernel
theorem dX1_lengthenChains_0 : decode cX1_lengthenChains 0 = .ok (.iconst 0, 1) := by decide +kernel
theorem dX1_lengthenChains_1 : decode cX1_lengthenChains 1 = .ok (.istore_n 3, 1) := by decide +kernel
theorem dX1_lengthenChains_2 : decode cX1_lengthenChains 2 = .ok (.iconst 0, 1) := by decide +kernel
theorem dX1_lengthenChains_3 : decode cX1_lengthenChains 3 = .ok (.istore 4, 2) := by decide +kernel
theorem dX1_lengthenChains_5 : decode cX1_lengthenChains 5 = .ok (.iload 4, 2) := by decide +kernel
theorem dX1_lengthenChains_7 : decode cX1_lengthenChains 7 = .ok (.iload_n 2, 1) := by decide +kernel
theorem dX1_lengthenChains_8 : decode cX1_lengthenChains 8 = .ok (.if_icmp .ge 106, 3) := by decide +kernel
theorem dX1_lengthenChains_11 : decode cX1_lengthenChains 11 = .ok (.iload 4, 2) := by decide +kernel
theorem dX1_lengthenChains_13 : decode cX1_lengthenChains 13 = .ok (.bipush 10, 2) := by decide +kernel
theorem dX1_lengthenChains_15 : decode cX1_lengthenChains 15 = .ok (.if_icmp .ge 99, 3) := by decide +kernel
theorem dX1_lengthenChains_18 : decode cX1_lengthenChains 18 = .ok (.aload_n 0, 1) := by decide +kernel
theorem dX1_lengthenChains_19 : decode cX1_lengthenChains 19 = .ok (.getfield 20, 3) := by decide +kernel
theorem dX1_lengthenChains_22 : decode cX1_lengthenChains 22 = .ok (.iload 4, 2) := by decide +kernel
theorem dX1_lengthenChains_24 : decode cX1_lengthenChains 24 = .ok (.iaload, 1) := by decide +kernel
theorem dX1_lengthenChains_25 : decode cX1_lengthenChains 25 = .ok (.istore 5, 2) := by decide +kernel
theorem dX1_lengthenChains_27 : decode cX1_lengthenChains 27 = .ok (.iload 5, 2) := by decide +kernel
theorem dX1_lengthenChains_29 : decode cX1_lengthenChains 29 = .ok (.bipush 12, 2) := by decide +kernel
theorem dX1_lengthenChains_31 : decode cX1_lengthenChains 31 = .ok (.if_icmp .eq 77, 3) := by decide +kernel
theorem dX1_lengthenChains_34 : decode cX1_lengthenChains 34 = .ok (.aload_n 0, 1) := by decide +kernel
theorem dX1_lengthenChains_35 : decode cX1_lengthenChains 35 = .ok (.iload_n 1, 1) := by decide +kernel
theorem dX1_lengthenChains_36 : decode cX1_lengthenChains 36 = .ok (.iload 5, 2) := by decide +kernel
theorem dX1_lengthenChains_38 : decode cX1_lengthenChains 38 = .ok (.invokevirtual 66, 3) := by decide +kernel
theorem dX1_lengthenChains_41 : decode cX1_lengthenChains 41 = .ok (.ldc2_w 30, 3) := by decide +kernel
theorem dX1_lengthenChains_44 : decode cX1_lengthenChains 44 = .ok (.lcmp, 1) := by decide +kernel
theorem dX1_lengthenChains_45 : decode cX1_lengthenChains 45 = .ok (.ifCond .ne 6, 3) := by decide +kernel
theorem dX1_lengthenChains_48 : decode cX1_lengthenChains 48 = .ok (.goto 60, 3) := by decide +kernel
theorem dX1_lengthenChains_51 : decode cX1_lengthenChains 51 = .ok (.aload_n 0, 1) := by decide +kernel
theorem dX1_lengthenChains_52 : decode cX1_lengthenChains 52 = .ok (.getfield 23, 3) := by decide +kernel
theorem dX1_lengthenChains_55 : decode cX1_lengthenChains 55 = .ok (.iload_n 1, 1) := by decide +kernel
theorem dX1_lengthenChains_56 : decode cX1_lengthenChains 56 = .ok (.laload, 1) := by decide +kernel
theorem dX1_lengthenChains_57 : decode cX1_lengthenChains 57 = .ok (.aload_n 0, 1) := by decide +kernel
theorem dX1_lengthenChains_58 : decode cX1_lengthenChains 58 = .ok (.iload_n 1, 1) := by decide +kernel
theorem dX1_lengthenChains_59 : decode cX1_lengthenChains 59 = .ok (.iload 5, 2) := by decide +kernel
theorem dX1_lengthenChains_61 : decode cX1_lengthenChains 61 = .ok (.invokevirtual 66, 3) := by decide +kernel
theorem dX1_lengthenChains_64 : decode cX1_lengthenChains 64 = .ok (.ladd, 1) := by decide +kernel
theorem dX1_lengthenChains_65 : decode cX1_lengthenChains 65 = .ok (.aload_n 0, 1) := by decide +kernel
theorem dX1_lengthenChains_66 : decode cX1_lengthenChains 66 = .ok (.iload 4, 2) := by decide +kernel
theorem dX1_lengthenChains_68 : decode cX1_lengthenChains 68 = .ok (.iload 5, 2) := by decide +kernel
theorem dX1_lengthenChains_70 : decode cX1_lengthenChains 70 = .ok (.invokevirtual 66, 3) := by decide +kernel
theorem dX1_lengthenChains_73 : decode cX1_lengthenChains 73 = .ok (.lsub, 1) := by decide +kernel
theorem dX1_lengthenChains_74 : decode cX1_lengthenChains 74 = .ok (.lstore 6, 2) := by decide +kernel
theorem dX1_lengthenChains_76 : decode cX1_lengthenChains 76 = .ok (.lload 6, 2) := by decide +kernel
theorem dX1_lengthenChains_78 : decode cX1_lengthenChains 78 = .ok (.aload_n 0, 1) := by decide +kernel
theorem dX1_lengthenChains_79 : decode cX1_lengthenChains 79 = .ok (.getfield 23, 3) := by decide +kernel
theorem dX1_lengthenChains_82 : decode cX1_lengthenChains 82 = .ok (.iload 4, 2) := by decide +kernel
theorem dX1_lengthenChains_84 : decode cX1_lengthenChains 84 = .ok (.laload, 1) := by decide +kernel
theorem dX1_lengthenChains_85 : decode cX1_lengthenChains 85 = .ok (.lcmp, 1) := by decide +kernel
theorem dX1_lengthenChains_86 : decode cX1_lengthenChains 86 = .ok (.ifCond .ge 22, 3) := by decide +kernel
theorem dX1_lengthenChains_89 : decode cX1_lengthenChains 89 = .ok (.aload_n 0, 1) := by decide +kernel
theorem dX1_lengthenChains_90 : decode cX1_lengthenChains 90 = .ok (.getfield 23, 3) := by decide +kernel
theorem dX1_lengthenChains_93 : decode cX1_lengthenChains 93 = .ok (.iload 4, 2) := by decide +kernel
theorem dX1_lengthenChains_95 : decode cX1_lengthenChains 95 = .ok (.lload 6, 2) := by decide +kernel
theorem dX1_lengthenChains_97 : decode cX1_lengthenChains 97 = .ok (.lastore, 1) := by decide +kernel
theorem dX1_lengthenChains_98 : decode cX1_lengthenChains 98 = .ok (.aload_n 0, 1) := by decide +kernel
theorem dX1_lengthenChains_99 : decode cX1_lengthenChains 99 = .ok (.getfield 27, 3) := by decide +kernel
theorem dX1_lengthenChains_102 : decode cX1_lengthenChains 102 = .ok (.iload 4, 2) := by decide +kernel
theorem dX1_lengthenChains_104 : decode cX1_lengthenChains 104 = .ok (.iload_n 1, 1) := by decide +kernel
theorem dX1_lengthenChains_105 : decode cX1_lengthenChains 105 = .ok (.iastore, 1) := by decide +kernel
theorem dX1_lengthenChains_106 : decode cX1_lengthenChains 106 = .ok (.iconst 1, 1) := by decide +kernel
theorem dX1_lengthenChains_107 : decode cX1_lengthenChains 107 = .ok (.istore_n 3, 1) := by decide +kernel
theorem dX1_lengthenChains_108 : decode cX1_lengthenChains 108 = .ok (.iinc 4 1, 3) := by decide +kernel
theorem dX1_lengthenChains_111 : decode cX1_lengthenChains 111 = .ok (.goto (-106), 3) := by decide +kernel
theorem dX1_lengthenChains_114 : decode cX1_lengthenChains 114 = .ok (.iload_n 3, 1) := by decide +kernel
theorem dX1_lengthenChains_115 : decode cX1_lengthenChains 115 = .ok (.ireturn, 1) := by decide +kernel
theorem dX1_cheapestEnd_0 : decode cX1_cheapestEnd 0 = .ok (.bipush 12, 2) := by decide +kernel
theorem dX1_cheapestEnd_2 : decode cX1_cheapestEnd 2 = .ok (.istore_n 2, 1) := by decide +kernel
theorem dX1_cheapestEnd_3 : decode cX1_cheapestEnd 3 = .ok (.iconst 0, 1) := by decide +kernel
theorem dX1_cheapestEnd_4 : decode cX1_cheapestEnd 4 = .ok (.istore_n 3, 1) := by decide +kernel
theorem dX1_cheapestEnd_5 : decode cX1_cheapestEnd 5 = .ok (.iload_n 3, 1) := by decide +kernel
theorem dX1_cheapestEnd_6 : decode cX1_cheapestEnd 6 = .ok (.bipush 12, 2) := by decide +kernel
theorem dX1_cheapestEnd_8 : decode cX1_cheapestEnd 8 = .ok (.if_icmp .ge 63, 3) := by decide +kernel
theorem dX1_cheapestEnd_11 : decode cX1_cheapestEnd 11 = .ok (.aload_n 0, 1) := by decide +kernel
theorem dX1_cheapestEnd_12 : decode cX1_cheapestEnd 12 = .ok (.iload_n 1, 1) := by decide +kernel
theorem dX1_cheapestEnd_13 : decode cX1_cheapestEnd 13 = .ok (.iload_n 3, 1) := by decide +kernel
theorem dX1_cheapestEnd_14 : decode cX1_cheapestEnd 14 = .ok (.invokevirtual 66, 3) := by decide +kernel
theorem dX1_cheapestEnd_17 : decode cX1_cheapestEnd 17 = .ok (.ldc2_w 30, 3) := by decide +kernel
theorem dX1_cheapestEnd_20 : decode cX1_cheapestEnd 20 = .ok (.lcmp, 1) := by decide +kernel
theorem dX1_cheapestEnd_21 : decode cX1_cheapestEnd 21 = .ok (.ifCond .eq 18, 3) := by decide +kernel
theorem dX1_cheapestEnd_24 : decode cX1_cheapestEnd 24 = .ok (.aload_n 0, 1) := by decide +kernel
theorem dX1_cheapestEnd_25 : decode cX1_cheapestEnd 25 = .ok (.getfield 45, 3) := by decide +kernel
theorem dX1_cheapestEnd_28 : decode cX1_cheapestEnd 28 = .ok (.iload_n 3, 1) := by decide +kernel
theorem dX1_cheapestEnd_29 : decode cX1_cheapestEnd 29 = .ok (.invokestatic 58, 3) := by decide +kernel
theorem dX1_cheapestEnd_32 : decode cX1_cheapestEnd 32 = .ok (.ifCond .ne 7, 3) := by decide +kernel
theorem dX1_cheapestEnd_35 : decode cX1_cheapestEnd 35 = .ok (.iconst 1, 1) := by decide +kernel
theorem dX1_cheapestEnd_36 : decode cX1_cheapestEnd 36 = .ok (.goto 4, 3) := by decide +kernel
theorem dX1_cheapestEnd_39 : decode cX1_cheapestEnd 39 = .ok (.iconst 0, 1) := by decide +kernel
theorem dX1_cheapestEnd_40 : decode cX1_cheapestEnd 40 = .ok (.istore 4, 2) := by decide +kernel
theorem dX1_cheapestEnd_42 : decode cX1_cheapestEnd 42 = .ok (.iload 4, 2) := by decide +kernel
theorem dX1_cheapestEnd_44 : decode cX1_cheapestEnd 44 = .ok (.ifCond .eq 21, 3) := by decide +kernel
theorem dX1_cheapestEnd_47 : decode cX1_cheapestEnd 47 = .ok (.aload_n 0, 1) := by decide +kernel
theorem dX1_cheapestEnd_48 : decode cX1_cheapestEnd 48 = .ok (.iload_n 1, 1) := by decide +kernel
theorem dX1_cheapestEnd_49 : decode cX1_cheapestEnd 49 = .ok (.iload_n 3, 1) := by decide +kernel
theorem dX1_cheapestEnd_50 : decode cX1_cheapestEnd 50 = .ok (.invokevirtual 66, 3) := by decide +kernel
theorem dX1_cheapestEnd_53 : decode cX1_cheapestEnd 53 = .ok (.aload_n 0, 1) := by decide +kernel
theorem dX1_cheapestEnd_54 : decode cX1_cheapestEnd 54 = .ok (.iload_n 1, 1) := by decide +kernel
theorem dX1_cheapestEnd_55 : decode cX1_cheapestEnd 55 = .ok (.iload_n 2, 1) := by decide +kernel
theorem dX1_cheapestEnd_56 : decode cX1_cheapestEnd 56 = .ok (.invokevirtual 66, 3) := by decide +kernel
theorem dX1_cheapestEnd_59 : decode cX1_cheapestEnd 59 = .ok (.lcmp, 1) := by decide +kernel
theorem dX1_cheapestEnd_60 : decode cX1_cheapestEnd 60 = .ok (.ifCond .ge 5, 3) := by decide +kernel
theorem dX1_cheapestEnd_63 : decode cX1_cheapestEnd 63 = .ok (.iload_n 3, 1) := by decide +kernel
theorem dX1_cheapestEnd_64 : decode cX1_cheapestEnd 64 = .ok (.istore_n 2, 1) := by decide +kernel
theorem dX1_cheapestEnd_65 : decode cX1_cheapestEnd 65 = .ok (.iinc 3 1, 3) := by decide +kernel
theorem dX1_cheapestEnd_68 : decode cX1_cheapestEnd 68 = .ok (.goto (-63), 3) := by decide +kernel
theorem dX1_cheapestEnd_71 : decode cX1_cheapestEnd 71 = .ok (.iload_n 2, 1) := by decide +kernel
theorem dX1_cheapestEnd_72 : decode cX1_cheapestEnd 72 = .ok (.ireturn, 1) := by decide +kernel
theorem dX1_shiftAlong_0 : decode cX1_shiftAlong 0 = .ok (.iload_n 3, 1) := by decide +kernel
theorem dX1_shiftAlong_1 : decode cX1_shiftAlong 1 = .ok (.bipush 12, 2) := by decide +kernel
theorem dX1_shiftAlong_3 : decode cX1_shiftAlong 3 = .ok (.if_icmp .eq 15, 3) := by decide +kernel
theorem dX1_shiftAlong_6 : decode cX1_shiftAlong 6 = .ok (.aload_n 0, 1) := by decide +kernel
theorem dX1_shiftAlong_7 : decode cX1_shiftAlong 7 = .ok (.dup, 1) := by decide +kernel
theorem dX1_shiftAlong_8 : decode cX1_shiftAlong 8 = .ok (.getfield 45, 3) := by decide +kernel
theorem dX1_shiftAlong_11 : decode cX1_shiftAlong 11 = .ok (.iconst 1, 1) := by decide +kernel
theorem dX1_shiftAlong_12 : decode cX1_shiftAlong 12 = .ok (.iload_n 3, 1) := by decide +kernel
theorem dX1_shiftAlong_13 : decode cX1_shiftAlong 13 = .ok (.ishl, 1) := by decide +kernel
theorem dX1_shiftAlong_14 : decode cX1_shiftAlong 14 = .ok (.ior, 1) := by decide +kernel
theorem dX1_shiftAlong_15 : decode cX1_shiftAlong 15 = .ok (.putfield 45, 3) := by decide +kernel
theorem dX1_shiftAlong_18 : decode cX1_shiftAlong 18 = .ok (.iload_n 2, 1) := by decide +kernel
theorem dX1_shiftAlong_19 : decode cX1_shiftAlong 19 = .ok (.istore 4, 2) := by decide +kernel
theorem dX1_shiftAlong_21 : decode cX1_shiftAlong 21 = .ok (.iload_n 3, 1) := by decide +kernel
theorem dX1_shiftAlong_22 : decode cX1_shiftAlong 22 = .ok (.istore 5, 2) := by decide +kernel
theorem dX1_shiftAlong_24 : decode cX1_shiftAlong 24 = .ok (.iconst 0, 1) := by decide +kernel
theorem dX1_shiftAlong_25 : decode cX1_shiftAlong 25 = .ok (.istore 6, 2) := by decide +kernel
theorem dX1_shiftAlong_27 : decode cX1_shiftAlong 27 = .ok (.iload 6, 2) := by decide +kernel
theorem dX1_shiftAlong_29 : decode cX1_shiftAlong 29 = .ok (.bipush 10, 2) := by decide +kernel
theorem dX1_shiftAlong_31 : decode cX1_shiftAlong 31 = .ok (.if_icmp .ge 58, 3) := by decide +kernel
theorem dX1_shiftAlong_34 : decode cX1_shiftAlong 34 = .ok (.iload 4, 2) := by decide +kernel
theorem dX1_shiftAlong_36 : decode cX1_shiftAlong 36 = .ok (.invokestatic 48, 3) := by decide +kernel
theorem dX1_shiftAlong_39 : decode cX1_shiftAlong 39 = .ok (.ifCond .eq 50, 3) := by decide +kernel
theorem dX1_shiftAlong_42 : decode cX1_shiftAlong 42 = .ok (.aload_n 0, 1) := by decide +kernel
theorem dX1_shiftAlong_43 : decode cX1_shiftAlong 43 = .ok (.getfield 20, 3) := by decide +kernel
theorem dX1_shiftAlong_46 : decode cX1_shiftAlong 46 = .ok (.iload 4, 2) := by decide +kernel
theorem dX1_shiftAlong_48 : decode cX1_shiftAlong 48 = .ok (.iaload, 1) := by decide +kernel
theorem dX1_shiftAlong_49 : decode cX1_shiftAlong 49 = .ok (.istore 7, 2) := by decide +kernel
theorem dX1_shiftAlong_51 : decode cX1_shiftAlong 51 = .ok (.aload_n 0, 1) := by decide +kernel
theorem dX1_shiftAlong_52 : decode cX1_shiftAlong 52 = .ok (.getfield 20, 3) := by decide +kernel
theorem dX1_shiftAlong_55 : decode cX1_shiftAlong 55 = .ok (.iload 4, 2) := by decide +kernel
theorem dX1_shiftAlong_57 : decode cX1_shiftAlong 57 = .ok (.iload 5, 2) := by decide +kernel
theorem dX1_shiftAlong_59 : decode cX1_shiftAlong 59 = .ok (.iastore, 1) := by decide +kernel
theorem dX1_shiftAlong_60 : decode cX1_shiftAlong 60 = .ok (.iload 7, 2) := by decide +kernel
theorem dX1_shiftAlong_62 : decode cX1_shiftAlong 62 = .ok (.istore 5, 2) := by decide +kernel
theorem dX1_shiftAlong_64 : decode cX1_shiftAlong 64 = .ok (.iload 4, 2) := by decide +kernel
theorem dX1_shiftAlong_66 : decode cX1_shiftAlong 66 = .ok (.iload_n 1, 1) := by decide +kernel
theorem dX1_shiftAlong_67 : decode cX1_shiftAlong 67 = .ok (.if_icmp .ne 7, 3) := by decide +kernel
theorem dX1_shiftAlong_70 : decode cX1_shiftAlong 70 = .ok (.iconst (-1), 1) := by decide +kernel
theorem dX1_shiftAlong_71 : decode cX1_shiftAlong 71 = .ok (.goto 10, 3) := by decide +kernel
theorem dX1_shiftAlong_74 : decode cX1_shiftAlong 74 = .ok (.aload_n 0, 1) := by decide +kernel
theorem dX1_shiftAlong_75 : decode cX1_shiftAlong 75 = .ok (.getfield 27, 3) := by decide +kernel
theorem dX1_shiftAlong_78 : decode cX1_shiftAlong 78 = .ok (.iload 4, 2) := by decide +kernel
theorem dX1_shiftAlong_80 : decode cX1_shiftAlong 80 = .ok (.iaload, 1) := by decide +kernel
theorem dX1_shiftAlong_81 : decode cX1_shiftAlong 81 = .ok (.istore 4, 2) := by decide +kernel
theorem dX1_shiftAlong_83 : decode cX1_shiftAlong 83 = .ok (.iinc 6 1, 3) := by decide +kernel
theorem dX1_shiftAlong_86 : decode cX1_shiftAlong 86 = .ok (.goto (-59), 3) := by decide +kernel
theorem dX1_shiftAlong_89 : decode cX1_shiftAlong 89 = .ok (.return_, 1) := by decide +kernel
theorem dX2_init_0 : decode cX2_init 0 = .ok (.aload_n 0, 1) := by decide +kernel
theorem dX2_init_1 : decode cX2_init 1 = .ok (.invokespecial 3, 3) := by decide +kernel
theorem dX2_init_4 : decode cX2_init 4 = .ok (.aload_n 0, 1) := by decide +kernel
theorem dX2_init_5 : decode cX2_init 5 = .ok (.bipush 7, 2) := by decide +kernel
theorem dX2_init_7 : decode cX2_init 7 = .ok (.newarray .int, 2) := by decide +kernel
theorem dX2_init_9 : decode cX2_init 9 = .ok (.putfield 11, 3) := by decide +kernel
theorem dX2_init_12 : decode cX2_init 12 = .ok (.aload_n 0, 1) := by decide +kernel
theorem dX2_init_13 : decode cX2_init 13 = .ok (.bipush 7, 2) := by decide +kernel
theorem dX2_init_15 : decode cX2_init 15 = .ok (.newarray .int, 2) := by decide +kernel
theorem dX2_init_17 : decode cX2_init 17 = .ok (.putfield 15, 3) := by decide +kernel
theorem dX2_init_20 : decode cX2_init 20 = .ok (.getstatic 18, 3) := by decide +kernel
theorem dX2_init_23 : decode cX2_init 23 = .ok (.iconst 0, 1) := by decide +kernel
theorem dX2_init_24 : decode cX2_init 24 = .ok (.aload_n 0, 1) := by decide +kernel
theorem dX2_init_25 : decode cX2_init 25 = .ok (.getfield 11, 3) := by decide +kernel
theorem dX2_init_28 : decode cX2_init 28 = .ok (.iconst 0, 1) := by decide +kernel
theorem dX2_init_29 : decode cX2_init 29 = .ok (.bipush 7, 2) := by decide +kernel
theorem dX2_init_31 : decode cX2_init 31 = .ok (.invokestatic 21, 3) := by decide +kernel
theorem dX2_init_34 : decode cX2_init 34 = .ok (.return_, 1) := by decide +kernel
theorem dX2_number_0 : decode cX2_number 0 = .ok (.iload_n 1, 1) := by decide +kernel
theorem dX2_number_1 : decode cX2_number 1 = .ok (.ifCond .lt 18, 3) := by decide +kernel
theorem dX2_number_4 : decode cX2_number 4 = .ok (.iload_n 1, 1) := by decide +kernel
theorem dX2_number_5 : decode cX2_number 5 = .ok (.bipush 7, 2) := by decide +kernel
theorem dX2_number_7 : decode cX2_number 7 = .ok (.if_icmp .ge 12, 3) := by decide +kernel
theorem dX2_number_10 : decode cX2_number 10 = .ok (.aload_n 0, 1) := by decide +kernel
theorem dX2_number_11 : decode cX2_number 11 = .ok (.getfield 11, 3) := by decide +kernel
theorem dX2_number_14 : decode cX2_number 14 = .ok (.iload_n 1, 1) := by decide +kernel
theorem dX2_number_15 : decode cX2_number 15 = .ok (.iaload, 1) := by decide +kernel
theorem dX2_number_16 : decode cX2_number 16 = .ok (.goto 4, 3) := by decide +kernel
theorem dX2_number_19 : decode cX2_number 19 = .ok (.iconst (-1), 1) := by decide +kernel
theorem dX2_number_20 : decode cX2_number 20 = .ok (.ireturn, 1) := by decide +kernel
theorem dX2_read_0 : decode cX2_read 0 = .ok (.getstatic 18, 3) := by decide +kernel
theorem dX2_read_3 : decode cX2_read 3 = .ok (.iconst 0, 1) := by decide +kernel
theorem dX2_read_4 : decode cX2_read 4 = .ok (.aload_n 0, 1) := by decide +kernel
theorem dX2_read_5 : decode cX2_read 5 = .ok (.getfield 15, 3) := by decide +kernel
theorem dX2_read_8 : decode cX2_read 8 = .ok (.iconst 0, 1) := by decide +kernel
theorem dX2_read_9 : decode cX2_read 9 = .ok (.bipush 7, 2) := by decide +kernel
theorem dX2_read_11 : decode cX2_read 11 = .ok (.invokestatic 21, 3) := by decide +kernel
theorem dX2_read_14 : decode cX2_read 14 = .ok (.aload_n 0, 1) := by decide +kernel
theorem dX2_read_15 : decode cX2_read 15 = .ok (.iconst 0, 1) := by decide +kernel
theorem dX2_read_16 : decode cX2_read 16 = .ok (.putfield 27, 3) := by decide +kernel
theorem dX2_read_19 : decode cX2_read 19 = .ok (.iconst 0, 1) := by decide +kernel
theorem dX2_read_20 : decode cX2_read 20 = .ok (.istore_n 3, 1) := by decide +kernel
theorem dX2_read_21 : decode cX2_read 21 = .ok (.iload_n 3, 1) := by decide +kernel
theorem dX2_read_22 : decode cX2_read 22 = .ok (.iload_n 2, 1) := by decide +kernel
theorem dX2_read_23 : decode cX2_read 23 = .ok (.if_icmp .gt 54, 3) := by decide +kernel
theorem dX2_read_26 : decode cX2_read 26 = .ok (.aload_n 0, 1) := by decide +kernel
theorem dX2_read_27 : decode cX2_read 27 = .ok (.aload_n 1, 1) := by decide +kernel
theorem dX2_read_28 : decode cX2_read 28 = .ok (.iload_n 2, 1) := by decide +kernel
theorem dX2_read_29 : decode cX2_read 29 = .ok (.invokevirtual 31, 3) := by decide +kernel
theorem dX2_read_32 : decode cX2_read 32 = .ok (.istore 4, 2) := by decide +kernel
theorem dX2_read_34 : decode cX2_read 34 = .ok (.iload 4, 2) := by decide +kernel
theorem dX2_read_36 : decode cX2_read 36 = .ok (.ifCond .eq 14, 3) := by decide +kernel
theorem dX2_read_39 : decode cX2_read 39 = .ok (.bipush 100, 2) := by decide +kernel
theorem dX2_read_41 : decode cX2_read 41 = .ok (.iload 4, 2) := by decide +kernel
theorem dX2_read_43 : decode cX2_read 43 = .ok (.imul, 1) := by decide +kernel
theorem dX2_read_44 : decode cX2_read 44 = .ok (.aload_n 0, 1) := by decide +kernel
theorem dX2_read_45 : decode cX2_read 45 = .ok (.getfield 27, 3) := by decide +kernel
theorem dX2_read_48 : decode cX2_read 48 = .ok (.iadd, 1) := by decide +kernel
theorem dX2_read_49 : decode cX2_read 49 = .ok (.ireturn, 1) := by decide +kernel
theorem dX2_read_50 : decode cX2_read 50 = .ok (.aload_n 0, 1) := by decide +kernel
theorem dX2_read_51 : decode cX2_read 51 = .ok (.getfield 27, 3) := by decide +kernel
theorem dX2_read_54 : decode cX2_read 54 = .ok (.iload_n 2, 1) := by decide +kernel
theorem dX2_read_55 : decode cX2_read 55 = .ok (.if_icmp .lt 6, 3) := by decide +kernel
theorem dX2_read_58 : decode cX2_read 58 = .ok (.goto 19, 3) := by decide +kernel
theorem dX2_read_61 : decode cX2_read 61 = .ok (.aload_n 0, 1) := by decide +kernel
theorem dX2_read_62 : decode cX2_read 62 = .ok (.dup, 1) := by decide +kernel
theorem dX2_read_63 : decode cX2_read 63 = .ok (.getfield 27, 3) := by decide +kernel
theorem dX2_read_66 : decode cX2_read 66 = .ok (.iconst 1, 1) := by decide +kernel
theorem dX2_read_67 : decode cX2_read 67 = .ok (.iadd, 1) := by decide +kernel
theorem dX2_read_68 : decode cX2_read 68 = .ok (.putfield 27, 3) := by decide +kernel
theorem dX2_read_71 : decode cX2_read 71 = .ok (.iinc 3 1, 3) := by decide +kernel
theorem dX2_read_74 : decode cX2_read 74 = .ok (.goto (-53), 3) := by decide +kernel
theorem dX2_read_77 : decode cX2_read 77 = .ok (.aload_n 0, 1) := by decide +kernel
theorem dX2_read_78 : decode cX2_read 78 = .ok (.getfield 15, 3) := by decide +kernel
theorem dX2_read_81 : decode cX2_read 81 = .ok (.iconst 0, 1) := by decide +kernel
theorem dX2_read_82 : decode cX2_read 82 = .ok (.aload_n 0, 1) := by decide +kernel
theorem dX2_read_83 : decode cX2_read 83 = .ok (.getfield 11, 3) := by decide +kernel
theorem dX2_read_86 : decode cX2_read 86 = .ok (.iconst 0, 1) := by decide +kernel
theorem dX2_read_87 : decode cX2_read 87 = .ok (.bipush 7, 2) := by decide +kernel
theorem dX2_read_89 : decode cX2_read 89 = .ok (.invokestatic 21, 3) := by decide +kernel
theorem dX2_read_92 : decode cX2_read 92 = .ok (.iconst 0, 1) := by decide +kernel
theorem dX2_read_93 : decode cX2_read 93 = .ok (.ireturn, 1) := by decide +kernel
theorem dX2_readClause_0 : decode cX2_readClause 0 = .ok (.aload_n 1, 1) := by decide +kernel
theorem dX2_readClause_1 : decode cX2_readClause 1 = .ok (.aload_n 0, 1) := by decide +kernel
theorem dX2_readClause_2 : decode cX2_readClause 2 = .ok (.getfield 27, 3) := by decide +kernel
theorem dX2_readClause_5 : decode cX2_readClause 5 = .ok (.iload_n 2, 1) := by decide +kernel
theorem dX2_readClause_6 : decode cX2_readClause 6 = .ok (.invokevirtual 35, 3) := by decide +kernel
theorem dX2_readClause_9 : decode cX2_readClause 9 = .ok (.invokestatic 41, 3) := by decide +kernel
theorem dX2_readClause_12 : decode cX2_readClause 12 = .ok (.istore_n 3, 1) := by decide +kernel
theorem dX2_readClause_13 : decode cX2_readClause 13 = .ok (.iload_n 3, 1) := by decide +kernel
theorem dX2_readClause_14 : decode cX2_readClause 14 = .ok (.iconst (-1), 1) := by decide +kernel
theorem dX2_readClause_15 : decode cX2_readClause 15 = .ok (.if_icmp .ne 5, 3) := by decide +kernel
theorem dX2_readClause_18 : decode cX2_readClause 18 = .ok (.iconst 1, 1) := by decide +kernel
theorem dX2_readClause_19 : decode cX2_readClause 19 = .ok (.ireturn, 1) := by decide +kernel
theorem dX2_readClause_20 : decode cX2_readClause 20 = .ok (.aload_n 0, 1) := by decide +kernel
theorem dX2_readClause_21 : decode cX2_readClause 21 = .ok (.dup, 1) := by decide +kernel
theorem dX2_readClause_22 : decode cX2_readClause 22 = .ok (.getfield 27, 3) := by decide +kernel
theorem dX2_readClause_25 : decode cX2_readClause 25 = .ok (.iconst 1, 1) := by decide +kernel
theorem dX2_readClause_26 : decode cX2_readClause 26 = .ok (.iadd, 1) := by decide +kernel
theorem dX2_readClause_27 : decode cX2_readClause 27 = .ok (.putfield 27, 3) := by decide +kernel
theorem dX2_readClause_30 : decode cX2_readClause 30 = .ok (.aload_n 1, 1) := by decide +kernel
theorem dX2_readClause_31 : decode cX2_readClause 31 = .ok (.aload_n 0, 1) := by decide +kernel
theorem dX2_readClause_32 : decode cX2_readClause 32 = .ok (.getfield 27, 3) := by decide +kernel
theorem dX2_readClause_35 : decode cX2_readClause 35 = .ok (.iload_n 2, 1) := by decide +kernel
theorem dX2_readClause_36 : decode cX2_readClause 36 = .ok (.invokevirtual 35, 3) := by decide +kernel
theorem dX2_readClause_39 : decode cX2_readClause 39 = .ok (.invokestatic 45, 3) := by decide +kernel
theorem dX2_readClause_42 : decode cX2_readClause 42 = .ok (.ifCond .ne 5, 3) := by decide +kernel
theorem dX2_readClause_45 : decode cX2_readClause 45 = .ok (.iconst 2, 1) := by decide +kernel
theorem dX2_readClause_46 : decode cX2_readClause 46 = .ok (.ireturn, 1) := by decide +kernel
theorem dX2_readClause_47 : decode cX2_readClause 47 = .ok (.aload_n 0, 1) := by decide +kernel
theorem dX2_readClause_48 : decode cX2_readClause 48 = .ok (.getfield 27, 3) := by decide +kernel
theorem dX2_readClause_51 : decode cX2_readClause 51 = .ok (.istore 4, 2) := by decide +kernel
theorem dX2_readClause_53 : decode cX2_readClause 53 = .ok (.aload_n 0, 1) := by decide +kernel
theorem dX2_readClause_54 : decode cX2_readClause 54 = .ok (.aload_n 1, 1) := by decide +kernel
theorem dX2_readClause_55 : decode cX2_readClause 55 = .ok (.iload_n 2, 1) := by decide +kernel
theorem dX2_readClause_56 : decode cX2_readClause 56 = .ok (.invokevirtual 49, 3) := by decide +kernel
theorem dX2_readClause_59 : decode cX2_readClause 59 = .ok (.istore 5, 2) := by decide +kernel
theorem dX2_readClause_61 : decode cX2_readClause 61 = .ok (.aload_n 1, 1) := by decide +kernel
theorem dX2_readClause_62 : decode cX2_readClause 62 = .ok (.aload_n 0, 1) := by decide +kernel
theorem dX2_readClause_63 : decode cX2_readClause 63 = .ok (.getfield 27, 3) := by decide +kernel
theorem dX2_readClause_66 : decode cX2_readClause 66 = .ok (.iload_n 2, 1) := by decide +kernel
theorem dX2_readClause_67 : decode cX2_readClause 67 = .ok (.invokevirtual 35, 3) := by decide +kernel
theorem dX2_readClause_70 : decode cX2_readClause 70 = .ok (.invokestatic 45, 3) := by decide +kernel
theorem dX2_readClause_73 : decode cX2_readClause 73 = .ok (.ifCond .eq 5, 3) := by decide +kernel
theorem dX2_readClause_76 : decode cX2_readClause 76 = .ok (.iconst 3, 1) := by decide +kernel
theorem dX2_readClause_77 : decode cX2_readClause 77 = .ok (.ireturn, 1) := by decide +kernel
theorem dX2_readClause_78 : decode cX2_readClause 78 = .ok (.iload 5, 2) := by decide +kernel
theorem dX2_readClause_80 : decode cX2_readClause 80 = .ok (.getstatic 52, 3) := by decide +kernel
theorem dX2_readClause_83 : decode cX2_readClause 83 = .ok (.iload_n 3, 1) := by decide +kernel
theorem dX2_readClause_84 : decode cX2_readClause 84 = .ok (.iaload, 1) := by decide +kernel
theorem dX2_readClause_85 : decode cX2_readClause 85 = .ok (.if_icmp .lt 13, 3) := by decide +kernel
theorem dX2_readClause_88 : decode cX2_readClause 88 = .ok (.iload 5, 2) := by decide +kernel
theorem dX2_readClause_90 : decode cX2_readClause 90 = .ok (.getstatic 55, 3) := by decide +kernel
theorem dX2_readClause_93 : decode cX2_readClause 93 = .ok (.iload_n 3, 1) := by decide +kernel
theorem dX2_readClause_94 : decode cX2_readClause 94 = .ok (.iaload, 1) := by decide +kernel
theorem dX2_readClause_95 : decode cX2_readClause 95 = .ok (.if_icmp .le 11, 3) := by decide +kernel
theorem dX2_readClause_98 : decode cX2_readClause 98 = .ok (.aload_n 0, 1) := by decide +kernel
theorem dX2_readClause_99 : decode cX2_readClause 99 = .ok (.iload 4, 2) := by decide +kernel
theorem dX2_readClause_101 : decode cX2_readClause 101 = .ok (.putfield 27, 3) := by decide +kernel
theorem dX2_readClause_104 : decode cX2_readClause 104 = .ok (.iconst 4, 1) := by decide +kernel
theorem dX2_readClause_105 : decode cX2_readClause 105 = .ok (.ireturn, 1) := by decide +kernel
theorem dX2_readClause_106 : decode cX2_readClause 106 = .ok (.aload_n 0, 1) := by decide +kernel
theorem dX2_readClause_107 : decode cX2_readClause 107 = .ok (.getfield 15, 3) := by decide +kernel
theorem dX2_readClause_110 : decode cX2_readClause 110 = .ok (.iload_n 3, 1) := by decide +kernel
theorem dX2_readClause_111 : decode cX2_readClause 111 = .ok (.iload 5, 2) := by decide +kernel
theorem dX2_readClause_113 : decode cX2_readClause 113 = .ok (.iastore, 1) := by decide +kernel
theorem dX2_readClause_114 : decode cX2_readClause 114 = .ok (.aload_n 0, 1) := by decide +kernel
theorem dX2_readClause_115 : decode cX2_readClause 115 = .ok (.getfield 27, 3) := by decide +kernel
theorem dX2_readClause_118 : decode cX2_readClause 118 = .ok (.iload_n 2, 1) := by decide +kernel
theorem dX2_readClause_119 : decode cX2_readClause 119 = .ok (.if_icmp .ge 21, 3) := by decide +kernel
theorem dX2_readClause_122 : decode cX2_readClause 122 = .ok (.aload_n 1, 1) := by decide +kernel
theorem dX2_readClause_123 : decode cX2_readClause 123 = .ok (.aload_n 0, 1) := by decide +kernel
theorem dX2_readClause_124 : decode cX2_readClause 124 = .ok (.getfield 27, 3) := by decide +kernel
theorem dX2_readClause_127 : decode cX2_readClause 127 = .ok (.iload_n 2, 1) := by decide +kernel
theorem dX2_readClause_128 : decode cX2_readClause 128 = .ok (.invokevirtual 35, 3) := by decide +kernel
theorem dX2_readClause_131 : decode cX2_readClause 131 = .ok (.bipush 59, 2) := by decide +kernel
theorem dX2_readClause_133 : decode cX2_readClause 133 = .ok (.if_icmp .eq 7, 3) := by decide +kernel
theorem dX2_readClause_136 : decode cX2_readClause 136 = .ok (.iconst 5, 1) := by decide +kernel
theorem dX2_readClause_137 : decode cX2_readClause 137 = .ok (.goto 4, 3) := by decide +kernel
theorem dX2_readClause_140 : decode cX2_readClause 140 = .ok (.iconst 0, 1) := by decide +kernel
theorem dX2_readClause_141 : decode cX2_readClause 141 = .ok (.ireturn, 1) := by decide +kernel
theorem dX2_readDigits_0 : decode cX2_readDigits 0 = .ok (.iconst 0, 1) := by decide +kernel
theorem dX2_readDigits_1 : decode cX2_readDigits 1 = .ok (.istore_n 3, 1) := by decide +kernel
theorem dX2_readDigits_2 : decode cX2_readDigits 2 = .ok (.iconst 0, 1) := by decide +kernel
theorem dX2_readDigits_3 : decode cX2_readDigits 3 = .ok (.istore 4, 2) := by decide +kernel
theorem dX2_readDigits_5 : decode cX2_readDigits 5 = .ok (.iload 4, 2) := by decide +kernel
theorem dX2_readDigits_7 : decode cX2_readDigits 7 = .ok (.iconst 4, 1) := by decide +kernel
theorem dX2_readDigits_8 : decode cX2_readDigits 8 = .ok (.if_icmp .ge 52, 3) := by decide +kernel
theorem dX2_readDigits_11 : decode cX2_readDigits 11 = .ok (.aload_n 1, 1) := by decide +kernel
theorem dX2_readDigits_12 : decode cX2_readDigits 12 = .ok (.aload_n 0, 1) := by decide +kernel
theorem dX2_readDigits_13 : decode cX2_readDigits 13 = .ok (.getfield 27, 3) := by decide +kernel
theorem dX2_readDigits_16 : decode cX2_readDigits 16 = .ok (.iload_n 2, 1) := by decide +kernel
theorem dX2_readDigits_17 : decode cX2_readDigits 17 = .ok (.invokevirtual 35, 3) := by decide +kernel
theorem dX2_readDigits_20 : decode cX2_readDigits 20 = .ok (.invokestatic 45, 3) := by decide +kernel
theorem dX2_readDigits_23 : decode cX2_readDigits 23 = .ok (.ifCond .eq 37, 3) := by decide +kernel
theorem dX2_readDigits_26 : decode cX2_readDigits 26 = .ok (.bipush 10, 2) := by decide +kernel
theorem dX2_readDigits_28 : decode cX2_readDigits 28 = .ok (.iload_n 3, 1) := by decide +kernel
theorem dX2_readDigits_29 : decode cX2_readDigits 29 = .ok (.imul, 1) := by decide +kernel
theorem dX2_readDigits_30 : decode cX2_readDigits 30 = .ok (.aload_n 1, 1) := by decide +kernel
theorem dX2_readDigits_31 : decode cX2_readDigits 31 = .ok (.aload_n 0, 1) := by decide +kernel
theorem dX2_readDigits_32 : decode cX2_readDigits 32 = .ok (.getfield 27, 3) := by decide +kernel
theorem dX2_readDigits_35 : decode cX2_readDigits 35 = .ok (.iload_n 2, 1) := by decide +kernel
theorem dX2_readDigits_36 : decode cX2_readDigits 36 = .ok (.invokevirtual 35, 3) := by decide +kernel
theorem dX2_readDigits_39 : decode cX2_readDigits 39 = .ok (.iadd, 1) := by decide +kernel
theorem dX2_readDigits_40 : decode cX2_readDigits 40 = .ok (.bipush 48, 2) := by decide +kernel
theorem dX2_readDigits_42 : decode cX2_readDigits 42 = .ok (.isub, 1) := by decide +kernel
theorem dX2_readDigits_43 : decode cX2_readDigits 43 = .ok (.istore_n 3, 1) := by decide +kernel
theorem dX2_readDigits_44 : decode cX2_readDigits 44 = .ok (.aload_n 0, 1) := by decide +kernel
theorem dX2_readDigits_45 : decode cX2_readDigits 45 = .ok (.dup, 1) := by decide +kernel
theorem dX2_readDigits_46 : decode cX2_readDigits 46 = .ok (.getfield 27, 3) := by decide +kernel
theorem dX2_readDigits_49 : decode cX2_readDigits 49 = .ok (.iconst 1, 1) := by decide +kernel
theorem dX2_readDigits_50 : decode cX2_readDigits 50 = .ok (.iadd, 1) := by decide +kernel
theorem dX2_readDigits_51 : decode cX2_readDigits 51 = .ok (.putfield 27, 3) := by decide +kernel
theorem dX2_readDigits_54 : decode cX2_readDigits 54 = .ok (.iinc 4 1, 3) := by decide +kernel
theorem dX2_readDigits_57 : decode cX2_readDigits 57 = .ok (.goto (-52), 3) := by decide +kernel
theorem dX2_readDigits_60 : decode cX2_readDigits 60 = .ok (.iload_n 3, 1) := by decide +kernel
theorem dX2_readDigits_61 : decode cX2_readDigits 61 = .ok (.ireturn, 1) := by decide +kernel
theorem dX2_isDigit_0 : decode cX2_isDigit 0 = .ok (.iload_n 0, 1) := by decide +kernel
theorem dX2_isDigit_1 : decode cX2_isDigit 1 = .ok (.bipush 48, 2) := by decide +kernel
theorem dX2_isDigit_3 : decode cX2_isDigit 3 = .ok (.if_icmp .lt 13, 3) := by decide +kernel
theorem dX2_isDigit_6 : decode cX2_isDigit 6 = .ok (.iload_n 0, 1) := by decide +kernel
theorem dX2_isDigit_7 : decode cX2_isDigit 7 = .ok (.bipush 57, 2) := by decide +kernel
theorem dX2_isDigit_9 : decode cX2_isDigit 9 = .ok (.if_icmp .gt 7, 3) := by decide +kernel
theorem dX2_isDigit_12 : decode cX2_isDigit 12 = .ok (.iconst 1, 1) := by decide +kernel
theorem dX2_isDigit_13 : decode cX2_isDigit 13 = .ok (.goto 4, 3) := by decide +kernel
theorem dX2_isDigit_16 : decode cX2_isDigit 16 = .ok (.iconst 0, 1) := by decide +kernel
theorem dX2_isDigit_17 : decode cX2_isDigit 17 = .ok (.ireturn, 1) := by decide +kernel
theorem dX2_kindOf_0 : decode cX2_kindOf 0 = .ok (.iconst 0, 1) := by decide +kernel
theorem dX2_kindOf_1 : decode cX2_kindOf 1 = .ok (.istore_n 1, 1) := by decide +kernel
theorem dX2_kindOf_2 : decode cX2_kindOf 2 = .ok (.iload_n 1, 1) := by decide +kernel
theorem dX2_kindOf_3 : decode cX2_kindOf 3 = .ok (.bipush 7, 2) := by decide +kernel
theorem dX2_kindOf_5 : decode cX2_kindOf 5 = .ok (.if_icmp .ge 20, 3) := by decide +kernel
theorem dX2_kindOf_8 : decode cX2_kindOf 8 = .ok (.getstatic 58, 3) := by decide +kernel
theorem dX2_kindOf_11 : decode cX2_kindOf 11 = .ok (.iload_n 1, 1) := by decide +kernel
theorem dX2_kindOf_12 : decode cX2_kindOf 12 = .ok (.caload, 1) := by decide +kernel
theorem dX2_kindOf_13 : decode cX2_kindOf 13 = .ok (.iload_n 0, 1) := by decide +kernel
theorem dX2_kindOf_14 : decode cX2_kindOf 14 = .ok (.if_icmp .ne 5, 3) := by decide +kernel
theorem dX2_kindOf_17 : decode cX2_kindOf 17 = .ok (.iload_n 1, 1) := by decide +kernel
theorem dX2_kindOf_18 : decode cX2_kindOf 18 = .ok (.ireturn, 1) := by decide +kernel
theorem dX2_kindOf_19 : decode cX2_kindOf 19 = .ok (.iinc 1 1, 3) := by decide +kernel
theorem dX2_kindOf_22 : decode cX2_kindOf 22 = .ok (.goto (-20), 3) := by decide +kernel
theorem dX2_kindOf_25 : decode cX2_kindOf 25 = .ok (.iconst (-1), 1) := by decide +kernel
theorem dX2_kindOf_26 : decode cX2_kindOf 26 = .ok (.ireturn, 1) := by decide +kernel
end
section
theorem dX3_init_0 : decode cX3_init 0 = .ok (.aload_n 0, 1) := by decide +kernel
theorem dX3_init_1 : decode cX3_init 1 = .ok (.invokespecial 3, 3) := by decide +kernel
theorem dX3_init_4 : decode cX3_init 4 = .ok (.aload_n 0, 1) := by decide +kernel
theorem dX3_init_5 : decode cX3_init 5 = .ok (.bipush 60, 2) := by decide +kernel
theorem dX3_init_7 : decode cX3_init 7 = .ok (.newarray .byte, 2) := by decide +kernel
theorem dX3_init_9 : decode cX3_init 9 = .ok (.putfield 11, 3) := by decide +kernel
theorem dX3_init_12 : decode cX3_init 12 = .ok (.return_, 1) := by decide +kernel
theorem dX3_hasRoom_0 : decode cX3_hasRoom 0 = .ok (.aload_n 0, 1) := by decide +kernel
theorem dX3_hasRoom_1 : decode cX3_hasRoom 1 = .ok (.getfield 15, 3) := by decide +kernel
theorem dX3_hasRoom_4 : decode cX3_hasRoom 4 = .ok (.bipush 20, 2) := by decide +kernel
theorem dX3_hasRoom_6 : decode cX3_hasRoom 6 = .ok (.iadd, 1) := by decide +kernel
theorem dX3_hasRoom_7 : decode cX3_hasRoom 7 = .ok (.bipush 60, 2) := by decide +kernel
theorem dX3_hasRoom_9 : decode cX3_hasRoom 9 = .ok (.if_icmp .gt 7, 3) := by decide +kernel
theorem dX3_hasRoom_12 : decode cX3_hasRoom 12 = .ok (.iconst 1, 1) := by decide +kernel
theorem dX3_hasRoom_13 : decode cX3_hasRoom 13 = .ok (.goto 4, 3) := by decide +kernel
theorem dX3_hasRoom_16 : decode cX3_hasRoom 16 = .ok (.iconst 0, 1) := by decide +kernel
theorem dX3_hasRoom_17 : decode cX3_hasRoom 17 = .ok (.ireturn, 1) := by decide +kernel
theorem dX3_append_0 : decode cX3_append 0 = .ok (.bipush 24, 2) := by decide +kernel
theorem dX3_append_2 : decode cX3_append 2 = .ok (.istore_n 2, 1) := by decide +kernel
theorem dX3_append_3 : decode cX3_append 3 = .ok (.iload_n 2, 1) := by decide +kernel
theorem dX3_append_4 : decode cX3_append 4 = .ok (.ifCond .lt 41, 3) := by decide +kernel
theorem dX3_append_7 : decode cX3_append 7 = .ok (.aload_n 0, 1) := by decide +kernel
theorem dX3_append_8 : decode cX3_append 8 = .ok (.getfield 15, 3) := by decide +kernel
theorem dX3_append_11 : decode cX3_append 11 = .ok (.bipush 60, 2) := by decide +kernel
theorem dX3_append_13 : decode cX3_append 13 = .ok (.if_icmp .ge 32, 3) := by decide +kernel
theorem dX3_append_16 : decode cX3_append 16 = .ok (.aload_n 0, 1) := by decide +kernel
theorem dX3_append_17 : decode cX3_append 17 = .ok (.getfield 11, 3) := by decide +kernel
theorem dX3_append_20 : decode cX3_append 20 = .ok (.aload_n 0, 1) := by decide +kernel
theorem dX3_append_21 : decode cX3_append 21 = .ok (.getfield 15, 3) := by decide +kernel
theorem dX3_append_24 : decode cX3_append 24 = .ok (.iload_n 1, 1) := by decide +kernel
theorem dX3_append_25 : decode cX3_append 25 = .ok (.iload_n 2, 1) := by decide +kernel
theorem dX3_append_26 : decode cX3_append 26 = .ok (.ishr, 1) := by decide +kernel
theorem dX3_append_27 : decode cX3_append 27 = .ok (.i2b, 1) := by decide +kernel
theorem dX3_append_28 : decode cX3_append 28 = .ok (.bastore, 1) := by decide +kernel
theorem dX3_append_29 : decode cX3_append 29 = .ok (.aload_n 0, 1) := by decide +kernel
theorem dX3_append_30 : decode cX3_append 30 = .ok (.dup, 1) := by decide +kernel
theorem dX3_append_31 : decode cX3_append 31 = .ok (.getfield 15, 3) := by decide +kernel
theorem dX3_append_34 : decode cX3_append 34 = .ok (.iconst 1, 1) := by decide +kernel
theorem dX3_append_35 : decode cX3_append 35 = .ok (.iadd, 1) := by decide +kernel
theorem dX3_append_36 : decode cX3_append 36 = .ok (.putfield 15, 3) := by decide +kernel
theorem dX3_append_39 : decode cX3_append 39 = .ok (.iinc 2 (-8), 3) := by decide +kernel
theorem dX3_append_42 : decode cX3_append 42 = .ok (.goto (-39), 3) := by decide +kernel
theorem dX3_append_45 : decode cX3_append 45 = .ok (.return_, 1) := by decide +kernel
theorem dX3_signAt_0 : decode cX3_signAt 0 = .ok (.iload_n 1, 1) := by decide +kernel
theorem dX3_signAt_1 : decode cX3_signAt 1 = .ok (.ifCond .lt 27, 3) := by decide +kernel
theorem dX3_signAt_4 : decode cX3_signAt 4 = .ok (.iload_n 1, 1) := by decide +kernel
theorem dX3_signAt_5 : decode cX3_signAt 5 = .ok (.iload_n 2, 1) := by decide +kernel
theorem dX3_signAt_6 : decode cX3_signAt 6 = .ok (.if_icmp .ge 22, 3) := by decide +kernel
theorem dX3_signAt_9 : decode cX3_signAt 9 = .ok (.iload_n 1, 1) := by decide +kernel
theorem dX3_signAt_10 : decode cX3_signAt 10 = .ok (.bipush 60, 2) := by decide +kernel
theorem dX3_signAt_12 : decode cX3_signAt 12 = .ok (.if_icmp .ge 16, 3) := by decide +kernel
theorem dX3_signAt_15 : decode cX3_signAt 15 = .ok (.aload_n 0, 1) := by decide +kernel
theorem dX3_signAt_16 : decode cX3_signAt 16 = .ok (.getfield 11, 3) := by decide +kernel
theorem dX3_signAt_19 : decode cX3_signAt 19 = .ok (.iload_n 1, 1) := by decide +kernel
theorem dX3_signAt_20 : decode cX3_signAt 20 = .ok (.baload, 1) := by decide +kernel
theorem dX3_signAt_21 : decode cX3_signAt 21 = .ok (.sipush 255, 3) := by decide +kernel
theorem dX3_signAt_24 : decode cX3_signAt 24 = .ok (.iand, 1) := by decide +kernel
theorem dX3_signAt_25 : decode cX3_signAt 25 = .ok (.goto 4, 3) := by decide +kernel
theorem dX3_signAt_28 : decode cX3_signAt 28 = .ok (.iconst (-1), 1) := by decide +kernel
theorem dX3_signAt_29 : decode cX3_signAt 29 = .ok (.ireturn, 1) := by decide +kernel
theorem dX4_init_0 : decode cX4_init 0 = .ok (.aload_n 0, 1) := by decide +kernel
theorem dX4_init_1 : decode cX4_init 1 = .ok (.invokespecial 3, 3) := by decide +kernel
theorem dX4_init_4 : decode cX4_init 4 = .ok (.aload_n 0, 1) := by decide +kernel
theorem dX4_init_5 : decode cX4_init 5 = .ok (.bipush 6, 2) := by decide +kernel
theorem dX4_init_7 : decode cX4_init 7 = .ok (.newarray .int, 2) := by decide +kernel
theorem dX4_init_9 : decode cX4_init 9 = .ok (.putfield 9, 3) := by decide +kernel
theorem dX4_init_12 : decode cX4_init 12 = .ok (.aload_n 0, 1) := by decide +kernel
theorem dX4_init_13 : decode cX4_init 13 = .ok (.iload_n 1, 1) := by decide +kernel
theorem dX4_init_14 : decode cX4_init 14 = .ok (.putfield 15, 3) := by decide +kernel
theorem dX4_init_17 : decode cX4_init 17 = .ok (.aload_n 0, 1) := by decide +kernel
theorem dX4_init_18 : decode cX4_init 18 = .ok (.iload_n 2, 1) := by decide +kernel
theorem dX4_init_19 : decode cX4_init 19 = .ok (.putfield 19, 3) := by decide +kernel
theorem dX4_init_22 : decode cX4_init 22 = .ok (.aload_n 0, 1) := by decide +kernel
theorem dX4_init_23 : decode cX4_init 23 = .ok (.iload_n 3, 1) := by decide +kernel
theorem dX4_init_24 : decode cX4_init 24 = .ok (.putfield 22, 3) := by decide +kernel
theorem dX4_init_27 : decode cX4_init 27 = .ok (.aload_n 0, 1) := by decide +kernel
theorem dX4_init_28 : decode cX4_init 28 = .ok (.getfield 9, 3) := by decide +kernel
theorem dX4_init_31 : decode cX4_init 31 = .ok (.bipush 30, 2) := by decide +kernel
theorem dX4_init_33 : decode cX4_init 33 = .ok (.invokestatic 25, 3) := by decide +kernel
theorem dX4_init_36 : decode cX4_init 36 = .ok (.aload_n 0, 1) := by decide +kernel
theorem dX4_init_37 : decode cX4_init 37 = .ok (.invokevirtual 31, 3) := by decide +kernel
theorem dX4_init_40 : decode cX4_init 40 = .ok (.return_, 1) := by decide +kernel
theorem dX4_startDay_0 : decode cX4_startDay 0 = .ok (.aload_n 0, 1) := by decide +kernel
theorem dX4_startDay_1 : decode cX4_startDay 1 = .ok (.iconst 0, 1) := by decide +kernel
theorem dX4_startDay_2 : decode cX4_startDay 2 = .ok (.putfield 34, 3) := by decide +kernel
theorem dX4_startDay_5 : decode cX4_startDay 5 = .ok (.aload_n 0, 1) := by decide +kernel
theorem dX4_startDay_6 : decode cX4_startDay 6 = .ok (.iconst (-1), 1) := by decide +kernel
theorem dX4_startDay_7 : decode cX4_startDay 7 = .ok (.putfield 37, 3) := by decide +kernel
theorem dX4_startDay_10 : decode cX4_startDay 10 = .ok (.aload_n 0, 1) := by decide +kernel
theorem dX4_startDay_11 : decode cX4_startDay 11 = .ok (.iconst 0, 1) := by decide +kernel
theorem dX4_startDay_12 : decode cX4_startDay 12 = .ok (.putfield 40, 3) := by decide +kernel
theorem dX4_startDay_15 : decode cX4_startDay 15 = .ok (.return_, 1) := by decide +kernel
theorem dX4_minutesTo_0 : decode cX4_minutesTo 0 = .ok (.iload_n 1, 1) := by decide +kernel
theorem dX4_minutesTo_1 : decode cX4_minutesTo 1 = .ok (.ifCond .lt 18, 3) := by decide +kernel
theorem dX4_minutesTo_4 : decode cX4_minutesTo 4 = .ok (.iload_n 1, 1) := by decide +kernel
theorem dX4_minutesTo_5 : decode cX4_minutesTo 5 = .ok (.bipush 6, 2) := by decide +kernel
theorem dX4_minutesTo_7 : decode cX4_minutesTo 7 = .ok (.if_icmp .ge 12, 3) := by decide +kernel
theorem dX4_minutesTo_10 : decode cX4_minutesTo 10 = .ok (.aload_n 0, 1) := by decide +kernel
theorem dX4_minutesTo_11 : decode cX4_minutesTo 11 = .ok (.getfield 9, 3) := by decide +kernel
theorem dX4_minutesTo_14 : decode cX4_minutesTo 14 = .ok (.iload_n 1, 1) := by decide +kernel
theorem dX4_minutesTo_15 : decode cX4_minutesTo 15 = .ok (.iaload, 1) := by decide +kernel
theorem dX4_minutesTo_16 : decode cX4_minutesTo 16 = .ok (.goto 4, 3) := by decide +kernel
theorem dX4_minutesTo_19 : decode cX4_minutesTo 19 = .ok (.iconst (-1), 1) := by decide +kernel
theorem dX4_minutesTo_20 : decode cX4_minutesTo 20 = .ok (.ireturn, 1) := by decide +kernel
theorem dX4_fills_0 : decode cX4_fills 0 = .ok (.aload_n 0, 1) := by decide +kernel
theorem dX4_fills_1 : decode cX4_fills 1 = .ok (.getfield 19, 3) := by decide +kernel
theorem dX4_fills_4 : decode cX4_fills 4 = .ok (.aload_n 1, 1) := by decide +kernel
theorem dX4_fills_5 : decode cX4_fills 5 = .ok (.getfield 43, 3) := by decide +kernel
theorem dX4_fills_8 : decode cX4_fills 8 = .ok (.invokestatic 48, 3) := by decide +kernel
theorem dX4_fills_11 : decode cX4_fills 11 = .ok (.ifCond .eq 45, 3) := by decide +kernel
theorem dX4_fills_14 : decode cX4_fills 14 = .ok (.aload_n 0, 1) := by decide +kernel
theorem dX4_fills_15 : decode cX4_fills 15 = .ok (.getfield 52, 3) := by decide +kernel
theorem dX4_fills_18 : decode cX4_fills 18 = .ok (.aload_n 1, 1) := by decide +kernel
theorem dX4_fills_19 : decode cX4_fills 19 = .ok (.getfield 55, 3) := by decide +kernel
theorem dX4_fills_22 : decode cX4_fills 22 = .ok (.invokestatic 48, 3) := by decide +kernel
theorem dX4_fills_25 : decode cX4_fills 25 = .ok (.ifCond .ne 31, 3) := by decide +kernel
theorem dX4_fills_28 : decode cX4_fills 28 = .ok (.aload_n 0, 1) := by decide +kernel
theorem dX4_fills_29 : decode cX4_fills 29 = .ok (.aload_n 1, 1) := by decide +kernel
theorem dX4_fills_30 : decode cX4_fills 30 = .ok (.getfield 55, 3) := by decide +kernel
theorem dX4_fills_33 : decode cX4_fills 33 = .ok (.invokevirtual 58, 3) := by decide +kernel
theorem dX4_fills_36 : decode cX4_fills 36 = .ok (.aload_n 2, 1) := by decide +kernel
theorem dX4_fills_37 : decode cX4_fills 37 = .ok (.iconst 0, 1) := by decide +kernel
theorem dX4_fills_38 : decode cX4_fills 38 = .ok (.invokevirtual 64, 3) := by decide +kernel
theorem dX4_fills_41 : decode cX4_fills 41 = .ok (.if_icmp .gt 15, 3) := by decide +kernel
theorem dX4_fills_44 : decode cX4_fills 44 = .ok (.aload_n 0, 1) := by decide +kernel
theorem dX4_fills_45 : decode cX4_fills 45 = .ok (.getfield 22, 3) := by decide +kernel
theorem dX4_fills_48 : decode cX4_fills 48 = .ok (.iload_n 3, 1) := by decide +kernel
theorem dX4_fills_49 : decode cX4_fills 49 = .ok (.if_icmp .lt 7, 3) := by decide +kernel
theorem dX4_fills_52 : decode cX4_fills 52 = .ok (.iconst 1, 1) := by decide +kernel
theorem dX4_fills_53 : decode cX4_fills 53 = .ok (.goto 4, 3) := by decide +kernel
theorem dX4_fills_56 : decode cX4_fills 56 = .ok (.iconst 0, 1) := by decide +kernel
theorem dX4_fills_57 : decode cX4_fills 57 = .ok (.ireturn, 1) := by decide +kernel
theorem dX4_costFor_0 : decode cX4_costFor 0 = .ok (.aload_n 0, 1) := by decide +kernel
theorem dX4_costFor_1 : decode cX4_costFor 1 = .ok (.aload_n 1, 1) := by decide +kernel
theorem dX4_costFor_2 : decode cX4_costFor 2 = .ok (.getfield 55, 3) := by decide +kernel
theorem dX4_costFor_5 : decode cX4_costFor 5 = .ok (.invokevirtual 58, 3) := by decide +kernel
theorem dX4_costFor_8 : decode cX4_costFor 8 = .ok (.aload_n 0, 1) := by decide +kernel
theorem dX4_costFor_9 : decode cX4_costFor 9 = .ok (.getfield 67, 3) := by decide +kernel
theorem dX4_costFor_12 : decode cX4_costFor 12 = .ok (.aload_n 2, 1) := by decide +kernel
theorem dX4_costFor_13 : decode cX4_costFor 13 = .ok (.iconst 2, 1) := by decide +kernel
theorem dX4_costFor_14 : decode cX4_costFor 14 = .ok (.invokevirtual 64, 3) := by decide +kernel
theorem dX4_costFor_17 : decode cX4_costFor 17 = .ok (.imul, 1) := by decide +kernel
theorem dX4_costFor_18 : decode cX4_costFor 18 = .ok (.iadd, 1) := by decide +kernel
theorem dX4_costFor_19 : decode cX4_costFor 19 = .ok (.istore_n 3, 1) := by decide +kernel
theorem dX4_costFor_20 : decode cX4_costFor 20 = .ok (.aload_n 0, 1) := by decide +kernel
theorem dX4_costFor_21 : decode cX4_costFor 21 = .ok (.getfield 15, 3) := by decide +kernel
theorem dX4_costFor_24 : decode cX4_costFor 24 = .ok (.aload_n 1, 1) := by decide +kernel
theorem dX4_costFor_25 : decode cX4_costFor 25 = .ok (.getfield 70, 3) := by decide +kernel
theorem dX4_costFor_28 : decode cX4_costFor 28 = .ok (.invokestatic 48, 3) := by decide +kernel
theorem dX4_costFor_31 : decode cX4_costFor 31 = .ok (.ifCond .ne 11, 3) := by decide +kernel
theorem dX4_costFor_34 : decode cX4_costFor 34 = .ok (.iload_n 3, 1) := by decide +kernel
theorem dX4_costFor_35 : decode cX4_costFor 35 = .ok (.aload_n 2, 1) := by decide +kernel
theorem dX4_costFor_36 : decode cX4_costFor 36 = .ok (.iconst 1, 1) := by decide +kernel
theorem dX4_costFor_37 : decode cX4_costFor 37 = .ok (.invokevirtual 64, 3) := by decide +kernel
theorem dX4_costFor_40 : decode cX4_costFor 40 = .ok (.iadd, 1) := by decide +kernel
theorem dX4_costFor_41 : decode cX4_costFor 41 = .ok (.istore_n 3, 1) := by decide +kernel
theorem dX4_costFor_42 : decode cX4_costFor 42 = .ok (.aload_n 0, 1) := by decide +kernel
theorem dX4_costFor_43 : decode cX4_costFor 43 = .ok (.getfield 73, 3) := by decide +kernel
theorem dX4_costFor_46 : decode cX4_costFor 46 = .ok (.aload_n 1, 1) := by decide +kernel
theorem dX4_costFor_47 : decode cX4_costFor 47 = .ok (.getfield 55, 3) := by decide +kernel
theorem dX4_costFor_50 : decode cX4_costFor 50 = .ok (.invokestatic 48, 3) := by decide +kernel
theorem dX4_costFor_53 : decode cX4_costFor 53 = .ok (.ifCond .eq 11, 3) := by decide +kernel
theorem dX4_costFor_56 : decode cX4_costFor 56 = .ok (.iload_n 3, 1) := by decide +kernel
theorem dX4_costFor_57 : decode cX4_costFor 57 = .ok (.aload_n 2, 1) := by decide +kernel
theorem dX4_costFor_58 : decode cX4_costFor 58 = .ok (.iconst 3, 1) := by decide +kernel
theorem dX4_costFor_59 : decode cX4_costFor 59 = .ok (.invokevirtual 64, 3) := by decide +kernel
theorem dX4_costFor_62 : decode cX4_costFor 62 = .ok (.isub, 1) := by decide +kernel
theorem dX4_costFor_63 : decode cX4_costFor 63 = .ok (.istore_n 3, 1) := by decide +kernel
theorem dX4_costFor_64 : decode cX4_costFor 64 = .ok (.iload_n 3, 1) := by decide +kernel
theorem dX4_costFor_65 : decode cX4_costFor 65 = .ok (.iconst 0, 1) := by decide +kernel
theorem dX4_costFor_66 : decode cX4_costFor 66 = .ok (.invokestatic 76, 3) := by decide +kernel
theorem dX4_costFor_69 : decode cX4_costFor 69 = .ok (.ireturn, 1) := by decide +kernel
theorem dX4_takeAnswer_0 : decode cX4_takeAnswer 0 = .ok (.iload_n 1, 1) := by decide +kernel
theorem dX4_takeAnswer_1 : decode cX4_takeAnswer 1 = .ok (.ifCond .ne 14, 3) := by decide +kernel
theorem dX4_takeAnswer_4 : decode cX4_takeAnswer 4 = .ok (.aload_n 0, 1) := by decide +kernel
theorem dX4_takeAnswer_5 : decode cX4_takeAnswer 5 = .ok (.iconst 1, 1) := by decide +kernel
theorem dX4_takeAnswer_6 : decode cX4_takeAnswer 6 = .ok (.putfield 34, 3) := by decide +kernel
theorem dX4_takeAnswer_9 : decode cX4_takeAnswer 9 = .ok (.aload_n 0, 1) := by decide +kernel
theorem dX4_takeAnswer_10 : decode cX4_takeAnswer 10 = .ok (.iload_n 2, 1) := by decide +kernel
theorem dX4_takeAnswer_11 : decode cX4_takeAnswer 11 = .ok (.putfield 37, 3) := by decide +kernel
theorem dX4_takeAnswer_14 : decode cX4_takeAnswer 14 = .ok (.return_, 1) := by decide +kernel
theorem dX4_takeAnswer_15 : decode cX4_takeAnswer 15 = .ok (.iload_n 1, 1) := by decide +kernel
theorem dX4_takeAnswer_16 : decode cX4_takeAnswer 16 = .ok (.iconst 2, 1) := by decide +kernel
theorem dX4_takeAnswer_17 : decode cX4_takeAnswer 17 = .ok (.if_icmp .ne 13, 3) := by decide +kernel
theorem dX4_takeAnswer_20 : decode cX4_takeAnswer 20 = .ok (.aload_n 0, 1) := by decide +kernel
theorem dX4_takeAnswer_21 : decode cX4_takeAnswer 21 = .ok (.dup, 1) := by decide +kernel
theorem dX4_takeAnswer_22 : decode cX4_takeAnswer 22 = .ok (.getfield 40, 3) := by decide +kernel
theorem dX4_takeAnswer_25 : decode cX4_takeAnswer 25 = .ok (.iconst 1, 1) := by decide +kernel
theorem dX4_takeAnswer_26 : decode cX4_takeAnswer 26 = .ok (.iadd, 1) := by decide +kernel
theorem dX4_takeAnswer_27 : decode cX4_takeAnswer 27 = .ok (.putfield 40, 3) := by decide +kernel
theorem dX4_takeAnswer_30 : decode cX4_takeAnswer 30 = .ok (.iload_n 1, 1) := by decide +kernel
theorem dX4_takeAnswer_31 : decode cX4_takeAnswer 31 = .ok (.iconst 1, 1) := by decide +kernel
theorem dX4_takeAnswer_32 : decode cX4_takeAnswer 32 = .ok (.if_icmp .eq 11, 3) := by decide +kernel
theorem dX4_takeAnswer_35 : decode cX4_takeAnswer 35 = .ok (.aload_n 0, 1) := by decide +kernel
theorem dX4_takeAnswer_36 : decode cX4_takeAnswer 36 = .ok (.getfield 40, 3) := by decide +kernel
theorem dX4_takeAnswer_39 : decode cX4_takeAnswer 39 = .ok (.iload_n 3, 1) := by decide +kernel
theorem dX4_takeAnswer_40 : decode cX4_takeAnswer 40 = .ok (.if_icmp .lt 8, 3) := by decide +kernel
theorem dX4_takeAnswer_43 : decode cX4_takeAnswer 43 = .ok (.aload_n 0, 1) := by decide +kernel
theorem dX4_takeAnswer_44 : decode cX4_takeAnswer 44 = .ok (.iconst 2, 1) := by decide +kernel
theorem dX4_takeAnswer_45 : decode cX4_takeAnswer 45 = .ok (.putfield 34, 3) := by decide +kernel
theorem dX4_takeAnswer_48 : decode cX4_takeAnswer 48 = .ok (.return_, 1) := by decide +kernel
theorem dX4_workAt_0 : decode cX4_workAt 0 = .ok (.aload_n 2, 1) := by decide +kernel
theorem dX4_workAt_1 : decode cX4_workAt 1 = .ok (.iconst 4, 1) := by decide +kernel
theorem dX4_workAt_2 : decode cX4_workAt 2 = .ok (.invokevirtual 64, 3) := by decide +kernel
theorem dX4_workAt_5 : decode cX4_workAt 5 = .ok (.istore_n 3, 1) := by decide +kernel
theorem dX4_workAt_6 : decode cX4_workAt 6 = .ok (.aload_n 0, 1) := by decide +kernel
theorem dX4_workAt_7 : decode cX4_workAt 7 = .ok (.getfield 15, 3) := by decide +kernel
theorem dX4_workAt_10 : decode cX4_workAt 10 = .ok (.aload_n 1, 1) := by decide +kernel
theorem dX4_workAt_11 : decode cX4_workAt 11 = .ok (.getfield 70, 3) := by decide +kernel
theorem dX4_workAt_14 : decode cX4_workAt 14 = .ok (.invokestatic 48, 3) := by decide +kernel
theorem dX4_workAt_17 : decode cX4_workAt 17 = .ok (.ifCond .eq 11, 3) := by decide +kernel
theorem dX4_workAt_20 : decode cX4_workAt 20 = .ok (.iload_n 3, 1) := by decide +kernel
theorem dX4_workAt_21 : decode cX4_workAt 21 = .ok (.aload_n 2, 1) := by decide +kernel
theorem dX4_workAt_22 : decode cX4_workAt 22 = .ok (.iconst 5, 1) := by decide +kernel
theorem dX4_workAt_23 : decode cX4_workAt 23 = .ok (.invokevirtual 64, 3) := by decide +kernel
theorem dX4_workAt_26 : decode cX4_workAt 26 = .ok (.iadd, 1) := by decide +kernel
theorem dX4_workAt_27 : decode cX4_workAt 27 = .ok (.istore_n 3, 1) := by decide +kernel
theorem dX4_workAt_28 : decode cX4_workAt 28 = .ok (.aload_n 0, 1) := by decide +kernel
theorem dX4_workAt_29 : decode cX4_workAt 29 = .ok (.dup, 1) := by decide +kernel
theorem dX4_workAt_30 : decode cX4_workAt 30 = .ok (.getfield 67, 3) := by decide +kernel
theorem dX4_workAt_33 : decode cX4_workAt 33 = .ok (.iconst 1, 1) := by decide +kernel
theorem dX4_workAt_34 : decode cX4_workAt 34 = .ok (.iadd, 1) := by decide +kernel
theorem dX4_workAt_35 : decode cX4_workAt 35 = .ok (.putfield 67, 3) := by decide +kernel
theorem dX4_workAt_38 : decode cX4_workAt 38 = .ok (.aload_n 0, 1) := by decide +kernel
theorem dX4_workAt_39 : decode cX4_workAt 39 = .ok (.dup, 1) := by decide +kernel
theorem dX4_workAt_40 : decode cX4_workAt 40 = .ok (.getfield 82, 3) := by decide +kernel
theorem dX4_workAt_43 : decode cX4_workAt 43 = .ok (.iload_n 3, 1) := by decide +kernel
theorem dX4_workAt_44 : decode cX4_workAt 44 = .ok (.i2l, 1) := by decide +kernel
theorem dX4_workAt_45 : decode cX4_workAt 45 = .ok (.aload_n 1, 1) := by decide +kernel
theorem dX4_workAt_46 : decode cX4_workAt 46 = .ok (.getfield 86, 3) := by decide +kernel
theorem dX4_workAt_49 : decode cX4_workAt 49 = .ok (.i2l, 1) := by decide +kernel
theorem dX4_workAt_50 : decode cX4_workAt 50 = .ok (.lmul, 1) := by decide +kernel
theorem dX4_workAt_51 : decode cX4_workAt 51 = .ok (.ladd, 1) := by decide +kernel
theorem dX4_workAt_52 : decode cX4_workAt 52 = .ok (.putfield 82, 3) := by decide +kernel
theorem dX4_workAt_55 : decode cX4_workAt 55 = .ok (.return_, 1) := by decide +kernel
theorem dX5_init_0 : decode cX5_init 0 = .ok (.aload_n 0, 1) := by decide +kernel
theorem dX5_init_1 : decode cX5_init 1 = .ok (.invokespecial 3, 3) := by decide +kernel
theorem dX5_init_4 : decode cX5_init 4 = .ok (.aload_n 0, 1) := by decide +kernel
theorem dX5_init_5 : decode cX5_init 5 = .ok (.sipush 400, 3) := by decide +kernel
theorem dX5_init_8 : decode cX5_init 8 = .ok (.newarray .byte, 2) := by decide +kernel
theorem dX5_init_10 : decode cX5_init 10 = .ok (.putfield 11, 3) := by decide +kernel
theorem dX5_init_13 : decode cX5_init 13 = .ok (.aload_n 0, 1) := by decide +kernel
theorem dX5_init_14 : decode cX5_init 14 = .ok (.sipush 400, 3) := by decide +kernel
theorem dX5_init_17 : decode cX5_init 17 = .ok (.newarray .byte, 2) := by decide +kernel
theorem dX5_init_19 : decode cX5_init 19 = .ok (.putfield 15, 3) := by decide +kernel
theorem dX5_init_22 : decode cX5_init 22 = .ok (.aload_n 0, 1) := by decide +kernel
theorem dX5_init_23 : decode cX5_init 23 = .ok (.sipush 400, 3) := by decide +kernel
theorem dX5_init_26 : decode cX5_init 26 = .ok (.newarray .short, 2) := by decide +kernel
theorem dX5_init_28 : decode cX5_init 28 = .ok (.putfield 18, 3) := by decide +kernel
theorem dX5_init_31 : decode cX5_init 31 = .ok (.return_, 1) := by decide +kernel
theorem dX5_keep_0 : decode cX5_keep 0 = .ok (.aload_n 0, 1) := by decide +kernel
theorem dX5_keep_1 : decode cX5_keep 1 = .ok (.getfield 22, 3) := by decide +kernel
theorem dX5_keep_4 : decode cX5_keep 4 = .ok (.ifCond .lt 13, 3) := by decide +kernel
theorem dX5_keep_7 : decode cX5_keep 7 = .ok (.aload_n 0, 1) := by decide +kernel
theorem dX5_keep_8 : decode cX5_keep 8 = .ok (.getfield 22, 3) := by decide +kernel
theorem dX5_keep_11 : decode cX5_keep 11 = .ok (.sipush 400, 3) := by decide +kernel
theorem dX5_keep_14 : decode cX5_keep 14 = .ok (.if_icmp .lt 8, 3) := by decide +kernel
theorem dX5_keep_17 : decode cX5_keep 17 = .ok (.aload_n 0, 1) := by decide +kernel
theorem dX5_keep_18 : decode cX5_keep 18 = .ok (.iconst 0, 1) := by decide +kernel
theorem dX5_keep_19 : decode cX5_keep 19 = .ok (.putfield 22, 3) := by decide +kernel
theorem dX5_keep_22 : decode cX5_keep 22 = .ok (.aload_n 0, 1) := by decide +kernel
theorem dX5_keep_23 : decode cX5_keep 23 = .ok (.getfield 11, 3) := by decide +kernel
theorem dX5_keep_26 : decode cX5_keep 26 = .ok (.aload_n 0, 1) := by decide +kernel
theorem dX5_keep_27 : decode cX5_keep 27 = .ok (.getfield 22, 3) := by decide +kernel
theorem dX5_keep_30 : decode cX5_keep 30 = .ok (.iload_n 1, 1) := by decide +kernel
theorem dX5_keep_31 : decode cX5_keep 31 = .ok (.i2b, 1) := by decide +kernel
theorem dX5_keep_32 : decode cX5_keep 32 = .ok (.bastore, 1) := by decide +kernel
theorem dX5_keep_33 : decode cX5_keep 33 = .ok (.aload_n 0, 1) := by decide +kernel
theorem dX5_keep_34 : decode cX5_keep 34 = .ok (.getfield 15, 3) := by decide +kernel
theorem dX5_keep_37 : decode cX5_keep 37 = .ok (.aload_n 0, 1) := by decide +kernel
theorem dX5_keep_38 : decode cX5_keep 38 = .ok (.getfield 22, 3) := by decide +kernel
theorem dX5_keep_41 : decode cX5_keep 41 = .ok (.aload_n 2, 1) := by decide +kernel
theorem dX5_keep_42 : decode cX5_keep 42 = .ok (.getfield 26, 3) := by decide +kernel
theorem dX5_keep_45 : decode cX5_keep 45 = .ok (.aload_n 2, 1) := by decide +kernel
theorem dX5_keep_46 : decode cX5_keep 46 = .ok (.getfield 31, 3) := by decide +kernel
theorem dX5_keep_49 : decode cX5_keep 49 = .ok (.invokestatic 34, 3) := by decide +kernel
theorem dX5_keep_52 : decode cX5_keep 52 = .ok (.i2b, 1) := by decide +kernel
theorem dX5_keep_53 : decode cX5_keep 53 = .ok (.bastore, 1) := by decide +kernel
theorem dX5_keep_54 : decode cX5_keep 54 = .ok (.aload_n 0, 1) := by decide +kernel
theorem dX5_keep_55 : decode cX5_keep 55 = .ok (.getfield 18, 3) := by decide +kernel
theorem dX5_keep_58 : decode cX5_keep 58 = .ok (.aload_n 0, 1) := by decide +kernel
theorem dX5_keep_59 : decode cX5_keep 59 = .ok (.getfield 22, 3) := by decide +kernel
theorem dX5_keep_62 : decode cX5_keep 62 = .ok (.iload_n 3, 1) := by decide +kernel
theorem dX5_keep_63 : decode cX5_keep 63 = .ok (.i2s, 1) := by decide +kernel
theorem dX5_keep_64 : decode cX5_keep 64 = .ok (.sastore, 1) := by decide +kernel
theorem dX5_keep_65 : decode cX5_keep 65 = .ok (.aload_n 0, 1) := by decide +kernel
theorem dX5_keep_66 : decode cX5_keep 66 = .ok (.dup, 1) := by decide +kernel
theorem dX5_keep_67 : decode cX5_keep 67 = .ok (.getfield 22, 3) := by decide +kernel
theorem dX5_keep_70 : decode cX5_keep 70 = .ok (.iconst 1, 1) := by decide +kernel
theorem dX5_keep_71 : decode cX5_keep 71 = .ok (.iadd, 1) := by decide +kernel
theorem dX5_keep_72 : decode cX5_keep 72 = .ok (.putfield 22, 3) := by decide +kernel
theorem dX5_keep_75 : decode cX5_keep 75 = .ok (.aload_n 0, 1) := by decide +kernel
theorem dX5_keep_76 : decode cX5_keep 76 = .ok (.aload_n 0, 1) := by decide +kernel
theorem dX5_keep_77 : decode cX5_keep 77 = .ok (.getfield 38, 3) := by decide +kernel
theorem dX5_keep_80 : decode cX5_keep 80 = .ok (.iconst 1, 1) := by decide +kernel
theorem dX5_keep_81 : decode cX5_keep 81 = .ok (.iadd, 1) := by decide +kernel
theorem dX5_keep_82 : decode cX5_keep 82 = .ok (.sipush 400, 3) := by decide +kernel
theorem dX5_keep_85 : decode cX5_keep 85 = .ok (.invokestatic 41, 3) := by decide +kernel
theorem dX5_keep_88 : decode cX5_keep 88 = .ok (.putfield 38, 3) := by decide +kernel
theorem dX5_keep_91 : decode cX5_keep 91 = .ok (.return_, 1) := by decide +kernel
theorem dX5_teachersSeen_0 : decode cX5_teachersSeen 0 = .ok (.iload_n 1, 1) := by decide +kernel
theorem dX5_teachersSeen_1 : decode cX5_teachersSeen 1 = .ok (.iload_n 2, 1) := by decide +kernel
theorem dX5_teachersSeen_2 : decode cX5_teachersSeen 2 = .ok (.invokestatic 34, 3) := by decide +kernel
theorem dX5_teachersSeen_5 : decode cX5_teachersSeen 5 = .ok (.istore 4, 2) := by decide +kernel
theorem dX5_teachersSeen_7 : decode cX5_teachersSeen 7 = .ok (.iconst 0, 1) := by decide +kernel
theorem dX5_teachersSeen_8 : decode cX5_teachersSeen 8 = .ok (.istore 5, 2) := by decide +kernel
theorem dX5_teachersSeen_10 : decode cX5_teachersSeen 10 = .ok (.iconst 0, 1) := by decide +kernel
theorem dX5_teachersSeen_11 : decode cX5_teachersSeen 11 = .ok (.istore 6, 2) := by decide +kernel
theorem dX5_teachersSeen_13 : decode cX5_teachersSeen 13 = .ok (.iload 6, 2) := by decide +kernel
theorem dX5_teachersSeen_15 : decode cX5_teachersSeen 15 = .ok (.aload_n 0, 1) := by decide +kernel
theorem dX5_teachersSeen_16 : decode cX5_teachersSeen 16 = .ok (.getfield 38, 3) := by decide +kernel
theorem dX5_teachersSeen_19 : decode cX5_teachersSeen 19 = .ok (.if_icmp .ge 57, 3) := by decide +kernel
theorem dX5_teachersSeen_22 : decode cX5_teachersSeen 22 = .ok (.iload 6, 2) := by decide +kernel
theorem dX5_teachersSeen_24 : decode cX5_teachersSeen 24 = .ok (.sipush 400, 3) := by decide +kernel
theorem dX5_teachersSeen_27 : decode cX5_teachersSeen 27 = .ok (.if_icmp .ge 49, 3) := by decide +kernel
theorem dX5_teachersSeen_30 : decode cX5_teachersSeen 30 = .ok (.aload_n 0, 1) := by decide +kernel
theorem dX5_teachersSeen_31 : decode cX5_teachersSeen 31 = .ok (.getfield 15, 3) := by decide +kernel
theorem dX5_teachersSeen_34 : decode cX5_teachersSeen 34 = .ok (.iload 6, 2) := by decide +kernel
theorem dX5_teachersSeen_36 : decode cX5_teachersSeen 36 = .ok (.baload, 1) := by decide +kernel
theorem dX5_teachersSeen_37 : decode cX5_teachersSeen 37 = .ok (.iload 4, 2) := by decide +kernel
theorem dX5_teachersSeen_39 : decode cX5_teachersSeen 39 = .ok (.if_icmp .ne 31, 3) := by decide +kernel
theorem dX5_teachersSeen_42 : decode cX5_teachersSeen 42 = .ok (.iload_n 3, 1) := by decide +kernel
theorem dX5_teachersSeen_43 : decode cX5_teachersSeen 43 = .ok (.aload_n 0, 1) := by decide +kernel
theorem dX5_teachersSeen_44 : decode cX5_teachersSeen 44 = .ok (.getfield 18, 3) := by decide +kernel
theorem dX5_teachersSeen_47 : decode cX5_teachersSeen 47 = .ok (.iload 6, 2) := by decide +kernel
theorem dX5_teachersSeen_49 : decode cX5_teachersSeen 49 = .ok (.saload, 1) := by decide +kernel
theorem dX5_teachersSeen_50 : decode cX5_teachersSeen 50 = .ok (.isub, 1) := by decide +kernel
theorem dX5_teachersSeen_51 : decode cX5_teachersSeen 51 = .ok (.bipush 30, 2) := by decide +kernel
theorem dX5_teachersSeen_53 : decode cX5_teachersSeen 53 = .ok (.if_icmp .gt 17, 3) := by decide +kernel
theorem dX5_teachersSeen_56 : decode cX5_teachersSeen 56 = .ok (.iload 5, 2) := by decide +kernel
theorem dX5_teachersSeen_58 : decode cX5_teachersSeen 58 = .ok (.iconst 1, 1) := by decide +kernel
theorem dX5_teachersSeen_59 : decode cX5_teachersSeen 59 = .ok (.aload_n 0, 1) := by decide +kernel
theorem dX5_teachersSeen_60 : decode cX5_teachersSeen 60 = .ok (.getfield 11, 3) := by decide +kernel
theorem dX5_teachersSeen_63 : decode cX5_teachersSeen 63 = .ok (.iload 6, 2) := by decide +kernel
theorem dX5_teachersSeen_65 : decode cX5_teachersSeen 65 = .ok (.baload, 1) := by decide +kernel
theorem dX5_teachersSeen_66 : decode cX5_teachersSeen 66 = .ok (.ishl, 1) := by decide +kernel
theorem dX5_teachersSeen_67 : decode cX5_teachersSeen 67 = .ok (.ior, 1) := by decide +kernel
theorem dX5_teachersSeen_68 : decode cX5_teachersSeen 68 = .ok (.istore 5, 2) := by decide +kernel
theorem dX5_teachersSeen_70 : decode cX5_teachersSeen 70 = .ok (.iinc 6 1, 3) := by decide +kernel
theorem dX5_teachersSeen_73 : decode cX5_teachersSeen 73 = .ok (.goto (-60), 3) := by decide +kernel
theorem dX5_teachersSeen_76 : decode cX5_teachersSeen 76 = .ok (.iload 5, 2) := by decide +kernel
theorem dX5_teachersSeen_78 : decode cX5_teachersSeen 78 = .ok (.invokestatic 46, 3) := by decide +kernel
theorem dX5_teachersSeen_81 : decode cX5_teachersSeen 81 = .ok (.ireturn, 1) := by decide +kernel
theorem dX5_roomOf_0 : decode cX5_roomOf 0 = .ok (.bipush 16, 2) := by decide +kernel
theorem dX5_roomOf_2 : decode cX5_roomOf 2 = .ok (.iload_n 0, 1) := by decide +kernel
theorem dX5_roomOf_3 : decode cX5_roomOf 3 = .ok (.imul, 1) := by decide +kernel
theorem dX5_roomOf_4 : decode cX5_roomOf 4 = .ok (.iload_n 1, 1) := by decide +kernel
theorem dX5_roomOf_5 : decode cX5_roomOf 5 = .ok (.iadd, 1) := by decide +kernel
theorem dX5_roomOf_6 : decode cX5_roomOf 6 = .ok (.ireturn, 1) := by decide +kernel
theorem dJ6_bitCount_0f7a4_0 : decode cJ6_bitCount_0f7a4 0 = .ok (.iload_n 0, 1) := by decide +kernel
theorem dJ6_bitCount_0f7a4_1 : decode cJ6_bitCount_0f7a4 1 = .ok (.iload_n 0, 1) := by decide +kernel
theorem dJ6_bitCount_0f7a4_2 : decode cJ6_bitCount_0f7a4 2 = .ok (.iconst 1, 1) := by decide +kernel
theorem dJ6_bitCount_0f7a4_3 : decode cJ6_bitCount_0f7a4 3 = .ok (.iushr, 1) := by decide +kernel
theorem dJ6_bitCount_0f7a4_4 : decode cJ6_bitCount_0f7a4 4 = .ok (.ldc_w 265, 3) := by decide +kernel
theorem dJ6_bitCount_0f7a4_7 : decode cJ6_bitCount_0f7a4 7 = .ok (.iand, 1) := by decide +kernel
theorem dJ6_bitCount_0f7a4_8 : decode cJ6_bitCount_0f7a4 8 = .ok (.isub, 1) := by decide +kernel
theorem dJ6_bitCount_0f7a4_9 : decode cJ6_bitCount_0f7a4 9 = .ok (.istore_n 0, 1) := by decide +kernel
theorem dJ6_bitCount_0f7a4_10 : decode cJ6_bitCount_0f7a4 10 = .ok (.iload_n 0, 1) := by decide +kernel
theorem dJ6_bitCount_0f7a4_11 : decode cJ6_bitCount_0f7a4 11 = .ok (.ldc_w 266, 3) := by decide +kernel
theorem dJ6_bitCount_0f7a4_14 : decode cJ6_bitCount_0f7a4 14 = .ok (.iand, 1) := by decide +kernel
theorem dJ6_bitCount_0f7a4_15 : decode cJ6_bitCount_0f7a4 15 = .ok (.iload_n 0, 1) := by decide +kernel
theorem dJ6_bitCount_0f7a4_16 : decode cJ6_bitCount_0f7a4 16 = .ok (.iconst 2, 1) := by decide +kernel
theorem dJ6_bitCount_0f7a4_17 : decode cJ6_bitCount_0f7a4 17 = .ok (.iushr, 1) := by decide +kernel
theorem dJ6_bitCount_0f7a4_18 : decode cJ6_bitCount_0f7a4 18 = .ok (.ldc_w 266, 3) := by decide +kernel
theorem dJ6_bitCount_0f7a4_21 : decode cJ6_bitCount_0f7a4 21 = .ok (.iand, 1) := by decide +kernel
theorem dJ6_bitCount_0f7a4_22 : decode cJ6_bitCount_0f7a4 22 = .ok (.iadd, 1) := by decide +kernel
theorem dJ6_bitCount_0f7a4_23 : decode cJ6_bitCount_0f7a4 23 = .ok (.istore_n 0, 1) := by decide +kernel
theorem dJ6_bitCount_0f7a4_24 : decode cJ6_bitCount_0f7a4 24 = .ok (.iload_n 0, 1) := by decide +kernel
theorem dJ6_bitCount_0f7a4_25 : decode cJ6_bitCount_0f7a4 25 = .ok (.iload_n 0, 1) := by decide +kernel
theorem dJ6_bitCount_0f7a4_26 : decode cJ6_bitCount_0f7a4 26 = .ok (.iconst 4, 1) := by decide +kernel
theorem dJ6_bitCount_0f7a4_27 : decode cJ6_bitCount_0f7a4 27 = .ok (.iushr, 1) := by decide +kernel
theorem dJ6_bitCount_0f7a4_28 : decode cJ6_bitCount_0f7a4 28 = .ok (.iadd, 1) := by decide +kernel
theorem dJ6_bitCount_0f7a4_29 : decode cJ6_bitCount_0f7a4 29 = .ok (.ldc_w 267, 3) := by decide +kernel
theorem dJ6_bitCount_0f7a4_32 : decode cJ6_bitCount_0f7a4 32 = .ok (.iand, 1) := by decide +kernel
theorem dJ6_bitCount_0f7a4_33 : decode cJ6_bitCount_0f7a4 33 = .ok (.istore_n 0, 1) := by decide +kernel
theorem dJ6_bitCount_0f7a4_34 : decode cJ6_bitCount_0f7a4 34 = .ok (.iload_n 0, 1) := by decide +kernel
theorem dJ6_bitCount_0f7a4_35 : decode cJ6_bitCount_0f7a4 35 = .ok (.iload_n 0, 1) := by decide +kernel
theorem dJ6_bitCount_0f7a4_36 : decode cJ6_bitCount_0f7a4 36 = .ok (.bipush 8, 2) := by decide +kernel
theorem dJ6_bitCount_0f7a4_38 : decode cJ6_bitCount_0f7a4 38 = .ok (.iushr, 1) := by decide +kernel
theorem dJ6_bitCount_0f7a4_39 : decode cJ6_bitCount_0f7a4 39 = .ok (.iadd, 1) := by decide +kernel
theorem dJ6_bitCount_0f7a4_40 : decode cJ6_bitCount_0f7a4 40 = .ok (.istore_n 0, 1) := by decide +kernel
theorem dJ6_bitCount_0f7a4_41 : decode cJ6_bitCount_0f7a4 41 = .ok (.iload_n 0, 1) := by decide +kernel
theorem dJ6_bitCount_0f7a4_42 : decode cJ6_bitCount_0f7a4 42 = .ok (.iload_n 0, 1) := by decide +kernel
theorem dJ6_bitCount_0f7a4_43 : decode cJ6_bitCount_0f7a4 43 = .ok (.bipush 16, 2) := by decide +kernel
theorem dJ6_bitCount_0f7a4_45 : decode cJ6_bitCount_0f7a4 45 = .ok (.iushr, 1) := by decide +kernel
theorem dJ6_bitCount_0f7a4_46 : decode cJ6_bitCount_0f7a4 46 = .ok (.iadd, 1) := by decide +kernel
theorem dJ6_bitCount_0f7a4_47 : decode cJ6_bitCount_0f7a4 47 = .ok (.istore_n 0, 1) := by decide +kernel
theorem dJ6_bitCount_0f7a4_48 : decode cJ6_bitCount_0f7a4 48 = .ok (.iload_n 0, 1) := by decide +kernel
theorem dJ6_bitCount_0f7a4_49 : decode cJ6_bitCount_0f7a4 49 = .ok (.bipush 63, 2) := by decide +kernel
theorem dJ6_bitCount_0f7a4_51 : decode cJ6_bitCount_0f7a4 51 = .ok (.iand, 1) := by decide +kernel
theorem dJ6_bitCount_0f7a4_52 : decode cJ6_bitCount_0f7a4 52 = .ok (.ireturn, 1) := by decide +kernel
theorem dJ9_max_7cf53_0 : decode cJ9_max_7cf53 0 = .ok (.iload_n 0, 1) := by decide +kernel
theorem dJ9_max_7cf53_1 : decode cJ9_max_7cf53 1 = .ok (.iload_n 1, 1) := by decide +kernel
theorem dJ9_max_7cf53_2 : decode cJ9_max_7cf53 2 = .ok (.if_icmp .lt 7, 3) := by decide +kernel
theorem dJ9_max_7cf53_5 : decode cJ9_max_7cf53 5 = .ok (.iload_n 0, 1) := by decide +kernel
theorem dJ9_max_7cf53_6 : decode cJ9_max_7cf53 6 = .ok (.goto 4, 3) := by decide +kernel
theorem dJ9_max_7cf53_9 : decode cJ9_max_7cf53 9 = .ok (.iload_n 1, 1) := by decide +kernel
theorem dJ9_max_7cf53_10 : decode cJ9_max_7cf53 10 = .ok (.ireturn, 1) := by decide +kernel
theorem dJ9_min_7cf53_0 : decode cJ9_min_7cf53 0 = .ok (.iload_n 0, 1) := by decide +kernel
theorem dJ9_min_7cf53_1 : decode cJ9_min_7cf53 1 = .ok (.iload_n 1, 1) := by decide +kernel
theorem dJ9_min_7cf53_2 : decode cJ9_min_7cf53 2 = .ok (.if_icmp .gt 7, 3) := by decide +kernel
theorem dJ9_min_7cf53_5 : decode cJ9_min_7cf53 5 = .ok (.iload_n 0, 1) := by decide +kernel
theorem dJ9_min_7cf53_6 : decode cJ9_min_7cf53 6 = .ok (.goto 4, 3) := by decide +kernel
theorem dJ9_min_7cf53_9 : decode cJ9_min_7cf53 9 = .ok (.iload_n 1, 1) := by decide +kernel
theorem dJ9_min_7cf53_10 : decode cJ9_min_7cf53 10 = .ok (.ireturn, 1) := by decide +kernel
theorem dJ7_fill_d0a16_0 : decode cJ7_fill_d0a16 0 = .ok (.iconst 0, 1) := by decide +kernel
theorem dJ7_fill_d0a16_1 : decode cJ7_fill_d0a16 1 = .ok (.istore_n 3, 1) := by decide +kernel
theorem dJ7_fill_d0a16_2 : decode cJ7_fill_d0a16 2 = .ok (.aload_n 0, 1) := by decide +kernel
theorem dJ7_fill_d0a16_3 : decode cJ7_fill_d0a16 3 = .ok (.arraylength, 1) := by decide +kernel
theorem dJ7_fill_d0a16_4 : decode cJ7_fill_d0a16 4 = .ok (.istore 4, 2) := by decide +kernel
theorem dJ7_fill_d0a16_6 : decode cJ7_fill_d0a16 6 = .ok (.iload_n 3, 1) := by decide +kernel
theorem dJ7_fill_d0a16_7 : decode cJ7_fill_d0a16 7 = .ok (.iload 4, 2) := by decide +kernel
theorem dJ7_fill_d0a16_9 : decode cJ7_fill_d0a16 9 = .ok (.if_icmp .ge 13, 3) := by decide +kernel
theorem dJ7_fill_d0a16_12 : decode cJ7_fill_d0a16 12 = .ok (.aload_n 0, 1) := by decide +kernel
theorem dJ7_fill_d0a16_13 : decode cJ7_fill_d0a16 13 = .ok (.iload_n 3, 1) := by decide +kernel
theorem dJ7_fill_d0a16_14 : decode cJ7_fill_d0a16 14 = .ok (.lload_n 1, 1) := by decide +kernel
theorem dJ7_fill_d0a16_15 : decode cJ7_fill_d0a16 15 = .ok (.lastore, 1) := by decide +kernel
theorem dJ7_fill_d0a16_16 : decode cJ7_fill_d0a16 16 = .ok (.iinc 3 1, 3) := by decide +kernel
theorem dJ7_fill_d0a16_19 : decode cJ7_fill_d0a16 19 = .ok (.goto (-13), 3) := by decide +kernel
theorem dJ7_fill_d0a16_22 : decode cJ7_fill_d0a16 22 = .ok (.return_, 1) := by decide +kernel
theorem dJ7_fill_53178_0 : decode cJ7_fill_53178 0 = .ok (.iconst 0, 1) := by decide +kernel
theorem dJ7_fill_53178_1 : decode cJ7_fill_53178 1 = .ok (.istore_n 2, 1) := by decide +kernel
theorem dJ7_fill_53178_2 : decode cJ7_fill_53178 2 = .ok (.aload_n 0, 1) := by decide +kernel
theorem dJ7_fill_53178_3 : decode cJ7_fill_53178 3 = .ok (.arraylength, 1) := by decide +kernel
theorem dJ7_fill_53178_4 : decode cJ7_fill_53178 4 = .ok (.istore_n 3, 1) := by decide +kernel
theorem dJ7_fill_53178_5 : decode cJ7_fill_53178 5 = .ok (.iload_n 2, 1) := by decide +kernel
theorem dJ7_fill_53178_6 : decode cJ7_fill_53178 6 = .ok (.iload_n 3, 1) := by decide +kernel
theorem dJ7_fill_53178_7 : decode cJ7_fill_53178 7 = .ok (.if_icmp .ge 13, 3) := by decide +kernel
theorem dJ7_fill_53178_10 : decode cJ7_fill_53178 10 = .ok (.aload_n 0, 1) := by decide +kernel
theorem dJ7_fill_53178_11 : decode cJ7_fill_53178 11 = .ok (.iload_n 2, 1) := by decide +kernel
theorem dJ7_fill_53178_12 : decode cJ7_fill_53178 12 = .ok (.iload_n 1, 1) := by decide +kernel
theorem dJ7_fill_53178_13 : decode cJ7_fill_53178 13 = .ok (.iastore, 1) := by decide +kernel
theorem dJ7_fill_53178_14 : decode cJ7_fill_53178 14 = .ok (.iinc 2 1, 3) := by decide +kernel
theorem dJ7_fill_53178_17 : decode cJ7_fill_53178 17 = .ok (.goto (-12), 3) := by decide +kernel
theorem dJ7_fill_53178_20 : decode cJ7_fill_53178 20 = .ok (.return_, 1) := by decide +kernel
end
section
theorem dX6_init_0 : decode cX6_init 0 = .ok (.aload_n 0, 1) := by decide +kernel
theorem dX6_init_1 : decode cX6_init 1 = .ok (.invokespecial 1, 3) := by decide +kernel
theorem dX6_init_4 : decode cX6_init 4 = .ok (.aload_n 0, 1) := by decide +kernel
theorem dX6_init_5 : decode cX6_init 5 = .ok (.new 7, 3) := by decide +kernel
theorem dX6_init_8 : decode cX6_init 8 = .ok (.dup, 1) := by decide +kernel
theorem dX6_init_9 : decode cX6_init 9 = .ok (.invokespecial 9, 3) := by decide +kernel
theorem dX6_init_12 : decode cX6_init 12 = .ok (.putfield 10, 3) := by decide +kernel
theorem dX6_init_15 : decode cX6_init 15 = .ok (.aload_n 0, 1) := by decide +kernel
theorem dX6_init_16 : decode cX6_init 16 = .ok (.new 16, 3) := by decide +kernel
theorem dX6_init_19 : decode cX6_init 19 = .ok (.dup, 1) := by decide +kernel
theorem dX6_init_20 : decode cX6_init 20 = .ok (.invokespecial 18, 3) := by decide +kernel
theorem dX6_init_23 : decode cX6_init 23 = .ok (.putfield 19, 3) := by decide +kernel
theorem dX6_init_26 : decode cX6_init 26 = .ok (.aload_n 0, 1) := by decide +kernel
theorem dX6_init_27 : decode cX6_init 27 = .ok (.bipush 12, 2) := by decide +kernel
theorem dX6_init_29 : decode cX6_init 29 = .ok (.anewarray 23, 3) := by decide +kernel
theorem dX6_init_32 : decode cX6_init 32 = .ok (.putfield 25, 3) := by decide +kernel
theorem dX6_init_35 : decode cX6_init 35 = .ok (.aload_n 0, 1) := by decide +kernel
theorem dX6_init_36 : decode cX6_init 36 = .ok (.bipush 10, 2) := by decide +kernel
theorem dX6_init_38 : decode cX6_init 38 = .ok (.anewarray 29, 3) := by decide +kernel
theorem dX6_init_41 : decode cX6_init 41 = .ok (.putfield 31, 3) := by decide +kernel
theorem dX6_init_44 : decode cX6_init 44 = .ok (.aload_n 0, 1) := by decide +kernel
theorem dX6_init_45 : decode cX6_init 45 = .ok (.new 35, 3) := by decide +kernel
theorem dX6_init_48 : decode cX6_init 48 = .ok (.dup, 1) := by decide +kernel
theorem dX6_init_49 : decode cX6_init 49 = .ok (.invokespecial 37, 3) := by decide +kernel
theorem dX6_init_52 : decode cX6_init 52 = .ok (.putfield 38, 3) := by decide +kernel
theorem dX6_init_55 : decode cX6_init 55 = .ok (.aload_n 0, 1) := by decide +kernel
theorem dX6_init_56 : decode cX6_init 56 = .ok (.new 42, 3) := by decide +kernel
theorem dX6_init_59 : decode cX6_init 59 = .ok (.dup, 1) := by decide +kernel
theorem dX6_init_60 : decode cX6_init 60 = .ok (.invokespecial 44, 3) := by decide +kernel
theorem dX6_init_63 : decode cX6_init 63 = .ok (.putfield 45, 3) := by decide +kernel
theorem dX6_init_66 : decode cX6_init 66 = .ok (.return_, 1) := by decide +kernel
theorem dX6_feed_0 : decode cX6_feed 0 = .ok (.aload_n 0, 1) := by decide +kernel
theorem dX6_feed_1 : decode cX6_feed 1 = .ok (.getfield 10, 3) := by decide +kernel
theorem dX6_feed_4 : decode cX6_feed 4 = .ok (.invokevirtual 49, 3) := by decide +kernel
theorem dX6_feed_7 : decode cX6_feed 7 = .ok (.ifCond .ne 5, 3) := by decide +kernel
theorem dX6_feed_10 : decode cX6_feed 10 = .ok (.iconst (-1), 1) := by decide +kernel
theorem dX6_feed_11 : decode cX6_feed 11 = .ok (.ireturn, 1) := by decide +kernel
theorem dX6_feed_12 : decode cX6_feed 12 = .ok (.aload_n 0, 1) := by decide +kernel
theorem dX6_feed_13 : decode cX6_feed 13 = .ok (.getfield 10, 3) := by decide +kernel
theorem dX6_feed_16 : decode cX6_feed 16 = .ok (.iload_n 1, 1) := by decide +kernel
theorem dX6_feed_17 : decode cX6_feed 17 = .ok (.invokevirtual 53, 3) := by decide +kernel
theorem dX6_feed_20 : decode cX6_feed 20 = .ok (.aload_n 0, 1) := by decide +kernel
theorem dX6_feed_21 : decode cX6_feed 21 = .ok (.getfield 10, 3) := by decide +kernel
theorem dX6_feed_24 : decode cX6_feed 24 = .ok (.iload_n 2, 1) := by decide +kernel
theorem dX6_feed_25 : decode cX6_feed 25 = .ok (.invokevirtual 53, 3) := by decide +kernel
theorem dX6_feed_28 : decode cX6_feed 28 = .ok (.aload_n 0, 1) := by decide +kernel
theorem dX6_feed_29 : decode cX6_feed 29 = .ok (.getfield 10, 3) := by decide +kernel
theorem dX6_feed_32 : decode cX6_feed 32 = .ok (.iload_n 3, 1) := by decide +kernel
theorem dX6_feed_33 : decode cX6_feed 33 = .ok (.invokevirtual 53, 3) := by decide +kernel
theorem dX6_feed_36 : decode cX6_feed 36 = .ok (.aload_n 0, 1) := by decide +kernel
theorem dX6_feed_37 : decode cX6_feed 37 = .ok (.getfield 10, 3) := by decide +kernel
theorem dX6_feed_40 : decode cX6_feed 40 = .ok (.iload 4, 2) := by decide +kernel
theorem dX6_feed_42 : decode cX6_feed 42 = .ok (.invokevirtual 53, 3) := by decide +kernel
theorem dX6_feed_45 : decode cX6_feed 45 = .ok (.aload_n 0, 1) := by decide +kernel
theorem dX6_feed_46 : decode cX6_feed 46 = .ok (.getfield 10, 3) := by decide +kernel
theorem dX6_feed_49 : decode cX6_feed 49 = .ok (.iload 5, 2) := by decide +kernel
theorem dX6_feed_51 : decode cX6_feed 51 = .ok (.invokevirtual 53, 3) := by decide +kernel
theorem dX6_feed_54 : decode cX6_feed 54 = .ok (.aload_n 0, 1) := by decide +kernel
theorem dX6_feed_55 : decode cX6_feed 55 = .ok (.getfield 10, 3) := by decide +kernel
theorem dX6_feed_58 : decode cX6_feed 58 = .ok (.getfield 57, 3) := by decide +kernel
theorem dX6_feed_61 : decode cX6_feed 61 = .ok (.ireturn, 1) := by decide +kernel
theorem dX6_rules_0 : decode cX6_rules 0 = .ok (.iload_n 1, 1) := by decide +kernel
theorem dX6_rules_1 : decode cX6_rules 1 = .ok (.iconst 0, 1) := by decide +kernel
theorem dX6_rules_2 : decode cX6_rules 2 = .ok (.aload_n 0, 1) := by decide +kernel
theorem dX6_rules_3 : decode cX6_rules 3 = .ok (.getfield 10, 3) := by decide +kernel
theorem dX6_rules_6 : decode cX6_rules 6 = .ok (.getfield 57, 3) := by decide +kernel
theorem dX6_rules_9 : decode cX6_rules 9 = .ok (.invokestatic 61, 3) := by decide +kernel
theorem dX6_rules_12 : decode cX6_rules 12 = .ok (.ifCond .ne 5, 3) := by decide +kernel
theorem dX6_rules_15 : decode cX6_rules 15 = .ok (.iconst (-1), 1) := by decide +kernel
theorem dX6_rules_16 : decode cX6_rules 16 = .ok (.ireturn, 1) := by decide +kernel
theorem dX6_rules_17 : decode cX6_rules 17 = .ok (.aload_n 0, 1) := by decide +kernel
theorem dX6_rules_18 : decode cX6_rules 18 = .ok (.getfield 19, 3) := by decide +kernel
theorem dX6_rules_21 : decode cX6_rules 21 = .ok (.aload_n 0, 1) := by decide +kernel
theorem dX6_rules_22 : decode cX6_rules 22 = .ok (.getfield 10, 3) := by decide +kernel
theorem dX6_rules_25 : decode cX6_rules 25 = .ok (.iload_n 1, 1) := by decide +kernel
theorem dX6_rules_26 : decode cX6_rules 26 = .ok (.invokevirtual 65, 3) := by decide +kernel
theorem dX6_rules_29 : decode cX6_rules 29 = .ok (.istore_n 2, 1) := by decide +kernel
theorem dX6_rules_30 : decode cX6_rules 30 = .ok (.aload_n 0, 1) := by decide +kernel
theorem dX6_rules_31 : decode cX6_rules 31 = .ok (.getfield 10, 3) := by decide +kernel
theorem dX6_rules_34 : decode cX6_rules 34 = .ok (.iconst 0, 1) := by decide +kernel
theorem dX6_rules_35 : decode cX6_rules 35 = .ok (.putfield 57, 3) := by decide +kernel
theorem dX6_rules_38 : decode cX6_rules 38 = .ok (.iload_n 2, 1) := by decide +kernel
theorem dX6_rules_39 : decode cX6_rules 39 = .ok (.ireturn, 1) := by decide +kernel
theorem dX6_teacher_0 : decode cX6_teacher 0 = .ok (.aload_n 0, 1) := by decide +kernel
theorem dX6_teacher_1 : decode cX6_teacher 1 = .ok (.getfield 69, 3) := by decide +kernel
theorem dX6_teacher_4 : decode cX6_teacher 4 = .ok (.bipush 12, 2) := by decide +kernel
theorem dX6_teacher_6 : decode cX6_teacher 6 = .ok (.if_icmp .ge 35, 3) := by decide +kernel
theorem dX6_teacher_9 : decode cX6_teacher 9 = .ok (.iload_n 1, 1) := by decide +kernel
theorem dX6_teacher_10 : decode cX6_teacher 10 = .ok (.iconst 0, 1) := by decide +kernel
theorem dX6_teacher_11 : decode cX6_teacher 11 = .ok (.sipush 255, 3) := by decide +kernel
theorem dX6_teacher_14 : decode cX6_teacher 14 = .ok (.invokestatic 61, 3) := by decide +kernel
theorem dX6_teacher_17 : decode cX6_teacher 17 = .ok (.ifCond .eq 24, 3) := by decide +kernel
theorem dX6_teacher_20 : decode cX6_teacher 20 = .ok (.iload_n 2, 1) := by decide +kernel
theorem dX6_teacher_21 : decode cX6_teacher 21 = .ok (.iconst 0, 1) := by decide +kernel
theorem dX6_teacher_22 : decode cX6_teacher 22 = .ok (.bipush 15, 2) := by decide +kernel
theorem dX6_teacher_24 : decode cX6_teacher 24 = .ok (.invokestatic 61, 3) := by decide +kernel
theorem dX6_teacher_27 : decode cX6_teacher 27 = .ok (.ifCond .eq 14, 3) := by decide +kernel
theorem dX6_teacher_30 : decode cX6_teacher 30 = .ok (.iload_n 3, 1) := by decide +kernel
theorem dX6_teacher_31 : decode cX6_teacher 31 = .ok (.iconst 0, 1) := by decide +kernel
theorem dX6_teacher_32 : decode cX6_teacher 32 = .ok (.sipush 3000, 3) := by decide +kernel
theorem dX6_teacher_35 : decode cX6_teacher 35 = .ok (.invokestatic 61, 3) := by decide +kernel
theorem dX6_teacher_38 : decode cX6_teacher 38 = .ok (.ifCond .ne 5, 3) := by decide +kernel
theorem dX6_teacher_41 : decode cX6_teacher 41 = .ok (.iconst (-1), 1) := by decide +kernel
theorem dX6_teacher_42 : decode cX6_teacher 42 = .ok (.ireturn, 1) := by decide +kernel
theorem dX6_teacher_43 : decode cX6_teacher 43 = .ok (.aload_n 0, 1) := by decide +kernel
theorem dX6_teacher_44 : decode cX6_teacher 44 = .ok (.getfield 25, 3) := by decide +kernel
theorem dX6_teacher_47 : decode cX6_teacher 47 = .ok (.aload_n 0, 1) := by decide +kernel
theorem dX6_teacher_48 : decode cX6_teacher 48 = .ok (.getfield 69, 3) := by decide +kernel
theorem dX6_teacher_51 : decode cX6_teacher 51 = .ok (.new 23, 3) := by decide +kernel
theorem dX6_teacher_54 : decode cX6_teacher 54 = .ok (.dup, 1) := by decide +kernel
theorem dX6_teacher_55 : decode cX6_teacher 55 = .ok (.iload_n 1, 1) := by decide +kernel
theorem dX6_teacher_56 : decode cX6_teacher 56 = .ok (.iload_n 2, 1) := by decide +kernel
theorem dX6_teacher_57 : decode cX6_teacher 57 = .ok (.iload_n 3, 1) := by decide +kernel
theorem dX6_teacher_58 : decode cX6_teacher 58 = .ok (.invokespecial 72, 3) := by decide +kernel
theorem dX6_teacher_61 : decode cX6_teacher 61 = .ok (.aastore, 1) := by decide +kernel
theorem dX6_teacher_62 : decode cX6_teacher 62 = .ok (.aload_n 0, 1) := by decide +kernel
theorem dX6_teacher_63 : decode cX6_teacher 63 = .ok (.dup, 1) := by decide +kernel
theorem dX6_teacher_64 : decode cX6_teacher 64 = .ok (.getfield 69, 3) := by decide +kernel
theorem dX6_teacher_67 : decode cX6_teacher 67 = .ok (.iconst 1, 1) := by decide +kernel
theorem dX6_teacher_68 : decode cX6_teacher 68 = .ok (.iadd, 1) := by decide +kernel
theorem dX6_teacher_69 : decode cX6_teacher 69 = .ok (.putfield 69, 3) := by decide +kernel
theorem dX6_teacher_72 : decode cX6_teacher 72 = .ok (.aload_n 0, 1) := by decide +kernel
theorem dX6_teacher_73 : decode cX6_teacher 73 = .ok (.getfield 69, 3) := by decide +kernel
theorem dX6_teacher_76 : decode cX6_teacher 76 = .ok (.iconst 1, 1) := by decide +kernel
theorem dX6_teacher_77 : decode cX6_teacher 77 = .ok (.isub, 1) := by decide +kernel
theorem dX6_teacher_78 : decode cX6_teacher 78 = .ok (.ireturn, 1) := by decide +kernel
theorem dX6_way_0 : decode cX6_way 0 = .ok (.aload_n 0, 1) := by decide +kernel
theorem dX6_way_1 : decode cX6_way 1 = .ok (.iload_n 1, 1) := by decide +kernel
theorem dX6_way_2 : decode cX6_way 2 = .ok (.invokevirtual 75, 3) := by decide +kernel
theorem dX6_way_5 : decode cX6_way 5 = .ok (.astore 4, 2) := by decide +kernel
theorem dX6_way_7 : decode cX6_way 7 = .ok (.aload 4, 2) := by decide +kernel
theorem dX6_way_9 : decode cX6_way 9 = .ok (.ifnull 21, 3) := by decide +kernel
theorem dX6_way_12 : decode cX6_way 12 = .ok (.iload_n 2, 1) := by decide +kernel
theorem dX6_way_13 : decode cX6_way 13 = .ok (.invokestatic 79, 3) := by decide +kernel
theorem dX6_way_16 : decode cX6_way 16 = .ok (.ifCond .eq 14, 3) := by decide +kernel
theorem dX6_way_19 : decode cX6_way 19 = .ok (.iload_n 3, 1) := by decide +kernel
theorem dX6_way_20 : decode cX6_way 20 = .ok (.iconst 0, 1) := by decide +kernel
theorem dX6_way_21 : decode cX6_way 21 = .ok (.sipush 200, 3) := by decide +kernel
theorem dX6_way_24 : decode cX6_way 24 = .ok (.invokestatic 61, 3) := by decide +kernel
theorem dX6_way_27 : decode cX6_way 27 = .ok (.ifCond .ne 5, 3) := by decide +kernel
theorem dX6_way_30 : decode cX6_way 30 = .ok (.iconst 0, 1) := by decide +kernel
theorem dX6_way_31 : decode cX6_way 31 = .ok (.ireturn, 1) := by decide +kernel
theorem dX6_way_32 : decode cX6_way 32 = .ok (.aload 4, 2) := by decide +kernel
theorem dX6_way_34 : decode cX6_way 34 = .ok (.getfield 83, 3) := by decide +kernel
theorem dX6_way_37 : decode cX6_way 37 = .ok (.iload_n 2, 1) := by decide +kernel
theorem dX6_way_38 : decode cX6_way 38 = .ok (.iload_n 3, 1) := by decide +kernel
theorem dX6_way_39 : decode cX6_way 39 = .ok (.iastore, 1) := by decide +kernel
theorem dX6_way_40 : decode cX6_way 40 = .ok (.iconst 1, 1) := by decide +kernel
theorem dX6_way_41 : decode cX6_way 41 = .ok (.ireturn, 1) := by decide +kernel
theorem dX6_likes_0 : decode cX6_likes 0 = .ok (.aload_n 0, 1) := by decide +kernel
theorem dX6_likes_1 : decode cX6_likes 1 = .ok (.iload_n 1, 1) := by decide +kernel
theorem dX6_likes_2 : decode cX6_likes 2 = .ok (.invokevirtual 75, 3) := by decide +kernel
theorem dX6_likes_5 : decode cX6_likes 5 = .ok (.astore 4, 2) := by decide +kernel
theorem dX6_likes_7 : decode cX6_likes 7 = .ok (.aload 4, 2) := by decide +kernel
theorem dX6_likes_9 : decode cX6_likes 9 = .ok (.ifnull 23, 3) := by decide +kernel
theorem dX6_likes_12 : decode cX6_likes 12 = .ok (.iload_n 2, 1) := by decide +kernel
theorem dX6_likes_13 : decode cX6_likes 13 = .ok (.iconst 0, 1) := by decide +kernel
theorem dX6_likes_14 : decode cX6_likes 14 = .ok (.bipush 63, 2) := by decide +kernel
theorem dX6_likes_16 : decode cX6_likes 16 = .ok (.invokestatic 61, 3) := by decide +kernel
theorem dX6_likes_19 : decode cX6_likes 19 = .ok (.ifCond .eq 13, 3) := by decide +kernel
theorem dX6_likes_22 : decode cX6_likes 22 = .ok (.iload_n 3, 1) := by decide +kernel
theorem dX6_likes_23 : decode cX6_likes 23 = .ok (.iconst 0, 1) := by decide +kernel
theorem dX6_likes_24 : decode cX6_likes 24 = .ok (.bipush 63, 2) := by decide +kernel
theorem dX6_likes_26 : decode cX6_likes 26 = .ok (.invokestatic 61, 3) := by decide +kernel
theorem dX6_likes_29 : decode cX6_likes 29 = .ok (.ifCond .ne 5, 3) := by decide +kernel
theorem dX6_likes_32 : decode cX6_likes 32 = .ok (.iconst 0, 1) := by decide +kernel
theorem dX6_likes_33 : decode cX6_likes 33 = .ok (.ireturn, 1) := by decide +kernel
theorem dX6_likes_34 : decode cX6_likes 34 = .ok (.aload 4, 2) := by decide +kernel
theorem dX6_likes_36 : decode cX6_likes 36 = .ok (.iload_n 2, 1) := by decide +kernel
theorem dX6_likes_37 : decode cX6_likes 37 = .ok (.putfield 87, 3) := by decide +kernel
theorem dX6_likes_40 : decode cX6_likes 40 = .ok (.aload 4, 2) := by decide +kernel
theorem dX6_likes_42 : decode cX6_likes 42 = .ok (.iload_n 3, 1) := by decide +kernel
theorem dX6_likes_43 : decode cX6_likes 43 = .ok (.putfield 90, 3) := by decide +kernel
theorem dX6_likes_46 : decode cX6_likes 46 = .ok (.iconst 1, 1) := by decide +kernel
theorem dX6_likes_47 : decode cX6_likes 47 = .ok (.ireturn, 1) := by decide +kernel
theorem dX6_gap_0 : decode cX6_gap 0 = .ok (.aload_n 0, 1) := by decide +kernel
theorem dX6_gap_1 : decode cX6_gap 1 = .ok (.getfield 93, 3) := by decide +kernel
theorem dX6_gap_4 : decode cX6_gap 4 = .ok (.bipush 10, 2) := by decide +kernel
theorem dX6_gap_6 : decode cX6_gap 6 = .ok (.if_icmp .ge 48, 3) := by decide +kernel
theorem dX6_gap_9 : decode cX6_gap 9 = .ok (.iload_n 1, 1) := by decide +kernel
theorem dX6_gap_10 : decode cX6_gap 10 = .ok (.invokestatic 79, 3) := by decide +kernel
theorem dX6_gap_13 : decode cX6_gap 13 = .ok (.ifCond .eq 41, 3) := by decide +kernel
theorem dX6_gap_16 : decode cX6_gap 16 = .ok (.iload_n 2, 1) := by decide +kernel
theorem dX6_gap_17 : decode cX6_gap 17 = .ok (.invokestatic 96, 3) := by decide +kernel
theorem dX6_gap_20 : decode cX6_gap 20 = .ok (.ifCond .eq 34, 3) := by decide +kernel
theorem dX6_gap_23 : decode cX6_gap 23 = .ok (.iload_n 3, 1) := by decide +kernel
theorem dX6_gap_24 : decode cX6_gap 24 = .ok (.iconst 0, 1) := by decide +kernel
theorem dX6_gap_25 : decode cX6_gap 25 = .ok (.bipush 7, 2) := by decide +kernel
theorem dX6_gap_27 : decode cX6_gap 27 = .ok (.invokestatic 61, 3) := by decide +kernel
theorem dX6_gap_30 : decode cX6_gap 30 = .ok (.ifCond .eq 24, 3) := by decide +kernel
theorem dX6_gap_33 : decode cX6_gap 33 = .ok (.iload 4, 2) := by decide +kernel
theorem dX6_gap_35 : decode cX6_gap 35 = .ok (.iconst 0, 1) := by decide +kernel
theorem dX6_gap_36 : decode cX6_gap 36 = .ok (.iconst 3, 1) := by decide +kernel
theorem dX6_gap_37 : decode cX6_gap 37 = .ok (.invokestatic 61, 3) := by decide +kernel
theorem dX6_gap_40 : decode cX6_gap 40 = .ok (.ifCond .eq 14, 3) := by decide +kernel
theorem dX6_gap_43 : decode cX6_gap 43 = .ok (.iload 5, 2) := by decide +kernel
theorem dX6_gap_45 : decode cX6_gap 45 = .ok (.iconst 1, 1) := by decide +kernel
theorem dX6_gap_46 : decode cX6_gap 46 = .ok (.bipush 8, 2) := by decide +kernel
theorem dX6_gap_48 : decode cX6_gap 48 = .ok (.invokestatic 61, 3) := by decide +kernel
theorem dX6_gap_51 : decode cX6_gap 51 = .ok (.ifCond .ne 5, 3) := by decide +kernel
theorem dX6_gap_54 : decode cX6_gap 54 = .ok (.iconst (-1), 1) := by decide +kernel
theorem dX6_gap_55 : decode cX6_gap 55 = .ok (.ireturn, 1) := by decide +kernel
theorem dX6_gap_56 : decode cX6_gap 56 = .ok (.aload_n 0, 1) := by decide +kernel
theorem dX6_gap_57 : decode cX6_gap 57 = .ok (.getfield 31, 3) := by decide +kernel
theorem dX6_gap_60 : decode cX6_gap 60 = .ok (.aload_n 0, 1) := by decide +kernel
theorem dX6_gap_61 : decode cX6_gap 61 = .ok (.getfield 93, 3) := by decide +kernel
theorem dX6_gap_64 : decode cX6_gap 64 = .ok (.new 29, 3) := by decide +kernel
theorem dX6_gap_67 : decode cX6_gap 67 = .ok (.dup, 1) := by decide +kernel
theorem dX6_gap_68 : decode cX6_gap 68 = .ok (.iload_n 1, 1) := by decide +kernel
theorem dX6_gap_69 : decode cX6_gap 69 = .ok (.iload_n 2, 1) := by decide +kernel
theorem dX6_gap_70 : decode cX6_gap 70 = .ok (.iload_n 3, 1) := by decide +kernel
theorem dX6_gap_71 : decode cX6_gap 71 = .ok (.iload 4, 2) := by decide +kernel
theorem dX6_gap_73 : decode cX6_gap 73 = .ok (.iload 5, 2) := by decide +kernel
theorem dX6_gap_75 : decode cX6_gap 75 = .ok (.invokespecial 99, 3) := by decide +kernel
theorem dX6_gap_78 : decode cX6_gap 78 = .ok (.aastore, 1) := by decide +kernel
theorem dX6_gap_79 : decode cX6_gap 79 = .ok (.aload_n 0, 1) := by decide +kernel
theorem dX6_gap_80 : decode cX6_gap 80 = .ok (.dup, 1) := by decide +kernel
theorem dX6_gap_81 : decode cX6_gap 81 = .ok (.getfield 93, 3) := by decide +kernel
theorem dX6_gap_84 : decode cX6_gap 84 = .ok (.iconst 1, 1) := by decide +kernel
theorem dX6_gap_85 : decode cX6_gap 85 = .ok (.iadd, 1) := by decide +kernel
theorem dX6_gap_86 : decode cX6_gap 86 = .ok (.putfield 93, 3) := by decide +kernel
theorem dX6_gap_89 : decode cX6_gap 89 = .ok (.aload_n 0, 1) := by decide +kernel
theorem dX6_gap_90 : decode cX6_gap 90 = .ok (.getfield 93, 3) := by decide +kernel
theorem dX6_gap_93 : decode cX6_gap 93 = .ok (.iconst 1, 1) := by decide +kernel
theorem dX6_gap_94 : decode cX6_gap 94 = .ok (.isub, 1) := by decide +kernel
theorem dX6_gap_95 : decode cX6_gap 95 = .ok (.ireturn, 1) := by decide +kernel
theorem dX6_can_0 : decode cX6_can 0 = .ok (.aload_n 0, 1) := by decide +kernel
theorem dX6_can_1 : decode cX6_can 1 = .ok (.iload_n 1, 1) := by decide +kernel
theorem dX6_can_2 : decode cX6_can 2 = .ok (.invokevirtual 75, 3) := by decide +kernel
theorem dX6_can_5 : decode cX6_can 5 = .ok (.astore_n 3, 1) := by decide +kernel
theorem dX6_can_6 : decode cX6_can 6 = .ok (.aload_n 0, 1) := by decide +kernel
theorem dX6_can_7 : decode cX6_can 7 = .ok (.iload_n 2, 1) := by decide +kernel
theorem dX6_can_8 : decode cX6_can 8 = .ok (.invokevirtual 102, 3) := by decide +kernel
theorem dX6_can_11 : decode cX6_can 11 = .ok (.astore 4, 2) := by decide +kernel
theorem dX6_can_13 : decode cX6_can 13 = .ok (.aload_n 3, 1) := by decide +kernel
theorem dX6_can_14 : decode cX6_can 14 = .ok (.ifnull 8, 3) := by decide +kernel
theorem dX6_can_17 : decode cX6_can 17 = .ok (.aload 4, 2) := by decide +kernel
theorem dX6_can_19 : decode cX6_can 19 = .ok (.ifnonnull 5, 3) := by decide +kernel
theorem dX6_can_22 : decode cX6_can 22 = .ok (.iconst (-1), 1) := by decide +kernel
theorem dX6_can_23 : decode cX6_can 23 = .ok (.ireturn, 1) := by decide +kernel
theorem dX6_can_24 : decode cX6_can 24 = .ok (.aload_n 3, 1) := by decide +kernel
theorem dX6_can_25 : decode cX6_can 25 = .ok (.aload 4, 2) := by decide +kernel
theorem dX6_can_27 : decode cX6_can 27 = .ok (.aload_n 0, 1) := by decide +kernel
theorem dX6_can_28 : decode cX6_can 28 = .ok (.getfield 19, 3) := by decide +kernel
theorem dX6_can_31 : decode cX6_can 31 = .ok (.aload_n 0, 1) := by decide +kernel
theorem dX6_can_32 : decode cX6_can 32 = .ok (.getfield 106, 3) := by decide +kernel
theorem dX6_can_35 : decode cX6_can 35 = .ok (.invokevirtual 109, 3) := by decide +kernel
theorem dX6_can_38 : decode cX6_can 38 = .ok (.ifCond .eq 7, 3) := by decide +kernel
theorem dX6_can_41 : decode cX6_can 41 = .ok (.iconst 1, 1) := by decide +kernel
theorem dX6_can_42 : decode cX6_can 42 = .ok (.goto 4, 3) := by decide +kernel
theorem dX6_can_45 : decode cX6_can 45 = .ok (.iconst 0, 1) := by decide +kernel
theorem dX6_can_46 : decode cX6_can 46 = .ok (.ireturn, 1) := by decide +kernel
theorem dX6_cost_0 : decode cX6_cost 0 = .ok (.aload_n 0, 1) := by decide +kernel
theorem dX6_cost_1 : decode cX6_cost 1 = .ok (.iload_n 1, 1) := by decide +kernel
theorem dX6_cost_2 : decode cX6_cost 2 = .ok (.invokevirtual 75, 3) := by decide +kernel
theorem dX6_cost_5 : decode cX6_cost 5 = .ok (.astore_n 3, 1) := by decide +kernel
theorem dX6_cost_6 : decode cX6_cost 6 = .ok (.aload_n 0, 1) := by decide +kernel
theorem dX6_cost_7 : decode cX6_cost 7 = .ok (.iload_n 2, 1) := by decide +kernel
theorem dX6_cost_8 : decode cX6_cost 8 = .ok (.invokevirtual 102, 3) := by decide +kernel
theorem dX6_cost_11 : decode cX6_cost 11 = .ok (.astore 4, 2) := by decide +kernel
theorem dX6_cost_13 : decode cX6_cost 13 = .ok (.aload_n 3, 1) := by decide +kernel
theorem dX6_cost_14 : decode cX6_cost 14 = .ok (.ifnull 25, 3) := by decide +kernel
theorem dX6_cost_17 : decode cX6_cost 17 = .ok (.aload 4, 2) := by decide +kernel
theorem dX6_cost_19 : decode cX6_cost 19 = .ok (.ifnull 20, 3) := by decide +kernel
theorem dX6_cost_22 : decode cX6_cost 22 = .ok (.aload_n 3, 1) := by decide +kernel
theorem dX6_cost_23 : decode cX6_cost 23 = .ok (.aload 4, 2) := by decide +kernel
theorem dX6_cost_25 : decode cX6_cost 25 = .ok (.aload_n 0, 1) := by decide +kernel
theorem dX6_cost_26 : decode cX6_cost 26 = .ok (.getfield 19, 3) := by decide +kernel
theorem dX6_cost_29 : decode cX6_cost 29 = .ok (.aload_n 0, 1) := by decide +kernel
theorem dX6_cost_30 : decode cX6_cost 30 = .ok (.getfield 106, 3) := by decide +kernel
theorem dX6_cost_33 : decode cX6_cost 33 = .ok (.invokevirtual 109, 3) := by decide +kernel
theorem dX6_cost_36 : decode cX6_cost 36 = .ok (.ifCond .ne 5, 3) := by decide +kernel
theorem dX6_cost_39 : decode cX6_cost 39 = .ok (.iconst (-1), 1) := by decide +kernel
theorem dX6_cost_40 : decode cX6_cost 40 = .ok (.ireturn, 1) := by decide +kernel
theorem dX6_cost_41 : decode cX6_cost 41 = .ok (.aload_n 3, 1) := by decide +kernel
theorem dX6_cost_42 : decode cX6_cost 42 = .ok (.aload 4, 2) := by decide +kernel
theorem dX6_cost_44 : decode cX6_cost 44 = .ok (.aload_n 0, 1) := by decide +kernel
theorem dX6_cost_45 : decode cX6_cost 45 = .ok (.getfield 19, 3) := by decide +kernel
theorem dX6_cost_48 : decode cX6_cost 48 = .ok (.invokevirtual 113, 3) := by decide +kernel
theorem dX6_cost_51 : decode cX6_cost 51 = .ok (.ireturn, 1) := by decide +kernel
theorem dX6_match_0 : decode cX6_match 0 = .ok (.aload_n 0, 1) := by decide +kernel
theorem dX6_match_1 : decode cX6_match 1 = .ok (.invokevirtual 117, 3) := by decide +kernel
theorem dX6_match_4 : decode cX6_match 4 = .ok (.aload_n 0, 1) := by decide +kernel
theorem dX6_match_5 : decode cX6_match 5 = .ok (.getfield 45, 3) := by decide +kernel
theorem dX6_match_8 : decode cX6_match 8 = .ok (.invokevirtual 120, 3) := by decide +kernel
theorem dX6_match_11 : decode cX6_match 11 = .ok (.ireturn, 1) := by decide +kernel
theorem dX6_costs_0 : decode cX6_costs 0 = .ok (.aload_n 0, 1) := by decide +kernel
theorem dX6_costs_1 : decode cX6_costs 1 = .ok (.invokevirtual 117, 3) := by decide +kernel
theorem dX6_costs_4 : decode cX6_costs 4 = .ok (.aload_n 0, 1) := by decide +kernel
theorem dX6_costs_5 : decode cX6_costs 5 = .ok (.getfield 45, 3) := by decide +kernel
theorem dX6_costs_8 : decode cX6_costs 8 = .ok (.invokevirtual 124, 3) := by decide +kernel
theorem dX6_costs_11 : decode cX6_costs 11 = .ok (.ireturn, 1) := by decide +kernel
theorem dX6_who_0 : decode cX6_who 0 = .ok (.aload_n 0, 1) := by decide +kernel
theorem dX6_who_1 : decode cX6_who 1 = .ok (.iload_n 1, 1) := by decide +kernel
theorem dX6_who_2 : decode cX6_who 2 = .ok (.invokevirtual 102, 3) := by decide +kernel
theorem dX6_who_5 : decode cX6_who 5 = .ok (.ifnonnull 5, 3) := by decide +kernel
theorem dX6_who_8 : decode cX6_who 8 = .ok (.iconst (-1), 1) := by decide +kernel
theorem dX6_who_9 : decode cX6_who 9 = .ok (.ireturn, 1) := by decide +kernel
theorem dX6_who_10 : decode cX6_who 10 = .ok (.aload_n 0, 1) := by decide +kernel
theorem dX6_who_11 : decode cX6_who 11 = .ok (.iload_n 1, 1) := by decide +kernel
theorem dX6_who_12 : decode cX6_who 12 = .ok (.invokevirtual 127, 3) := by decide +kernel
theorem dX6_who_15 : decode cX6_who 15 = .ok (.istore_n 2, 1) := by decide +kernel
theorem dX6_who_16 : decode cX6_who 16 = .ok (.iload_n 2, 1) := by decide +kernel
theorem dX6_who_17 : decode cX6_who 17 = .ok (.iconst (-1), 1) := by decide +kernel
theorem dX6_who_18 : decode cX6_who 18 = .ok (.if_icmp .eq 5, 3) := by decide +kernel
theorem dX6_who_21 : decode cX6_who 21 = .ok (.iload_n 2, 1) := by decide +kernel
theorem dX6_who_22 : decode cX6_who 22 = .ok (.ireturn, 1) := by decide +kernel
theorem dX6_who_23 : decode cX6_who 23 = .ok (.aload_n 0, 1) := by decide +kernel
theorem dX6_who_24 : decode cX6_who 24 = .ok (.invokevirtual 117, 3) := by decide +kernel
theorem dX6_who_27 : decode cX6_who 27 = .ok (.aload_n 0, 1) := by decide +kernel
theorem dX6_who_28 : decode cX6_who 28 = .ok (.getfield 45, 3) := by decide +kernel
theorem dX6_who_31 : decode cX6_who 31 = .ok (.iload_n 1, 1) := by decide +kernel
theorem dX6_who_32 : decode cX6_who 32 = .ok (.invokevirtual 131, 3) := by decide +kernel
theorem dX6_who_35 : decode cX6_who 35 = .ok (.ireturn, 1) := by decide +kernel
theorem dX6_next_0 : decode cX6_next 0 = .ok (.aload_n 0, 1) := by decide +kernel
theorem dX6_next_1 : decode cX6_next 1 = .ok (.invokevirtual 117, 3) := by decide +kernel
theorem dX6_next_4 : decode cX6_next 4 = .ok (.iconst (-1), 1) := by decide +kernel
theorem dX6_next_5 : decode cX6_next 5 = .ok (.istore_n 1, 1) := by decide +kernel
theorem dX6_next_6 : decode cX6_next 6 = .ok (.iconst 0, 1) := by decide +kernel
theorem dX6_next_7 : decode cX6_next 7 = .ok (.istore_n 2, 1) := by decide +kernel
theorem dX6_next_8 : decode cX6_next 8 = .ok (.iload_n 2, 1) := by decide +kernel
theorem dX6_next_9 : decode cX6_next 9 = .ok (.aload_n 0, 1) := by decide +kernel
theorem dX6_next_10 : decode cX6_next 10 = .ok (.getfield 93, 3) := by decide +kernel
theorem dX6_next_13 : decode cX6_next 13 = .ok (.if_icmp .ge 37, 3) := by decide +kernel
theorem dX6_next_16 : decode cX6_next 16 = .ok (.aload_n 0, 1) := by decide +kernel
theorem dX6_next_17 : decode cX6_next 17 = .ok (.getfield 45, 3) := by decide +kernel
theorem dX6_next_20 : decode cX6_next 20 = .ok (.iload_n 2, 1) := by decide +kernel
theorem dX6_next_21 : decode cX6_next 21 = .ok (.invokevirtual 131, 3) := by decide +kernel
theorem dX6_next_24 : decode cX6_next 24 = .ok (.iconst (-1), 1) := by decide +kernel
theorem dX6_next_25 : decode cX6_next 25 = .ok (.if_icmp .eq 19, 3) := by decide +kernel
theorem dX6_next_28 : decode cX6_next 28 = .ok (.iload_n 1, 1) := by decide +kernel
theorem dX6_next_29 : decode cX6_next 29 = .ok (.iconst (-1), 1) := by decide +kernel
theorem dX6_next_30 : decode cX6_next 30 = .ok (.if_icmp .eq 12, 3) := by decide +kernel
theorem dX6_next_33 : decode cX6_next 33 = .ok (.aload_n 0, 1) := by decide +kernel
theorem dX6_next_34 : decode cX6_next 34 = .ok (.iload_n 2, 1) := by decide +kernel
theorem dX6_next_35 : decode cX6_next 35 = .ok (.iload_n 1, 1) := by decide +kernel
theorem dX6_next_36 : decode cX6_next 36 = .ok (.invokevirtual 134, 3) := by decide +kernel
theorem dX6_next_39 : decode cX6_next 39 = .ok (.ifCond .eq 5, 3) := by decide +kernel
theorem dX6_next_42 : decode cX6_next 42 = .ok (.iload_n 2, 1) := by decide +kernel
theorem dX6_next_43 : decode cX6_next 43 = .ok (.istore_n 1, 1) := by decide +kernel
theorem dX6_next_44 : decode cX6_next 44 = .ok (.iinc 2 1, 3) := by decide +kernel
theorem dX6_next_47 : decode cX6_next 47 = .ok (.goto (-39), 3) := by decide +kernel
theorem dX6_next_50 : decode cX6_next 50 = .ok (.iload_n 1, 1) := by decide +kernel
theorem dX6_next_51 : decode cX6_next 51 = .ok (.iconst (-1), 1) := by decide +kernel
theorem dX6_next_52 : decode cX6_next 52 = .ok (.if_icmp .ne 7, 3) := by decide +kernel
theorem dX6_next_55 : decode cX6_next 55 = .ok (.iconst (-1), 1) := by decide +kernel
theorem dX6_next_56 : decode cX6_next 56 = .ok (.goto 11, 3) := by decide +kernel
theorem dX6_next_59 : decode cX6_next 59 = .ok (.aload_n 0, 1) := by decide +kernel
theorem dX6_next_60 : decode cX6_next 60 = .ok (.getfield 45, 3) := by decide +kernel
theorem dX6_next_63 : decode cX6_next 63 = .ok (.iload_n 1, 1) := by decide +kernel
theorem dX6_next_64 : decode cX6_next 64 = .ok (.invokevirtual 131, 3) := by decide +kernel
theorem dX6_next_67 : decode cX6_next 67 = .ok (.ireturn, 1) := by decide +kernel
theorem dX6_answer_0 : decode cX6_answer 0 = .ok (.aload_n 0, 1) := by decide +kernel
theorem dX6_answer_1 : decode cX6_answer 1 = .ok (.iload_n 1, 1) := by decide +kernel
theorem dX6_answer_2 : decode cX6_answer 2 = .ok (.invokevirtual 75, 3) := by decide +kernel
theorem dX6_answer_5 : decode cX6_answer 5 = .ok (.astore_n 3, 1) := by decide +kernel
theorem dX6_answer_6 : decode cX6_answer 6 = .ok (.aload_n 3, 1) := by decide +kernel
theorem dX6_answer_7 : decode cX6_answer 7 = .ok (.ifnull 12, 3) := by decide +kernel
theorem dX6_answer_10 : decode cX6_answer 10 = .ok (.iload_n 2, 1) := by decide +kernel
theorem dX6_answer_11 : decode cX6_answer 11 = .ok (.iconst 0, 1) := by decide +kernel
theorem dX6_answer_12 : decode cX6_answer 12 = .ok (.iconst 2, 1) := by decide +kernel
theorem dX6_answer_13 : decode cX6_answer 13 = .ok (.invokestatic 61, 3) := by decide +kernel
theorem dX6_answer_16 : decode cX6_answer 16 = .ok (.ifCond .ne 5, 3) := by decide +kernel
theorem dX6_answer_19 : decode cX6_answer 19 = .ok (.iconst 0, 1) := by decide +kernel
theorem dX6_answer_20 : decode cX6_answer 20 = .ok (.ireturn, 1) := by decide +kernel
theorem dX6_answer_21 : decode cX6_answer 21 = .ok (.aload_n 0, 1) := by decide +kernel
theorem dX6_answer_22 : decode cX6_answer 22 = .ok (.invokevirtual 117, 3) := by decide +kernel
theorem dX6_answer_25 : decode cX6_answer 25 = .ok (.aload_n 0, 1) := by decide +kernel
theorem dX6_answer_26 : decode cX6_answer 26 = .ok (.getfield 45, 3) := by decide +kernel
theorem dX6_answer_29 : decode cX6_answer 29 = .ok (.iload_n 1, 1) := by decide +kernel
theorem dX6_answer_30 : decode cX6_answer 30 = .ok (.invokevirtual 138, 3) := by decide +kernel
theorem dX6_answer_33 : decode cX6_answer 33 = .ok (.istore 4, 2) := by decide +kernel
theorem dX6_answer_35 : decode cX6_answer 35 = .ok (.iload 4, 2) := by decide +kernel
theorem dX6_answer_37 : decode cX6_answer 37 = .ok (.iconst (-1), 1) := by decide +kernel
theorem dX6_answer_38 : decode cX6_answer 38 = .ok (.if_icmp .ne 5, 3) := by decide +kernel
theorem dX6_answer_41 : decode cX6_answer 41 = .ok (.iconst 0, 1) := by decide +kernel
theorem dX6_answer_42 : decode cX6_answer 42 = .ok (.ireturn, 1) := by decide +kernel
theorem dX6_answer_43 : decode cX6_answer 43 = .ok (.aload_n 3, 1) := by decide +kernel
theorem dX6_answer_44 : decode cX6_answer 44 = .ok (.iload_n 2, 1) := by decide +kernel
theorem dX6_answer_45 : decode cX6_answer 45 = .ok (.iload 4, 2) := by decide +kernel
theorem dX6_answer_47 : decode cX6_answer 47 = .ok (.aload_n 0, 1) := by decide +kernel
theorem dX6_answer_48 : decode cX6_answer 48 = .ok (.getfield 19, 3) := by decide +kernel
theorem dX6_answer_51 : decode cX6_answer 51 = .ok (.bipush 6, 2) := by decide +kernel
theorem dX6_answer_53 : decode cX6_answer 53 = .ok (.invokevirtual 141, 3) := by decide +kernel
theorem dX6_answer_56 : decode cX6_answer 56 = .ok (.invokevirtual 144, 3) := by decide +kernel
theorem dX6_answer_59 : decode cX6_answer 59 = .ok (.iconst 1, 1) := by decide +kernel
theorem dX6_answer_60 : decode cX6_answer 60 = .ok (.ireturn, 1) := by decide +kernel
theorem dX6_hall_0 : decode cX6_hall 0 = .ok (.aload_n 0, 1) := by decide +kernel
theorem dX6_hall_1 : decode cX6_hall 1 = .ok (.invokevirtual 147, 3) := by decide +kernel
theorem dX6_hall_4 : decode cX6_hall 4 = .ok (.aload_n 0, 1) := by decide +kernel
theorem dX6_hall_5 : decode cX6_hall 5 = .ok (.getfield 45, 3) := by decide +kernel
theorem dX6_hall_8 : decode cX6_hall 8 = .ok (.invokevirtual 150, 3) := by decide +kernel
theorem dX6_hall_11 : decode cX6_hall 11 = .ok (.ireturn, 1) := by decide +kernel
theorem dX6_day_0 : decode cX6_day 0 = .ok (.aload_n 0, 1) := by decide +kernel
theorem dX6_day_1 : decode cX6_day 1 = .ok (.getfield 106, 3) := by decide +kernel
theorem dX6_day_4 : decode cX6_day 4 = .ok (.sipush 2000, 3) := by decide +kernel
theorem dX6_day_7 : decode cX6_day 7 = .ok (.if_icmp .lt 5, 3) := by decide +kernel
theorem dX6_day_10 : decode cX6_day 10 = .ok (.iconst (-1), 1) := by decide +kernel
theorem dX6_day_11 : decode cX6_day 11 = .ok (.ireturn, 1) := by decide +kernel
theorem dX6_day_12 : decode cX6_day 12 = .ok (.iconst 0, 1) := by decide +kernel
theorem dX6_day_13 : decode cX6_day 13 = .ok (.istore_n 1, 1) := by decide +kernel
theorem dX6_day_14 : decode cX6_day 14 = .ok (.iload_n 1, 1) := by decide +kernel
theorem dX6_day_15 : decode cX6_day 15 = .ok (.aload_n 0, 1) := by decide +kernel
theorem dX6_day_16 : decode cX6_day 16 = .ok (.getfield 69, 3) := by decide +kernel
theorem dX6_day_19 : decode cX6_day 19 = .ok (.if_icmp .ge 14, 3) := by decide +kernel
theorem dX6_day_22 : decode cX6_day 22 = .ok (.aload_n 0, 1) := by decide +kernel
theorem dX6_day_23 : decode cX6_day 23 = .ok (.iload_n 1, 1) := by decide +kernel
theorem dX6_day_24 : decode cX6_day 24 = .ok (.invokevirtual 153, 3) := by decide +kernel
theorem dX6_day_27 : decode cX6_day 27 = .ok (.iinc 1 1, 3) := by decide +kernel
theorem dX6_day_30 : decode cX6_day 30 = .ok (.goto (-16), 3) := by decide +kernel
theorem dX6_day_33 : decode cX6_day 33 = .ok (.aload_n 0, 1) := by decide +kernel
theorem dX6_day_34 : decode cX6_day 34 = .ok (.iconst 0, 1) := by decide +kernel
theorem dX6_day_35 : decode cX6_day 35 = .ok (.putfield 93, 3) := by decide +kernel
theorem dX6_day_38 : decode cX6_day 38 = .ok (.aload_n 0, 1) := by decide +kernel
theorem dX6_day_39 : decode cX6_day 39 = .ok (.dup, 1) := by decide +kernel
theorem dX6_day_40 : decode cX6_day 40 = .ok (.getfield 106, 3) := by decide +kernel
theorem dX6_day_43 : decode cX6_day 43 = .ok (.iconst 1, 1) := by decide +kernel
theorem dX6_day_44 : decode cX6_day 44 = .ok (.iadd, 1) := by decide +kernel
theorem dX6_day_45 : decode cX6_day 45 = .ok (.putfield 106, 3) := by decide +kernel
theorem dX6_day_48 : decode cX6_day 48 = .ok (.aload_n 0, 1) := by decide +kernel
theorem dX6_day_49 : decode cX6_day 49 = .ok (.getfield 106, 3) := by decide +kernel
theorem dX6_day_52 : decode cX6_day 52 = .ok (.ireturn, 1) := by decide +kernel
theorem dX6_pay_0 : decode cX6_pay 0 = .ok (.aload_n 0, 1) := by decide +kernel
theorem dX6_pay_1 : decode cX6_pay 1 = .ok (.iload_n 1, 1) := by decide +kernel
theorem dX6_pay_2 : decode cX6_pay 2 = .ok (.invokevirtual 75, 3) := by decide +kernel
theorem dX6_pay_5 : decode cX6_pay 5 = .ok (.astore_n 2, 1) := by decide +kernel
theorem dX6_pay_6 : decode cX6_pay 6 = .ok (.aload_n 2, 1) := by decide +kernel
theorem dX6_pay_7 : decode cX6_pay 7 = .ok (.ifnonnull 7, 3) := by decide +kernel
theorem dX6_pay_10 : decode cX6_pay 10 = .ok (.lconst 0, 1) := by decide +kernel
theorem dX6_pay_11 : decode cX6_pay 11 = .ok (.goto 7, 3) := by decide +kernel
theorem dX6_pay_14 : decode cX6_pay 14 = .ok (.aload_n 2, 1) := by decide +kernel
theorem dX6_pay_15 : decode cX6_pay 15 = .ok (.getfield 156, 3) := by decide +kernel
theorem dX6_pay_18 : decode cX6_pay 18 = .ok (.lreturn, 1) := by decide +kernel
theorem dX6_strangers_0 : decode cX6_strangers 0 = .ok (.iload_n 1, 1) := by decide +kernel
theorem dX6_strangers_1 : decode cX6_strangers 1 = .ok (.invokestatic 79, 3) := by decide +kernel
theorem dX6_strangers_4 : decode cX6_strangers 4 = .ok (.ifCond .eq 10, 3) := by decide +kernel
theorem dX6_strangers_7 : decode cX6_strangers 7 = .ok (.iload_n 2, 1) := by decide +kernel
theorem dX6_strangers_8 : decode cX6_strangers 8 = .ok (.invokestatic 96, 3) := by decide +kernel
theorem dX6_strangers_11 : decode cX6_strangers 11 = .ok (.ifCond .ne 5, 3) := by decide +kernel
theorem dX6_strangers_14 : decode cX6_strangers 14 = .ok (.iconst (-1), 1) := by decide +kernel
theorem dX6_strangers_15 : decode cX6_strangers 15 = .ok (.ireturn, 1) := by decide +kernel
theorem dX6_strangers_16 : decode cX6_strangers 16 = .ok (.aload_n 0, 1) := by decide +kernel
theorem dX6_strangers_17 : decode cX6_strangers 17 = .ok (.getfield 38, 3) := by decide +kernel
theorem dX6_strangers_20 : decode cX6_strangers 20 = .ok (.iload_n 1, 1) := by decide +kernel
theorem dX6_strangers_21 : decode cX6_strangers 21 = .ok (.iload_n 2, 1) := by decide +kernel
theorem dX6_strangers_22 : decode cX6_strangers 22 = .ok (.aload_n 0, 1) := by decide +kernel
theorem dX6_strangers_23 : decode cX6_strangers 23 = .ok (.getfield 106, 3) := by decide +kernel
theorem dX6_strangers_26 : decode cX6_strangers 26 = .ok (.invokevirtual 160, 3) := by decide +kernel
theorem dX6_strangers_29 : decode cX6_strangers 29 = .ok (.ireturn, 1) := by decide +kernel
theorem dX6_look_0 : decode cX6_look 0 = .ok (.aload_n 0, 1) := by decide +kernel
theorem dX6_look_1 : decode cX6_look 1 = .ok (.iload_n 1, 1) := by decide +kernel
theorem dX6_look_2 : decode cX6_look 2 = .ok (.invokevirtual 75, 3) := by decide +kernel
theorem dX6_look_5 : decode cX6_look 5 = .ok (.astore_n 3, 1) := by decide +kernel
theorem dX6_look_6 : decode cX6_look 6 = .ok (.aload_n 3, 1) := by decide +kernel
theorem dX6_look_7 : decode cX6_look 7 = .ok (.ifnonnull 5, 3) := by decide +kernel
theorem dX6_look_10 : decode cX6_look 10 = .ok (.iconst (-1), 1) := by decide +kernel
theorem dX6_look_11 : decode cX6_look 11 = .ok (.ireturn, 1) := by decide +kernel
theorem dX6_look_12 : decode cX6_look 12 = .ok (.iload_n 2, 1) := by decide +kernel
theorem dX6_look_13 : decode cX6_look 13 = .ok (.tableswitch 96 0 8 #[51, 56, 61, 66, 71, 76, 81, 86, 91], 51) := by decide +kernel
theorem dX6_look_64 : decode cX6_look 64 = .ok (.aload_n 3, 1) := by decide +kernel
theorem dX6_look_65 : decode cX6_look 65 = .ok (.getfield 164, 3) := by decide +kernel
theorem dX6_look_68 : decode cX6_look 68 = .ok (.ireturn, 1) := by decide +kernel
theorem dX6_look_69 : decode cX6_look 69 = .ok (.aload_n 3, 1) := by decide +kernel
theorem dX6_look_70 : decode cX6_look 70 = .ok (.getfield 167, 3) := by decide +kernel
theorem dX6_look_73 : decode cX6_look 73 = .ok (.ireturn, 1) := by decide +kernel
theorem dX6_look_74 : decode cX6_look 74 = .ok (.aload_n 3, 1) := by decide +kernel
theorem dX6_look_75 : decode cX6_look 75 = .ok (.getfield 170, 3) := by decide +kernel
theorem dX6_look_78 : decode cX6_look 78 = .ok (.ireturn, 1) := by decide +kernel
theorem dX6_look_79 : decode cX6_look 79 = .ok (.aload_n 3, 1) := by decide +kernel
theorem dX6_look_80 : decode cX6_look 80 = .ok (.getfield 173, 3) := by decide +kernel
theorem dX6_look_83 : decode cX6_look 83 = .ok (.ireturn, 1) := by decide +kernel
theorem dX6_look_84 : decode cX6_look 84 = .ok (.aload_n 3, 1) := by decide +kernel
theorem dX6_look_85 : decode cX6_look 85 = .ok (.getfield 176, 3) := by decide +kernel
theorem dX6_look_88 : decode cX6_look 88 = .ok (.ireturn, 1) := by decide +kernel
theorem dX6_look_89 : decode cX6_look 89 = .ok (.aload_n 3, 1) := by decide +kernel
theorem dX6_look_90 : decode cX6_look 90 = .ok (.getfield 179, 3) := by decide +kernel
theorem dX6_look_93 : decode cX6_look 93 = .ok (.ireturn, 1) := by decide +kernel
theorem dX6_look_94 : decode cX6_look 94 = .ok (.aload_n 3, 1) := by decide +kernel
theorem dX6_look_95 : decode cX6_look 95 = .ok (.getfield 182, 3) := by decide +kernel
theorem dX6_look_98 : decode cX6_look 98 = .ok (.ireturn, 1) := by decide +kernel
theorem dX6_look_99 : decode cX6_look 99 = .ok (.aload_n 3, 1) := by decide +kernel
theorem dX6_look_100 : decode cX6_look 100 = .ok (.getfield 87, 3) := by decide +kernel
theorem dX6_look_103 : decode cX6_look 103 = .ok (.ireturn, 1) := by decide +kernel
theorem dX6_look_104 : decode cX6_look 104 = .ok (.aload_n 3, 1) := by decide +kernel
theorem dX6_look_105 : decode cX6_look 105 = .ok (.getfield 90, 3) := by decide +kernel
theorem dX6_look_108 : decode cX6_look 108 = .ok (.ireturn, 1) := by decide +kernel
theorem dX6_look_109 : decode cX6_look 109 = .ok (.iload_n 2, 1) := by decide +kernel
theorem dX6_look_110 : decode cX6_look 110 = .ok (.bipush 10, 2) := by decide +kernel
theorem dX6_look_112 : decode cX6_look 112 = .ok (.bipush 15, 2) := by decide +kernel
theorem dX6_look_114 : decode cX6_look 114 = .ok (.invokestatic 61, 3) := by decide +kernel
theorem dX6_look_117 : decode cX6_look 117 = .ok (.ifCond .eq 14, 3) := by decide +kernel
theorem dX6_look_120 : decode cX6_look 120 = .ok (.aload_n 3, 1) := by decide +kernel
theorem dX6_look_121 : decode cX6_look 121 = .ok (.iload_n 2, 1) := by decide +kernel
theorem dX6_look_122 : decode cX6_look 122 = .ok (.bipush 10, 2) := by decide +kernel
theorem dX6_look_124 : decode cX6_look 124 = .ok (.isub, 1) := by decide +kernel
theorem dX6_look_125 : decode cX6_look 125 = .ok (.invokevirtual 185, 3) := by decide +kernel
theorem dX6_look_128 : decode cX6_look 128 = .ok (.goto 4, 3) := by decide +kernel
theorem dX6_look_131 : decode cX6_look 131 = .ok (.iconst (-1), 1) := by decide +kernel
theorem dX6_look_132 : decode cX6_look 132 = .ok (.ireturn, 1) := by decide +kernel
theorem dX6_about_0 : decode cX6_about 0 = .ok (.aload_n 0, 1) := by decide +kernel
theorem dX6_about_1 : decode cX6_about 1 = .ok (.iload_n 1, 1) := by decide +kernel
theorem dX6_about_2 : decode cX6_about 2 = .ok (.invokevirtual 102, 3) := by decide +kernel
theorem dX6_about_5 : decode cX6_about 5 = .ok (.astore_n 3, 1) := by decide +kernel
theorem dX6_about_6 : decode cX6_about 6 = .ok (.aload_n 3, 1) := by decide +kernel
theorem dX6_about_7 : decode cX6_about 7 = .ok (.ifnonnull 5, 3) := by decide +kernel
theorem dX6_about_10 : decode cX6_about 10 = .ok (.iconst (-1), 1) := by decide +kernel
theorem dX6_about_11 : decode cX6_about 11 = .ok (.ireturn, 1) := by decide +kernel
theorem dX6_about_12 : decode cX6_about 12 = .ok (.iload_n 2, 1) := by decide +kernel
theorem dX6_about_13 : decode cX6_about 13 = .ok (.tableswitch 60 0 4 #[35, 40, 45, 50, 55], 35) := by decide +kernel
theorem dX6_about_48 : decode cX6_about 48 = .ok (.aload_n 3, 1) := by decide +kernel
theorem dX6_about_49 : decode cX6_about 49 = .ok (.getfield 188, 3) := by decide +kernel
theorem dX6_about_52 : decode cX6_about 52 = .ok (.ireturn, 1) := by decide +kernel
theorem dX6_about_53 : decode cX6_about 53 = .ok (.aload_n 3, 1) := by decide +kernel
theorem dX6_about_54 : decode cX6_about 54 = .ok (.getfield 191, 3) := by decide +kernel
theorem dX6_about_57 : decode cX6_about 57 = .ok (.ireturn, 1) := by decide +kernel
theorem dX6_about_58 : decode cX6_about 58 = .ok (.aload_n 3, 1) := by decide +kernel
theorem dX6_about_59 : decode cX6_about 59 = .ok (.getfield 194, 3) := by decide +kernel
theorem dX6_about_62 : decode cX6_about 62 = .ok (.ireturn, 1) := by decide +kernel
theorem dX6_about_63 : decode cX6_about 63 = .ok (.aload_n 3, 1) := by decide +kernel
theorem dX6_about_64 : decode cX6_about 64 = .ok (.getfield 197, 3) := by decide +kernel
theorem dX6_about_67 : decode cX6_about 67 = .ok (.ireturn, 1) := by decide +kernel
theorem dX6_about_68 : decode cX6_about 68 = .ok (.aload_n 3, 1) := by decide +kernel
theorem dX6_about_69 : decode cX6_about 69 = .ok (.getfield 200, 3) := by decide +kernel
theorem dX6_about_72 : decode cX6_about 72 = .ok (.ireturn, 1) := by decide +kernel
theorem dX6_about_73 : decode cX6_about 73 = .ok (.iconst (-1), 1) := by decide +kernel
theorem dX6_about_74 : decode cX6_about 74 = .ok (.ireturn, 1) := by decide +kernel
theorem dX6_count_0 : decode cX6_count 0 = .ok (.iload_n 1, 1) := by decide +kernel
theorem dX6_count_1 : decode cX6_count 1 = .ok (.tableswitch 86 0 6 #[43, 48, 53, 58, 64, 70, 78], 43) := by decide +kernel
theorem dX6_count_44 : decode cX6_count 44 = .ok (.aload_n 0, 1) := by decide +kernel
theorem dX6_count_45 : decode cX6_count 45 = .ok (.getfield 106, 3) := by decide +kernel
theorem dX6_count_48 : decode cX6_count 48 = .ok (.ireturn, 1) := by decide +kernel
theorem dX6_count_49 : decode cX6_count 49 = .ok (.aload_n 0, 1) := by decide +kernel
theorem dX6_count_50 : decode cX6_count 50 = .ok (.getfield 69, 3) := by decide +kernel
theorem dX6_count_53 : decode cX6_count 53 = .ok (.ireturn, 1) := by decide +kernel
theorem dX6_count_54 : decode cX6_count 54 = .ok (.aload_n 0, 1) := by decide +kernel
theorem dX6_count_55 : decode cX6_count 55 = .ok (.getfield 93, 3) := by decide +kernel
theorem dX6_count_58 : decode cX6_count 58 = .ok (.ireturn, 1) := by decide +kernel
theorem dX6_count_59 : decode cX6_count 59 = .ok (.aload_n 0, 1) := by decide +kernel
theorem dX6_count_60 : decode cX6_count 60 = .ok (.iconst 1, 1) := by decide +kernel
theorem dX6_count_61 : decode cX6_count 61 = .ok (.invokevirtual 203, 3) := by decide +kernel
theorem dX6_count_64 : decode cX6_count 64 = .ok (.ireturn, 1) := by decide +kernel
theorem dX6_count_65 : decode cX6_count 65 = .ok (.aload_n 0, 1) := by decide +kernel
theorem dX6_count_66 : decode cX6_count 66 = .ok (.iconst 2, 1) := by decide +kernel
theorem dX6_count_67 : decode cX6_count 67 = .ok (.invokevirtual 203, 3) := by decide +kernel
theorem dX6_count_70 : decode cX6_count 70 = .ok (.ireturn, 1) := by decide +kernel
theorem dX6_count_71 : decode cX6_count 71 = .ok (.aload_n 0, 1) := by decide +kernel
theorem dX6_count_72 : decode cX6_count 72 = .ok (.getfield 10, 3) := by decide +kernel
theorem dX6_count_75 : decode cX6_count 75 = .ok (.getfield 57, 3) := by decide +kernel
theorem dX6_count_78 : decode cX6_count 78 = .ok (.ireturn, 1) := by decide +kernel
theorem dX6_count_79 : decode cX6_count 79 = .ok (.aload_n 0, 1) := by decide +kernel
theorem dX6_count_80 : decode cX6_count 80 = .ok (.getfield 38, 3) := by decide +kernel
theorem dX6_count_83 : decode cX6_count 83 = .ok (.getfield 206, 3) := by decide +kernel
theorem dX6_count_86 : decode cX6_count 86 = .ok (.ireturn, 1) := by decide +kernel
theorem dX6_count_87 : decode cX6_count 87 = .ok (.iload_n 1, 1) := by decide +kernel
theorem dX6_count_88 : decode cX6_count 88 = .ok (.bipush 10, 2) := by decide +kernel
theorem dX6_count_90 : decode cX6_count 90 = .ok (.bipush 16, 2) := by decide +kernel
theorem dX6_count_92 : decode cX6_count 92 = .ok (.invokestatic 61, 3) := by decide +kernel
theorem dX6_count_95 : decode cX6_count 95 = .ok (.ifCond .eq 17, 3) := by decide +kernel
theorem dX6_count_98 : decode cX6_count 98 = .ok (.aload_n 0, 1) := by decide +kernel
theorem dX6_count_99 : decode cX6_count 99 = .ok (.getfield 19, 3) := by decide +kernel
theorem dX6_count_102 : decode cX6_count 102 = .ok (.iload_n 1, 1) := by decide +kernel
theorem dX6_count_103 : decode cX6_count 103 = .ok (.bipush 10, 2) := by decide +kernel
theorem dX6_count_105 : decode cX6_count 105 = .ok (.isub, 1) := by decide +kernel
theorem dX6_count_106 : decode cX6_count 106 = .ok (.invokevirtual 141, 3) := by decide +kernel
theorem dX6_count_109 : decode cX6_count 109 = .ok (.goto 4, 3) := by decide +kernel
theorem dX6_count_112 : decode cX6_count 112 = .ok (.iconst (-1), 1) := by decide +kernel
theorem dX6_count_113 : decode cX6_count 113 = .ok (.ireturn, 1) := by decide +kernel
theorem dX6_within_0 : decode cX6_within 0 = .ok (.iload_n 0, 1) := by decide +kernel
theorem dX6_within_1 : decode cX6_within 1 = .ok (.iload_n 1, 1) := by decide +kernel
theorem dX6_within_2 : decode cX6_within 2 = .ok (.if_icmp .lt 12, 3) := by decide +kernel
theorem dX6_within_5 : decode cX6_within 5 = .ok (.iload_n 0, 1) := by decide +kernel
theorem dX6_within_6 : decode cX6_within 6 = .ok (.iload_n 2, 1) := by decide +kernel
theorem dX6_within_7 : decode cX6_within 7 = .ok (.if_icmp .gt 7, 3) := by decide +kernel
theorem dX6_within_10 : decode cX6_within 10 = .ok (.iconst 1, 1) := by decide +kernel
theorem dX6_within_11 : decode cX6_within 11 = .ok (.goto 4, 3) := by decide +kernel
theorem dX6_within_14 : decode cX6_within 14 = .ok (.iconst 0, 1) := by decide +kernel
theorem dX6_within_15 : decode cX6_within 15 = .ok (.ireturn, 1) := by decide +kernel
theorem dX6_isSchool_0 : decode cX6_isSchool 0 = .ok (.iload_n 0, 1) := by decide +kernel
theorem dX6_isSchool_1 : decode cX6_isSchool 1 = .ok (.iconst 0, 1) := by decide +kernel
theorem dX6_isSchool_2 : decode cX6_isSchool 2 = .ok (.iconst 5, 1) := by decide +kernel
theorem dX6_isSchool_3 : decode cX6_isSchool 3 = .ok (.invokestatic 61, 3) := by decide +kernel
theorem dX6_isSchool_6 : decode cX6_isSchool 6 = .ok (.ireturn, 1) := by decide +kernel
theorem dX6_isClass_0 : decode cX6_isClass 0 = .ok (.iload_n 0, 1) := by decide +kernel
theorem dX6_isClass_1 : decode cX6_isClass 1 = .ok (.iconst 0, 1) := by decide +kernel
theorem dX6_isClass_2 : decode cX6_isClass 2 = .ok (.bipush 15, 2) := by decide +kernel
theorem dX6_isClass_4 : decode cX6_isClass 4 = .ok (.invokestatic 61, 3) := by decide +kernel
theorem dX6_isClass_7 : decode cX6_isClass 7 = .ok (.ireturn, 1) := by decide +kernel
theorem dX6_hasBit_0 : decode cX6_hasBit 0 = .ok (.iload_n 0, 1) := by decide +kernel
theorem dX6_hasBit_1 : decode cX6_hasBit 1 = .ok (.iload_n 1, 1) := by decide +kernel
theorem dX6_hasBit_2 : decode cX6_hasBit 2 = .ok (.ishr, 1) := by decide +kernel
theorem dX6_hasBit_3 : decode cX6_hasBit 3 = .ok (.iconst 1, 1) := by decide +kernel
theorem dX6_hasBit_4 : decode cX6_hasBit 4 = .ok (.iand, 1) := by decide +kernel
theorem dX6_hasBit_5 : decode cX6_hasBit 5 = .ok (.iconst 1, 1) := by decide +kernel
theorem dX6_hasBit_6 : decode cX6_hasBit 6 = .ok (.if_icmp .ne 7, 3) := by decide +kernel
theorem dX6_hasBit_9 : decode cX6_hasBit 9 = .ok (.iconst 1, 1) := by decide +kernel
theorem dX6_hasBit_10 : decode cX6_hasBit 10 = .ok (.goto 4, 3) := by decide +kernel
theorem dX6_hasBit_13 : decode cX6_hasBit 13 = .ok (.iconst 0, 1) := by decide +kernel
theorem dX6_hasBit_14 : decode cX6_hasBit 14 = .ok (.ireturn, 1) := by decide +kernel
theorem dX6_teacherAt_0 : decode cX6_teacherAt 0 = .ok (.iload_n 1, 1) := by decide +kernel
theorem dX6_teacherAt_1 : decode cX6_teacherAt 1 = .ok (.iconst 0, 1) := by decide +kernel
theorem dX6_teacherAt_2 : decode cX6_teacherAt 2 = .ok (.aload_n 0, 1) := by decide +kernel
theorem dX6_teacherAt_3 : decode cX6_teacherAt 3 = .ok (.getfield 69, 3) := by decide +kernel
theorem dX6_teacherAt_6 : decode cX6_teacherAt 6 = .ok (.iconst 1, 1) := by decide +kernel
theorem dX6_teacherAt_7 : decode cX6_teacherAt 7 = .ok (.isub, 1) := by decide +kernel
theorem dX6_teacherAt_8 : decode cX6_teacherAt 8 = .ok (.invokestatic 61, 3) := by decide +kernel
theorem dX6_teacherAt_11 : decode cX6_teacherAt 11 = .ok (.ifCond .eq 12, 3) := by decide +kernel
theorem dX6_teacherAt_14 : decode cX6_teacherAt 14 = .ok (.aload_n 0, 1) := by decide +kernel
theorem dX6_teacherAt_15 : decode cX6_teacherAt 15 = .ok (.getfield 25, 3) := by decide +kernel
theorem dX6_teacherAt_18 : decode cX6_teacherAt 18 = .ok (.iload_n 1, 1) := by decide +kernel
theorem dX6_teacherAt_19 : decode cX6_teacherAt 19 = .ok (.aaload, 1) := by decide +kernel
theorem dX6_teacherAt_20 : decode cX6_teacherAt 20 = .ok (.goto 4, 3) := by decide +kernel
theorem dX6_teacherAt_23 : decode cX6_teacherAt 23 = .ok (.aconst_null, 1) := by decide +kernel
theorem dX6_teacherAt_24 : decode cX6_teacherAt 24 = .ok (.areturn, 1) := by decide +kernel
theorem dX6_gapAt_0 : decode cX6_gapAt 0 = .ok (.iload_n 1, 1) := by decide +kernel
theorem dX6_gapAt_1 : decode cX6_gapAt 1 = .ok (.iconst 0, 1) := by decide +kernel
theorem dX6_gapAt_2 : decode cX6_gapAt 2 = .ok (.aload_n 0, 1) := by decide +kernel
theorem dX6_gapAt_3 : decode cX6_gapAt 3 = .ok (.getfield 93, 3) := by decide +kernel
theorem dX6_gapAt_6 : decode cX6_gapAt 6 = .ok (.iconst 1, 1) := by decide +kernel
theorem dX6_gapAt_7 : decode cX6_gapAt 7 = .ok (.isub, 1) := by decide +kernel
theorem dX6_gapAt_8 : decode cX6_gapAt 8 = .ok (.invokestatic 61, 3) := by decide +kernel
theorem dX6_gapAt_11 : decode cX6_gapAt 11 = .ok (.ifCond .eq 12, 3) := by decide +kernel
theorem dX6_gapAt_14 : decode cX6_gapAt 14 = .ok (.aload_n 0, 1) := by decide +kernel
theorem dX6_gapAt_15 : decode cX6_gapAt 15 = .ok (.getfield 31, 3) := by decide +kernel
theorem dX6_gapAt_18 : decode cX6_gapAt 18 = .ok (.iload_n 1, 1) := by decide +kernel
theorem dX6_gapAt_19 : decode cX6_gapAt 19 = .ok (.aaload, 1) := by decide +kernel
theorem dX6_gapAt_20 : decode cX6_gapAt 20 = .ok (.goto 4, 3) := by decide +kernel
theorem dX6_gapAt_23 : decode cX6_gapAt 23 = .ok (.aconst_null, 1) := by decide +kernel
theorem dX6_gapAt_24 : decode cX6_gapAt 24 = .ok (.areturn, 1) := by decide +kernel
theorem dX6_sentTo_0 : decode cX6_sentTo 0 = .ok (.iconst 0, 1) := by decide +kernel
theorem dX6_sentTo_1 : decode cX6_sentTo 1 = .ok (.istore_n 2, 1) := by decide +kernel
theorem dX6_sentTo_2 : decode cX6_sentTo 2 = .ok (.iload_n 2, 1) := by decide +kernel
theorem dX6_sentTo_3 : decode cX6_sentTo 3 = .ok (.aload_n 0, 1) := by decide +kernel
theorem dX6_sentTo_4 : decode cX6_sentTo 4 = .ok (.getfield 69, 3) := by decide +kernel
theorem dX6_sentTo_7 : decode cX6_sentTo 7 = .ok (.if_icmp .ge 37, 3) := by decide +kernel
theorem dX6_sentTo_10 : decode cX6_sentTo 10 = .ok (.aload_n 0, 1) := by decide +kernel
theorem dX6_sentTo_11 : decode cX6_sentTo 11 = .ok (.iload_n 2, 1) := by decide +kernel
theorem dX6_sentTo_12 : decode cX6_sentTo 12 = .ok (.invokevirtual 75, 3) := by decide +kernel
theorem dX6_sentTo_15 : decode cX6_sentTo 15 = .ok (.astore_n 3, 1) := by decide +kernel
theorem dX6_sentTo_16 : decode cX6_sentTo 16 = .ok (.aload_n 3, 1) := by decide +kernel
theorem dX6_sentTo_17 : decode cX6_sentTo 17 = .ok (.ifnull 21, 3) := by decide +kernel
theorem dX6_sentTo_20 : decode cX6_sentTo 20 = .ok (.aload_n 3, 1) := by decide +kernel
theorem dX6_sentTo_21 : decode cX6_sentTo 21 = .ok (.getfield 173, 3) := by decide +kernel
theorem dX6_sentTo_24 : decode cX6_sentTo 24 = .ok (.iconst 1, 1) := by decide +kernel
theorem dX6_sentTo_25 : decode cX6_sentTo 25 = .ok (.if_icmp .ne 13, 3) := by decide +kernel
theorem dX6_sentTo_28 : decode cX6_sentTo 28 = .ok (.aload_n 3, 1) := by decide +kernel
theorem dX6_sentTo_29 : decode cX6_sentTo 29 = .ok (.getfield 176, 3) := by decide +kernel
theorem dX6_sentTo_32 : decode cX6_sentTo 32 = .ok (.iload_n 1, 1) := by decide +kernel
theorem dX6_sentTo_33 : decode cX6_sentTo 33 = .ok (.if_icmp .ne 5, 3) := by decide +kernel
theorem dX6_sentTo_36 : decode cX6_sentTo 36 = .ok (.iload_n 2, 1) := by decide +kernel
theorem dX6_sentTo_37 : decode cX6_sentTo 37 = .ok (.ireturn, 1) := by decide +kernel
theorem dX6_sentTo_38 : decode cX6_sentTo 38 = .ok (.iinc 2 1, 3) := by decide +kernel
theorem dX6_sentTo_41 : decode cX6_sentTo 41 = .ok (.goto (-39), 3) := by decide +kernel
theorem dX6_sentTo_44 : decode cX6_sentTo 44 = .ok (.iconst (-1), 1) := by decide +kernel
theorem dX6_sentTo_45 : decode cX6_sentTo 45 = .ok (.ireturn, 1) := by decide +kernel
theorem dX6_countInState_0 : decode cX6_countInState 0 = .ok (.iconst 0, 1) := by decide +kernel
theorem dX6_countInState_1 : decode cX6_countInState 1 = .ok (.istore_n 2, 1) := by decide +kernel
theorem dX6_countInState_2 : decode cX6_countInState 2 = .ok (.iconst 0, 1) := by decide +kernel
theorem dX6_countInState_3 : decode cX6_countInState 3 = .ok (.istore_n 3, 1) := by decide +kernel
theorem dX6_countInState_4 : decode cX6_countInState 4 = .ok (.iload_n 3, 1) := by decide +kernel
theorem dX6_countInState_5 : decode cX6_countInState 5 = .ok (.aload_n 0, 1) := by decide +kernel
theorem dX6_countInState_6 : decode cX6_countInState 6 = .ok (.getfield 69, 3) := by decide +kernel
theorem dX6_countInState_9 : decode cX6_countInState 9 = .ok (.if_icmp .ge 33, 3) := by decide +kernel
theorem dX6_countInState_12 : decode cX6_countInState 12 = .ok (.aload_n 0, 1) := by decide +kernel
theorem dX6_countInState_13 : decode cX6_countInState 13 = .ok (.iload_n 3, 1) := by decide +kernel
theorem dX6_countInState_14 : decode cX6_countInState 14 = .ok (.invokevirtual 75, 3) := by decide +kernel
theorem dX6_countInState_17 : decode cX6_countInState 17 = .ok (.astore 4, 2) := by decide +kernel
theorem dX6_countInState_19 : decode cX6_countInState 19 = .ok (.aload 4, 2) := by decide +kernel
theorem dX6_countInState_21 : decode cX6_countInState 21 = .ok (.ifnull 15, 3) := by decide +kernel
theorem dX6_countInState_24 : decode cX6_countInState 24 = .ok (.aload 4, 2) := by decide +kernel
theorem dX6_countInState_26 : decode cX6_countInState 26 = .ok (.getfield 173, 3) := by decide +kernel
theorem dX6_countInState_29 : decode cX6_countInState 29 = .ok (.iload_n 1, 1) := by decide +kernel
theorem dX6_countInState_30 : decode cX6_countInState 30 = .ok (.if_icmp .ne 6, 3) := by decide +kernel
theorem dX6_countInState_33 : decode cX6_countInState 33 = .ok (.iinc 2 1, 3) := by decide +kernel
theorem dX6_countInState_36 : decode cX6_countInState 36 = .ok (.iinc 3 1, 3) := by decide +kernel
theorem dX6_countInState_39 : decode cX6_countInState 39 = .ok (.goto (-35), 3) := by decide +kernel
theorem dX6_countInState_42 : decode cX6_countInState 42 = .ok (.iload_n 2, 1) := by decide +kernel
theorem dX6_countInState_43 : decode cX6_countInState 43 = .ok (.ireturn, 1) := by decide +kernel
theorem dX6_findMatch_0 : decode cX6_findMatch 0 = .ok (.aload_n 0, 1) := by decide +kernel
theorem dX6_findMatch_1 : decode cX6_findMatch 1 = .ok (.invokevirtual 147, 3) := by decide +kernel
theorem dX6_findMatch_4 : decode cX6_findMatch 4 = .ok (.aload_n 0, 1) := by decide +kernel
theorem dX6_findMatch_5 : decode cX6_findMatch 5 = .ok (.getfield 45, 3) := by decide +kernel
theorem dX6_findMatch_8 : decode cX6_findMatch 8 = .ok (.invokevirtual 209, 3) := by decide +kernel
theorem dX6_findMatch_11 : decode cX6_findMatch 11 = .ok (.return_, 1) := by decide +kernel
theorem dX6_offerAll_0 : decode cX6_offerAll 0 = .ok (.aload_n 0, 1) := by decide +kernel
theorem dX6_offerAll_1 : decode cX6_offerAll 1 = .ok (.getfield 45, 3) := by decide +kernel
theorem dX6_offerAll_4 : decode cX6_offerAll 4 = .ok (.invokevirtual 212, 3) := by decide +kernel
theorem dX6_offerAll_7 : decode cX6_offerAll 7 = .ok (.iconst 0, 1) := by decide +kernel
theorem dX6_offerAll_8 : decode cX6_offerAll 8 = .ok (.istore_n 1, 1) := by decide +kernel
theorem dX6_offerAll_9 : decode cX6_offerAll 9 = .ok (.iload_n 1, 1) := by decide +kernel
theorem dX6_offerAll_10 : decode cX6_offerAll 10 = .ok (.aload_n 0, 1) := by decide +kernel
theorem dX6_offerAll_11 : decode cX6_offerAll 11 = .ok (.getfield 93, 3) := by decide +kernel
theorem dX6_offerAll_14 : decode cX6_offerAll 14 = .ok (.if_icmp .ge 42, 3) := by decide +kernel
theorem dX6_offerAll_17 : decode cX6_offerAll 17 = .ok (.aload_n 0, 1) := by decide +kernel
theorem dX6_offerAll_18 : decode cX6_offerAll 18 = .ok (.iload_n 1, 1) := by decide +kernel
theorem dX6_offerAll_19 : decode cX6_offerAll 19 = .ok (.invokevirtual 102, 3) := by decide +kernel
theorem dX6_offerAll_22 : decode cX6_offerAll 22 = .ok (.astore_n 2, 1) := by decide +kernel
theorem dX6_offerAll_23 : decode cX6_offerAll 23 = .ok (.aload_n 2, 1) := by decide +kernel
theorem dX6_offerAll_24 : decode cX6_offerAll 24 = .ok (.ifnull 26, 3) := by decide +kernel
theorem dX6_offerAll_27 : decode cX6_offerAll 27 = .ok (.aload_n 0, 1) := by decide +kernel
theorem dX6_offerAll_28 : decode cX6_offerAll 28 = .ok (.iload_n 1, 1) := by decide +kernel
theorem dX6_offerAll_29 : decode cX6_offerAll 29 = .ok (.invokevirtual 127, 3) := by decide +kernel
theorem dX6_offerAll_32 : decode cX6_offerAll 32 = .ok (.iconst (-1), 1) := by decide +kernel
theorem dX6_offerAll_33 : decode cX6_offerAll 33 = .ok (.if_icmp .ne 17, 3) := by decide +kernel
theorem dX6_offerAll_36 : decode cX6_offerAll 36 = .ok (.aload_n 0, 1) := by decide +kernel
theorem dX6_offerAll_37 : decode cX6_offerAll 37 = .ok (.getfield 45, 3) := by decide +kernel
theorem dX6_offerAll_40 : decode cX6_offerAll 40 = .ok (.iload_n 1, 1) := by decide +kernel
theorem dX6_offerAll_41 : decode cX6_offerAll 41 = .ok (.invokevirtual 215, 3) := by decide +kernel
theorem dX6_offerAll_44 : decode cX6_offerAll 44 = .ok (.aload_n 0, 1) := by decide +kernel
theorem dX6_offerAll_45 : decode cX6_offerAll 45 = .ok (.iload_n 1, 1) := by decide +kernel
theorem dX6_offerAll_46 : decode cX6_offerAll 46 = .ok (.aload_n 2, 1) := by decide +kernel
theorem dX6_offerAll_47 : decode cX6_offerAll 47 = .ok (.invokevirtual 218, 3) := by decide +kernel
theorem dX6_offerAll_50 : decode cX6_offerAll 50 = .ok (.iinc 1 1, 3) := by decide +kernel
theorem dX6_offerAll_53 : decode cX6_offerAll 53 = .ok (.goto (-44), 3) := by decide +kernel
theorem dX6_offerAll_56 : decode cX6_offerAll 56 = .ok (.return_, 1) := by decide +kernel
theorem dX6_offerTeachers_0 : decode cX6_offerTeachers 0 = .ok (.iconst 0, 1) := by decide +kernel
theorem dX6_offerTeachers_1 : decode cX6_offerTeachers 1 = .ok (.istore_n 3, 1) := by decide +kernel
theorem dX6_offerTeachers_2 : decode cX6_offerTeachers 2 = .ok (.iload_n 3, 1) := by decide +kernel
theorem dX6_offerTeachers_3 : decode cX6_offerTeachers 3 = .ok (.aload_n 0, 1) := by decide +kernel
theorem dX6_offerTeachers_4 : decode cX6_offerTeachers 4 = .ok (.getfield 69, 3) := by decide +kernel
theorem dX6_offerTeachers_7 : decode cX6_offerTeachers 7 = .ok (.if_icmp .ge 65, 3) := by decide +kernel
theorem dX6_offerTeachers_10 : decode cX6_offerTeachers 10 = .ok (.aload_n 0, 1) := by decide +kernel
theorem dX6_offerTeachers_11 : decode cX6_offerTeachers 11 = .ok (.iload_n 3, 1) := by decide +kernel
theorem dX6_offerTeachers_12 : decode cX6_offerTeachers 12 = .ok (.invokevirtual 75, 3) := by decide +kernel
theorem dX6_offerTeachers_15 : decode cX6_offerTeachers 15 = .ok (.astore 4, 2) := by decide +kernel
theorem dX6_offerTeachers_17 : decode cX6_offerTeachers 17 = .ok (.aload 4, 2) := by decide +kernel
theorem dX6_offerTeachers_19 : decode cX6_offerTeachers 19 = .ok (.ifnull 47, 3) := by decide +kernel
theorem dX6_offerTeachers_22 : decode cX6_offerTeachers 22 = .ok (.aload 4, 2) := by decide +kernel
theorem dX6_offerTeachers_24 : decode cX6_offerTeachers 24 = .ok (.getfield 173, 3) := by decide +kernel
theorem dX6_offerTeachers_27 : decode cX6_offerTeachers 27 = .ok (.ifCond .ne 39, 3) := by decide +kernel
theorem dX6_offerTeachers_30 : decode cX6_offerTeachers 30 = .ok (.aload 4, 2) := by decide +kernel
theorem dX6_offerTeachers_32 : decode cX6_offerTeachers 32 = .ok (.aload_n 2, 1) := by decide +kernel
theorem dX6_offerTeachers_33 : decode cX6_offerTeachers 33 = .ok (.aload_n 0, 1) := by decide +kernel
theorem dX6_offerTeachers_34 : decode cX6_offerTeachers 34 = .ok (.getfield 19, 3) := by decide +kernel
theorem dX6_offerTeachers_37 : decode cX6_offerTeachers 37 = .ok (.aload_n 0, 1) := by decide +kernel
theorem dX6_offerTeachers_38 : decode cX6_offerTeachers 38 = .ok (.getfield 106, 3) := by decide +kernel
theorem dX6_offerTeachers_41 : decode cX6_offerTeachers 41 = .ok (.invokevirtual 109, 3) := by decide +kernel
theorem dX6_offerTeachers_44 : decode cX6_offerTeachers 44 = .ok (.ifCond .eq 22, 3) := by decide +kernel
theorem dX6_offerTeachers_47 : decode cX6_offerTeachers 47 = .ok (.aload_n 0, 1) := by decide +kernel
theorem dX6_offerTeachers_48 : decode cX6_offerTeachers 48 = .ok (.getfield 45, 3) := by decide +kernel
theorem dX6_offerTeachers_51 : decode cX6_offerTeachers 51 = .ok (.iload_n 1, 1) := by decide +kernel
theorem dX6_offerTeachers_52 : decode cX6_offerTeachers 52 = .ok (.iload_n 3, 1) := by decide +kernel
theorem dX6_offerTeachers_53 : decode cX6_offerTeachers 53 = .ok (.aload 4, 2) := by decide +kernel
theorem dX6_offerTeachers_55 : decode cX6_offerTeachers 55 = .ok (.aload_n 2, 1) := by decide +kernel
theorem dX6_offerTeachers_56 : decode cX6_offerTeachers 56 = .ok (.aload_n 0, 1) := by decide +kernel
theorem dX6_offerTeachers_57 : decode cX6_offerTeachers 57 = .ok (.getfield 19, 3) := by decide +kernel
theorem dX6_offerTeachers_60 : decode cX6_offerTeachers 60 = .ok (.invokevirtual 113, 3) := by decide +kernel
theorem dX6_offerTeachers_63 : decode cX6_offerTeachers 63 = .ok (.invokevirtual 222, 3) := by decide +kernel
theorem dX6_offerTeachers_66 : decode cX6_offerTeachers 66 = .ok (.iinc 3 1, 3) := by decide +kernel
theorem dX6_offerTeachers_69 : decode cX6_offerTeachers 69 = .ok (.goto (-67), 3) := by decide +kernel
theorem dX6_offerTeachers_72 : decode cX6_offerTeachers 72 = .ok (.return_, 1) := by decide +kernel
theorem dX6_isCalledAhead_0 : decode cX6_isCalledAhead 0 = .ok (.aload_n 0, 1) := by decide +kernel
theorem dX6_isCalledAhead_1 : decode cX6_isCalledAhead 1 = .ok (.aload_n 0, 1) := by decide +kernel
theorem dX6_isCalledAhead_2 : decode cX6_isCalledAhead 2 = .ok (.getfield 45, 3) := by decide +kernel
theorem dX6_isCalledAhead_5 : decode cX6_isCalledAhead 5 = .ok (.iload_n 1, 1) := by decide +kernel
theorem dX6_isCalledAhead_6 : decode cX6_isCalledAhead 6 = .ok (.invokevirtual 131, 3) := by decide +kernel
theorem dX6_isCalledAhead_9 : decode cX6_isCalledAhead 9 = .ok (.invokevirtual 75, 3) := by decide +kernel
theorem dX6_isCalledAhead_12 : decode cX6_isCalledAhead 12 = .ok (.astore_n 3, 1) := by decide +kernel
theorem dX6_isCalledAhead_13 : decode cX6_isCalledAhead 13 = .ok (.aload_n 0, 1) := by decide +kernel
theorem dX6_isCalledAhead_14 : decode cX6_isCalledAhead 14 = .ok (.aload_n 0, 1) := by decide +kernel
theorem dX6_isCalledAhead_15 : decode cX6_isCalledAhead 15 = .ok (.getfield 45, 3) := by decide +kernel
theorem dX6_isCalledAhead_18 : decode cX6_isCalledAhead 18 = .ok (.iload_n 2, 1) := by decide +kernel
theorem dX6_isCalledAhead_19 : decode cX6_isCalledAhead 19 = .ok (.invokevirtual 131, 3) := by decide +kernel
theorem dX6_isCalledAhead_22 : decode cX6_isCalledAhead 22 = .ok (.invokevirtual 75, 3) := by decide +kernel
theorem dX6_isCalledAhead_25 : decode cX6_isCalledAhead 25 = .ok (.astore 4, 2) := by decide +kernel
theorem dX6_isCalledAhead_27 : decode cX6_isCalledAhead 27 = .ok (.aload_n 0, 1) := by decide +kernel
theorem dX6_isCalledAhead_28 : decode cX6_isCalledAhead 28 = .ok (.iload_n 1, 1) := by decide +kernel
theorem dX6_isCalledAhead_29 : decode cX6_isCalledAhead 29 = .ok (.invokevirtual 102, 3) := by decide +kernel
theorem dX6_isCalledAhead_32 : decode cX6_isCalledAhead 32 = .ok (.astore 5, 2) := by decide +kernel
theorem dX6_isCalledAhead_34 : decode cX6_isCalledAhead 34 = .ok (.aload_n 0, 1) := by decide +kernel
theorem dX6_isCalledAhead_35 : decode cX6_isCalledAhead 35 = .ok (.iload_n 2, 1) := by decide +kernel
theorem dX6_isCalledAhead_36 : decode cX6_isCalledAhead 36 = .ok (.invokevirtual 102, 3) := by decide +kernel
theorem dX6_isCalledAhead_39 : decode cX6_isCalledAhead 39 = .ok (.astore 6, 2) := by decide +kernel
theorem dX6_isCalledAhead_41 : decode cX6_isCalledAhead 41 = .ok (.aload_n 3, 1) := by decide +kernel
theorem dX6_isCalledAhead_42 : decode cX6_isCalledAhead 42 = .ok (.ifnull 18, 3) := by decide +kernel
theorem dX6_isCalledAhead_45 : decode cX6_isCalledAhead 45 = .ok (.aload 4, 2) := by decide +kernel
theorem dX6_isCalledAhead_47 : decode cX6_isCalledAhead 47 = .ok (.ifnull 13, 3) := by decide +kernel
theorem dX6_isCalledAhead_50 : decode cX6_isCalledAhead 50 = .ok (.aload 5, 2) := by decide +kernel
theorem dX6_isCalledAhead_52 : decode cX6_isCalledAhead 52 = .ok (.ifnull 8, 3) := by decide +kernel
theorem dX6_isCalledAhead_55 : decode cX6_isCalledAhead 55 = .ok (.aload 6, 2) := by decide +kernel
theorem dX6_isCalledAhead_57 : decode cX6_isCalledAhead 57 = .ok (.ifnonnull 5, 3) := by decide +kernel
theorem dX6_isCalledAhead_60 : decode cX6_isCalledAhead 60 = .ok (.iconst 0, 1) := by decide +kernel
theorem dX6_isCalledAhead_61 : decode cX6_isCalledAhead 61 = .ok (.ireturn, 1) := by decide +kernel
theorem dX6_isCalledAhead_62 : decode cX6_isCalledAhead 62 = .ok (.aload_n 3, 1) := by decide +kernel
theorem dX6_isCalledAhead_63 : decode cX6_isCalledAhead 63 = .ok (.getfield 179, 3) := by decide +kernel
theorem dX6_isCalledAhead_66 : decode cX6_isCalledAhead 66 = .ok (.aload 4, 2) := by decide +kernel
theorem dX6_isCalledAhead_68 : decode cX6_isCalledAhead 68 = .ok (.getfield 179, 3) := by decide +kernel
theorem dX6_isCalledAhead_71 : decode cX6_isCalledAhead 71 = .ok (.if_icmp .eq 21, 3) := by decide +kernel
theorem dX6_isCalledAhead_74 : decode cX6_isCalledAhead 74 = .ok (.aload_n 3, 1) := by decide +kernel
theorem dX6_isCalledAhead_75 : decode cX6_isCalledAhead 75 = .ok (.getfield 179, 3) := by decide +kernel
theorem dX6_isCalledAhead_78 : decode cX6_isCalledAhead 78 = .ok (.aload 4, 2) := by decide +kernel
theorem dX6_isCalledAhead_80 : decode cX6_isCalledAhead 80 = .ok (.getfield 179, 3) := by decide +kernel
theorem dX6_isCalledAhead_83 : decode cX6_isCalledAhead 83 = .ok (.if_icmp .ge 7, 3) := by decide +kernel
theorem dX6_isCalledAhead_86 : decode cX6_isCalledAhead 86 = .ok (.iconst 1, 1) := by decide +kernel
theorem dX6_isCalledAhead_87 : decode cX6_isCalledAhead 87 = .ok (.goto 4, 3) := by decide +kernel
theorem dX6_isCalledAhead_90 : decode cX6_isCalledAhead 90 = .ok (.iconst 0, 1) := by decide +kernel
theorem dX6_isCalledAhead_91 : decode cX6_isCalledAhead 91 = .ok (.ireturn, 1) := by decide +kernel
theorem dX6_isCalledAhead_92 : decode cX6_isCalledAhead 92 = .ok (.aload 5, 2) := by decide +kernel
theorem dX6_isCalledAhead_94 : decode cX6_isCalledAhead 94 = .ok (.getfield 200, 3) := by decide +kernel
theorem dX6_isCalledAhead_97 : decode cX6_isCalledAhead 97 = .ok (.aload 6, 2) := by decide +kernel
theorem dX6_isCalledAhead_99 : decode cX6_isCalledAhead 99 = .ok (.getfield 200, 3) := by decide +kernel
theorem dX6_isCalledAhead_102 : decode cX6_isCalledAhead 102 = .ok (.if_icmp .le 7, 3) := by decide +kernel
theorem dX6_isCalledAhead_105 : decode cX6_isCalledAhead 105 = .ok (.iconst 1, 1) := by decide +kernel
theorem dX6_isCalledAhead_106 : decode cX6_isCalledAhead 106 = .ok (.goto 4, 3) := by decide +kernel
theorem dX6_isCalledAhead_109 : decode cX6_isCalledAhead 109 = .ok (.iconst 0, 1) := by decide +kernel
theorem dX6_isCalledAhead_110 : decode cX6_isCalledAhead 110 = .ok (.ireturn, 1) := by decide +kernel
theorem dX6_endDayOf_0 : decode cX6_endDayOf 0 = .ok (.aload_n 0, 1) := by decide +kernel
theorem dX6_endDayOf_1 : decode cX6_endDayOf 1 = .ok (.iload_n 1, 1) := by decide +kernel
theorem dX6_endDayOf_2 : decode cX6_endDayOf 2 = .ok (.invokevirtual 75, 3) := by decide +kernel
theorem dX6_endDayOf_5 : decode cX6_endDayOf 5 = .ok (.astore_n 2, 1) := by decide +kernel
theorem dX6_endDayOf_6 : decode cX6_endDayOf 6 = .ok (.aload_n 2, 1) := by decide +kernel
theorem dX6_endDayOf_7 : decode cX6_endDayOf 7 = .ok (.ifnonnull 4, 3) := by decide +kernel
theorem dX6_endDayOf_10 : decode cX6_endDayOf 10 = .ok (.return_, 1) := by decide +kernel
theorem dX6_endDayOf_11 : decode cX6_endDayOf 11 = .ok (.aload_n 0, 1) := by decide +kernel
theorem dX6_endDayOf_12 : decode cX6_endDayOf 12 = .ok (.aload_n 2, 1) := by decide +kernel
theorem dX6_endDayOf_13 : decode cX6_endDayOf 13 = .ok (.getfield 176, 3) := by decide +kernel
theorem dX6_endDayOf_16 : decode cX6_endDayOf 16 = .ok (.invokevirtual 102, 3) := by decide +kernel
theorem dX6_endDayOf_19 : decode cX6_endDayOf 19 = .ok (.astore_n 3, 1) := by decide +kernel
theorem dX6_endDayOf_20 : decode cX6_endDayOf 20 = .ok (.aload_n 2, 1) := by decide +kernel
theorem dX6_endDayOf_21 : decode cX6_endDayOf 21 = .ok (.getfield 173, 3) := by decide +kernel
theorem dX6_endDayOf_24 : decode cX6_endDayOf 24 = .ok (.iconst 1, 1) := by decide +kernel
theorem dX6_endDayOf_25 : decode cX6_endDayOf 25 = .ok (.if_icmp .ne 29, 3) := by decide +kernel
theorem dX6_endDayOf_28 : decode cX6_endDayOf 28 = .ok (.aload_n 3, 1) := by decide +kernel
theorem dX6_endDayOf_29 : decode cX6_endDayOf 29 = .ok (.ifnull 25, 3) := by decide +kernel
theorem dX6_endDayOf_32 : decode cX6_endDayOf 32 = .ok (.aload_n 2, 1) := by decide +kernel
theorem dX6_endDayOf_33 : decode cX6_endDayOf 33 = .ok (.aload_n 3, 1) := by decide +kernel
theorem dX6_endDayOf_34 : decode cX6_endDayOf 34 = .ok (.aload_n 0, 1) := by decide +kernel
theorem dX6_endDayOf_35 : decode cX6_endDayOf 35 = .ok (.getfield 19, 3) := by decide +kernel
theorem dX6_endDayOf_38 : decode cX6_endDayOf 38 = .ok (.invokevirtual 225, 3) := by decide +kernel
theorem dX6_endDayOf_41 : decode cX6_endDayOf 41 = .ok (.aload_n 0, 1) := by decide +kernel
theorem dX6_endDayOf_42 : decode cX6_endDayOf 42 = .ok (.getfield 38, 3) := by decide +kernel
theorem dX6_endDayOf_45 : decode cX6_endDayOf 45 = .ok (.iload_n 1, 1) := by decide +kernel
theorem dX6_endDayOf_46 : decode cX6_endDayOf 46 = .ok (.aload_n 3, 1) := by decide +kernel
theorem dX6_endDayOf_47 : decode cX6_endDayOf 47 = .ok (.aload_n 0, 1) := by decide +kernel
theorem dX6_endDayOf_48 : decode cX6_endDayOf 48 = .ok (.getfield 106, 3) := by decide +kernel
theorem dX6_endDayOf_51 : decode cX6_endDayOf 51 = .ok (.invokevirtual 229, 3) := by decide +kernel
theorem dX6_endDayOf_54 : decode cX6_endDayOf 54 = .ok (.aload_n 2, 1) := by decide +kernel
theorem dX6_endDayOf_55 : decode cX6_endDayOf 55 = .ok (.invokevirtual 233, 3) := by decide +kernel
theorem dX6_endDayOf_58 : decode cX6_endDayOf 58 = .ok (.return_, 1) := by decide +kernel
end
section
theorem dX7_init_0 : decode cX7_init 0 = .ok (.aload_n 0, 1) := by decide +kernel
theorem dX7_init_1 : decode cX7_init 1 = .ok (.invokespecial 1, 3) := by decide +kernel
theorem dX7_init_4 : decode cX7_init 4 = .ok (.aload_n 0, 1) := by decide +kernel
theorem dX7_init_5 : decode cX7_init 5 = .ok (.bipush 60, 2) := by decide +kernel
theorem dX7_init_7 : decode cX7_init 7 = .ok (.newarray .byte, 2) := by decide +kernel
theorem dX7_init_9 : decode cX7_init 9 = .ok (.putfield 7, 3) := by decide +kernel
theorem dX7_init_12 : decode cX7_init 12 = .ok (.aload_n 0, 1) := by decide +kernel
theorem dX7_init_13 : decode cX7_init 13 = .ok (.bipush 7, 2) := by decide +kernel
theorem dX7_init_15 : decode cX7_init 15 = .ok (.newarray .int, 2) := by decide +kernel
theorem dX7_init_17 : decode cX7_init 17 = .ok (.putfield 13, 3) := by decide +kernel
theorem dX7_init_20 : decode cX7_init 20 = .ok (.aload_n 0, 1) := by decide +kernel
theorem dX7_init_21 : decode cX7_init 21 = .ok (.bipush 7, 2) := by decide +kernel
theorem dX7_init_23 : decode cX7_init 23 = .ok (.newarray .int, 2) := by decide +kernel
theorem dX7_init_25 : decode cX7_init 25 = .ok (.putfield 17, 3) := by decide +kernel
theorem dX7_init_28 : decode cX7_init 28 = .ok (.aload_n 0, 1) := by decide +kernel
theorem dX7_init_29 : decode cX7_init 29 = .ok (.bipush 12, 2) := by decide +kernel
theorem dX7_init_31 : decode cX7_init 31 = .ok (.newarray .int, 2) := by decide +kernel
theorem dX7_init_33 : decode cX7_init 33 = .ok (.putfield 20, 3) := by decide +kernel
theorem dX7_init_36 : decode cX7_init 36 = .ok (.aload_n 0, 1) := by decide +kernel
theorem dX7_init_37 : decode cX7_init 37 = .ok (.bipush 12, 2) := by decide +kernel
theorem dX7_init_39 : decode cX7_init 39 = .ok (.newarray .int, 2) := by decide +kernel
theorem dX7_init_41 : decode cX7_init 41 = .ok (.putfield 23, 3) := by decide +kernel
theorem dX7_init_44 : decode cX7_init 44 = .ok (.aload_n 0, 1) := by decide +kernel
theorem dX7_init_45 : decode cX7_init 45 = .ok (.bipush 12, 2) := by decide +kernel
theorem dX7_init_47 : decode cX7_init 47 = .ok (.newarray .int, 2) := by decide +kernel
theorem dX7_init_49 : decode cX7_init 49 = .ok (.putfield 26, 3) := by decide +kernel
theorem dX7_init_52 : decode cX7_init 52 = .ok (.aload_n 0, 1) := by decide +kernel
theorem dX7_init_53 : decode cX7_init 53 = .ok (.bipush 72, 2) := by decide +kernel
theorem dX7_init_55 : decode cX7_init 55 = .ok (.newarray .int, 2) := by decide +kernel
theorem dX7_init_57 : decode cX7_init 57 = .ok (.putfield 29, 3) := by decide +kernel
theorem dX7_init_60 : decode cX7_init 60 = .ok (.aload_n 0, 1) := by decide +kernel
theorem dX7_init_61 : decode cX7_init 61 = .ok (.bipush 12, 2) := by decide +kernel
theorem dX7_init_63 : decode cX7_init 63 = .ok (.newarray .int, 2) := by decide +kernel
theorem dX7_init_65 : decode cX7_init 65 = .ok (.putfield 32, 3) := by decide +kernel
theorem dX7_init_68 : decode cX7_init 68 = .ok (.aload_n 0, 1) := by decide +kernel
theorem dX7_init_69 : decode cX7_init 69 = .ok (.bipush 12, 2) := by decide +kernel
theorem dX7_init_71 : decode cX7_init 71 = .ok (.newarray .int, 2) := by decide +kernel
theorem dX7_init_73 : decode cX7_init 73 = .ok (.putfield 35, 3) := by decide +kernel
theorem dX7_init_76 : decode cX7_init 76 = .ok (.aload_n 0, 1) := by decide +kernel
theorem dX7_init_77 : decode cX7_init 77 = .ok (.bipush 12, 2) := by decide +kernel
theorem dX7_init_79 : decode cX7_init 79 = .ok (.newarray .int, 2) := by decide +kernel
theorem dX7_init_81 : decode cX7_init 81 = .ok (.putfield 38, 3) := by decide +kernel
theorem dX7_init_84 : decode cX7_init 84 = .ok (.aload_n 0, 1) := by decide +kernel
theorem dX7_init_85 : decode cX7_init 85 = .ok (.bipush 12, 2) := by decide +kernel
theorem dX7_init_87 : decode cX7_init 87 = .ok (.newarray .int, 2) := by decide +kernel
theorem dX7_init_89 : decode cX7_init 89 = .ok (.putfield 41, 3) := by decide +kernel
theorem dX7_init_92 : decode cX7_init 92 = .ok (.aload_n 0, 1) := by decide +kernel
theorem dX7_init_93 : decode cX7_init 93 = .ok (.bipush 12, 2) := by decide +kernel
theorem dX7_init_95 : decode cX7_init 95 = .ok (.newarray .int, 2) := by decide +kernel
theorem dX7_init_97 : decode cX7_init 97 = .ok (.putfield 44, 3) := by decide +kernel
theorem dX7_init_100 : decode cX7_init 100 = .ok (.aload_n 0, 1) := by decide +kernel
theorem dX7_init_101 : decode cX7_init 101 = .ok (.bipush 12, 2) := by decide +kernel
theorem dX7_init_103 : decode cX7_init 103 = .ok (.newarray .int, 2) := by decide +kernel
theorem dX7_init_105 : decode cX7_init 105 = .ok (.putfield 47, 3) := by decide +kernel
theorem dX7_init_108 : decode cX7_init 108 = .ok (.aload_n 0, 1) := by decide +kernel
theorem dX7_init_109 : decode cX7_init 109 = .ok (.bipush 12, 2) := by decide +kernel
theorem dX7_init_111 : decode cX7_init 111 = .ok (.newarray .long, 2) := by decide +kernel
theorem dX7_init_113 : decode cX7_init 113 = .ok (.putfield 50, 3) := by decide +kernel
theorem dX7_init_116 : decode cX7_init 116 = .ok (.aload_n 0, 1) := by decide +kernel
theorem dX7_init_117 : decode cX7_init 117 = .ok (.bipush 10, 2) := by decide +kernel
theorem dX7_init_119 : decode cX7_init 119 = .ok (.newarray .int, 2) := by decide +kernel
theorem dX7_init_121 : decode cX7_init 121 = .ok (.putfield 54, 3) := by decide +kernel
theorem dX7_init_124 : decode cX7_init 124 = .ok (.aload_n 0, 1) := by decide +kernel
theorem dX7_init_125 : decode cX7_init 125 = .ok (.bipush 10, 2) := by decide +kernel
theorem dX7_init_127 : decode cX7_init 127 = .ok (.newarray .int, 2) := by decide +kernel
theorem dX7_init_129 : decode cX7_init 129 = .ok (.putfield 57, 3) := by decide +kernel
theorem dX7_init_132 : decode cX7_init 132 = .ok (.aload_n 0, 1) := by decide +kernel
theorem dX7_init_133 : decode cX7_init 133 = .ok (.bipush 10, 2) := by decide +kernel
theorem dX7_init_135 : decode cX7_init 135 = .ok (.newarray .int, 2) := by decide +kernel
theorem dX7_init_137 : decode cX7_init 137 = .ok (.putfield 60, 3) := by decide +kernel
theorem dX7_init_140 : decode cX7_init 140 = .ok (.aload_n 0, 1) := by decide +kernel
theorem dX7_init_141 : decode cX7_init 141 = .ok (.bipush 10, 2) := by decide +kernel
theorem dX7_init_143 : decode cX7_init 143 = .ok (.newarray .int, 2) := by decide +kernel
theorem dX7_init_145 : decode cX7_init 145 = .ok (.putfield 63, 3) := by decide +kernel
theorem dX7_init_148 : decode cX7_init 148 = .ok (.aload_n 0, 1) := by decide +kernel
theorem dX7_init_149 : decode cX7_init 149 = .ok (.bipush 10, 2) := by decide +kernel
theorem dX7_init_151 : decode cX7_init 151 = .ok (.newarray .int, 2) := by decide +kernel
theorem dX7_init_153 : decode cX7_init 153 = .ok (.putfield 66, 3) := by decide +kernel
theorem dX7_init_156 : decode cX7_init 156 = .ok (.aload_n 0, 1) := by decide +kernel
theorem dX7_init_157 : decode cX7_init 157 = .ok (.sipush 400, 3) := by decide +kernel
theorem dX7_init_160 : decode cX7_init 160 = .ok (.newarray .int, 2) := by decide +kernel
theorem dX7_init_162 : decode cX7_init 162 = .ok (.putfield 69, 3) := by decide +kernel
theorem dX7_init_165 : decode cX7_init 165 = .ok (.aload_n 0, 1) := by decide +kernel
theorem dX7_init_166 : decode cX7_init 166 = .ok (.sipush 400, 3) := by decide +kernel
theorem dX7_init_169 : decode cX7_init 169 = .ok (.newarray .int, 2) := by decide +kernel
theorem dX7_init_171 : decode cX7_init 171 = .ok (.putfield 72, 3) := by decide +kernel
theorem dX7_init_174 : decode cX7_init 174 = .ok (.aload_n 0, 1) := by decide +kernel
theorem dX7_init_175 : decode cX7_init 175 = .ok (.sipush 400, 3) := by decide +kernel
theorem dX7_init_178 : decode cX7_init 178 = .ok (.newarray .int, 2) := by decide +kernel
theorem dX7_init_180 : decode cX7_init 180 = .ok (.putfield 75, 3) := by decide +kernel
theorem dX7_init_183 : decode cX7_init 183 = .ok (.aload_n 0, 1) := by decide +kernel
theorem dX7_init_184 : decode cX7_init 184 = .ok (.ldc 78, 2) := by decide +kernel
theorem dX7_init_186 : decode cX7_init 186 = .ok (.newarray .int, 2) := by decide +kernel
theorem dX7_init_188 : decode cX7_init 188 = .ok (.putfield 79, 3) := by decide +kernel
theorem dX7_init_191 : decode cX7_init 191 = .ok (.aload_n 0, 1) := by decide +kernel
theorem dX7_init_192 : decode cX7_init 192 = .ok (.bipush 10, 2) := by decide +kernel
theorem dX7_init_194 : decode cX7_init 194 = .ok (.newarray .int, 2) := by decide +kernel
theorem dX7_init_196 : decode cX7_init 196 = .ok (.putfield 82, 3) := by decide +kernel
theorem dX7_init_199 : decode cX7_init 199 = .ok (.aload_n 0, 1) := by decide +kernel
theorem dX7_init_200 : decode cX7_init 200 = .ok (.getfield 13, 3) := by decide +kernel
theorem dX7_init_203 : decode cX7_init 203 = .ok (.invokestatic 85, 3) := by decide +kernel
theorem dX7_init_206 : decode cX7_init 206 = .ok (.return_, 1) := by decide +kernel
theorem dX7_lies_0 : decode cX7_lies 0 = .ok (.iload_n 0, 1) := by decide +kernel
theorem dX7_lies_1 : decode cX7_lies 1 = .ok (.iload_n 1, 1) := by decide +kernel
theorem dX7_lies_2 : decode cX7_lies 2 = .ok (.if_icmp .lt 12, 3) := by decide +kernel
theorem dX7_lies_5 : decode cX7_lies 5 = .ok (.iload_n 0, 1) := by decide +kernel
theorem dX7_lies_6 : decode cX7_lies 6 = .ok (.iload_n 2, 1) := by decide +kernel
theorem dX7_lies_7 : decode cX7_lies 7 = .ok (.if_icmp .gt 7, 3) := by decide +kernel
theorem dX7_lies_10 : decode cX7_lies 10 = .ok (.iconst 1, 1) := by decide +kernel
theorem dX7_lies_11 : decode cX7_lies 11 = .ok (.goto 4, 3) := by decide +kernel
theorem dX7_lies_14 : decode cX7_lies 14 = .ok (.iconst 0, 1) := by decide +kernel
theorem dX7_lies_15 : decode cX7_lies 15 = .ok (.ireturn, 1) := by decide +kernel
theorem dX7_has_0 : decode cX7_has 0 = .ok (.iload_n 0, 1) := by decide +kernel
theorem dX7_has_1 : decode cX7_has 1 = .ok (.iload_n 1, 1) := by decide +kernel
theorem dX7_has_2 : decode cX7_has 2 = .ok (.ishr, 1) := by decide +kernel
theorem dX7_has_3 : decode cX7_has 3 = .ok (.iconst 1, 1) := by decide +kernel
theorem dX7_has_4 : decode cX7_has 4 = .ok (.iand, 1) := by decide +kernel
theorem dX7_has_5 : decode cX7_has 5 = .ok (.iconst 1, 1) := by decide +kernel
theorem dX7_has_6 : decode cX7_has 6 = .ok (.if_icmp .ne 7, 3) := by decide +kernel
theorem dX7_has_9 : decode cX7_has 9 = .ok (.iconst 1, 1) := by decide +kernel
theorem dX7_has_10 : decode cX7_has 10 = .ok (.goto 4, 3) := by decide +kernel
theorem dX7_has_13 : decode cX7_has 13 = .ok (.iconst 0, 1) := by decide +kernel
theorem dX7_has_14 : decode cX7_has 14 = .ok (.ireturn, 1) := by decide +kernel
theorem dX7_sizeOf_0 : decode cX7_sizeOf 0 = .ok (.iconst 0, 1) := by decide +kernel
theorem dX7_sizeOf_1 : decode cX7_sizeOf 1 = .ok (.istore_n 1, 1) := by decide +kernel
theorem dX7_sizeOf_2 : decode cX7_sizeOf 2 = .ok (.iload_n 0, 1) := by decide +kernel
theorem dX7_sizeOf_3 : decode cX7_sizeOf 3 = .ok (.istore_n 2, 1) := by decide +kernel
theorem dX7_sizeOf_4 : decode cX7_sizeOf 4 = .ok (.iload_n 2, 1) := by decide +kernel
theorem dX7_sizeOf_5 : decode cX7_sizeOf 5 = .ok (.ifCond .eq 15, 3) := by decide +kernel
theorem dX7_sizeOf_8 : decode cX7_sizeOf 8 = .ok (.iinc 1 1, 3) := by decide +kernel
theorem dX7_sizeOf_11 : decode cX7_sizeOf 11 = .ok (.iload_n 2, 1) := by decide +kernel
theorem dX7_sizeOf_12 : decode cX7_sizeOf 12 = .ok (.iload_n 2, 1) := by decide +kernel
theorem dX7_sizeOf_13 : decode cX7_sizeOf 13 = .ok (.iconst 1, 1) := by decide +kernel
theorem dX7_sizeOf_14 : decode cX7_sizeOf 14 = .ok (.isub, 1) := by decide +kernel
theorem dX7_sizeOf_15 : decode cX7_sizeOf 15 = .ok (.iand, 1) := by decide +kernel
theorem dX7_sizeOf_16 : decode cX7_sizeOf 16 = .ok (.istore_n 2, 1) := by decide +kernel
theorem dX7_sizeOf_17 : decode cX7_sizeOf 17 = .ok (.goto (-13), 3) := by decide +kernel
theorem dX7_sizeOf_20 : decode cX7_sizeOf 20 = .ok (.iload_n 1, 1) := by decide +kernel
theorem dX7_sizeOf_21 : decode cX7_sizeOf 21 = .ok (.ireturn, 1) := by decide +kernel
theorem dX7_push_0 : decode cX7_push 0 = .ok (.bipush 24, 2) := by decide +kernel
theorem dX7_push_2 : decode cX7_push 2 = .ok (.istore_n 2, 1) := by decide +kernel
theorem dX7_push_3 : decode cX7_push 3 = .ok (.iload_n 2, 1) := by decide +kernel
theorem dX7_push_4 : decode cX7_push 4 = .ok (.ifCond .lt 32, 3) := by decide +kernel
theorem dX7_push_7 : decode cX7_push 7 = .ok (.aload_n 0, 1) := by decide +kernel
theorem dX7_push_8 : decode cX7_push 8 = .ok (.getfield 7, 3) := by decide +kernel
theorem dX7_push_11 : decode cX7_push 11 = .ok (.aload_n 0, 1) := by decide +kernel
theorem dX7_push_12 : decode cX7_push 12 = .ok (.getfield 89, 3) := by decide +kernel
theorem dX7_push_15 : decode cX7_push 15 = .ok (.iload_n 1, 1) := by decide +kernel
theorem dX7_push_16 : decode cX7_push 16 = .ok (.iload_n 2, 1) := by decide +kernel
theorem dX7_push_17 : decode cX7_push 17 = .ok (.ishr, 1) := by decide +kernel
theorem dX7_push_18 : decode cX7_push 18 = .ok (.i2b, 1) := by decide +kernel
theorem dX7_push_19 : decode cX7_push 19 = .ok (.bastore, 1) := by decide +kernel
theorem dX7_push_20 : decode cX7_push 20 = .ok (.aload_n 0, 1) := by decide +kernel
theorem dX7_push_21 : decode cX7_push 21 = .ok (.dup, 1) := by decide +kernel
theorem dX7_push_22 : decode cX7_push 22 = .ok (.getfield 89, 3) := by decide +kernel
theorem dX7_push_25 : decode cX7_push 25 = .ok (.iconst 1, 1) := by decide +kernel
theorem dX7_push_26 : decode cX7_push 26 = .ok (.iadd, 1) := by decide +kernel
theorem dX7_push_27 : decode cX7_push 27 = .ok (.putfield 89, 3) := by decide +kernel
theorem dX7_push_30 : decode cX7_push 30 = .ok (.iinc 2 (-8), 3) := by decide +kernel
theorem dX7_push_33 : decode cX7_push 33 = .ok (.goto (-30), 3) := by decide +kernel
theorem dX7_push_36 : decode cX7_push 36 = .ok (.return_, 1) := by decide +kernel
theorem dX7_feed_0 : decode cX7_feed 0 = .ok (.aload_n 0, 1) := by decide +kernel
theorem dX7_feed_1 : decode cX7_feed 1 = .ok (.getfield 89, 3) := by decide +kernel
theorem dX7_feed_4 : decode cX7_feed 4 = .ok (.bipush 20, 2) := by decide +kernel
theorem dX7_feed_6 : decode cX7_feed 6 = .ok (.iadd, 1) := by decide +kernel
theorem dX7_feed_7 : decode cX7_feed 7 = .ok (.bipush 60, 2) := by decide +kernel
theorem dX7_feed_9 : decode cX7_feed 9 = .ok (.if_icmp .le 5, 3) := by decide +kernel
theorem dX7_feed_12 : decode cX7_feed 12 = .ok (.iconst (-1), 1) := by decide +kernel
theorem dX7_feed_13 : decode cX7_feed 13 = .ok (.ireturn, 1) := by decide +kernel
theorem dX7_feed_14 : decode cX7_feed 14 = .ok (.aload_n 0, 1) := by decide +kernel
theorem dX7_feed_15 : decode cX7_feed 15 = .ok (.iload_n 1, 1) := by decide +kernel
theorem dX7_feed_16 : decode cX7_feed 16 = .ok (.invokevirtual 93, 3) := by decide +kernel
theorem dX7_feed_19 : decode cX7_feed 19 = .ok (.aload_n 0, 1) := by decide +kernel
theorem dX7_feed_20 : decode cX7_feed 20 = .ok (.iload_n 2, 1) := by decide +kernel
theorem dX7_feed_21 : decode cX7_feed 21 = .ok (.invokevirtual 93, 3) := by decide +kernel
theorem dX7_feed_24 : decode cX7_feed 24 = .ok (.aload_n 0, 1) := by decide +kernel
theorem dX7_feed_25 : decode cX7_feed 25 = .ok (.iload_n 3, 1) := by decide +kernel
theorem dX7_feed_26 : decode cX7_feed 26 = .ok (.invokevirtual 93, 3) := by decide +kernel
theorem dX7_feed_29 : decode cX7_feed 29 = .ok (.aload_n 0, 1) := by decide +kernel
theorem dX7_feed_30 : decode cX7_feed 30 = .ok (.iload 4, 2) := by decide +kernel
theorem dX7_feed_32 : decode cX7_feed 32 = .ok (.invokevirtual 93, 3) := by decide +kernel
theorem dX7_feed_35 : decode cX7_feed 35 = .ok (.aload_n 0, 1) := by decide +kernel
theorem dX7_feed_36 : decode cX7_feed 36 = .ok (.iload 5, 2) := by decide +kernel
theorem dX7_feed_38 : decode cX7_feed 38 = .ok (.invokevirtual 93, 3) := by decide +kernel
theorem dX7_feed_41 : decode cX7_feed 41 = .ok (.aload_n 0, 1) := by decide +kernel
theorem dX7_feed_42 : decode cX7_feed 42 = .ok (.getfield 89, 3) := by decide +kernel
theorem dX7_feed_45 : decode cX7_feed 45 = .ok (.ireturn, 1) := by decide +kernel
theorem dX7_asAtFirst_0 : decode cX7_asAtFirst 0 = .ok (.aload_n 0, 1) := by decide +kernel
theorem dX7_asAtFirst_1 : decode cX7_asAtFirst 1 = .ok (.iconst 0, 1) := by decide +kernel
theorem dX7_asAtFirst_2 : decode cX7_asAtFirst 2 = .ok (.bipush 60, 2) := by decide +kernel
theorem dX7_asAtFirst_4 : decode cX7_asAtFirst 4 = .ok (.iastore, 1) := by decide +kernel
theorem dX7_asAtFirst_5 : decode cX7_asAtFirst 5 = .ok (.aload_n 0, 1) := by decide +kernel
theorem dX7_asAtFirst_6 : decode cX7_asAtFirst 6 = .ok (.iconst 1, 1) := by decide +kernel
theorem dX7_asAtFirst_7 : decode cX7_asAtFirst 7 = .ok (.bipush 60, 2) := by decide +kernel
theorem dX7_asAtFirst_9 : decode cX7_asAtFirst 9 = .ok (.iastore, 1) := by decide +kernel
theorem dX7_asAtFirst_10 : decode cX7_asAtFirst 10 = .ok (.aload_n 0, 1) := by decide +kernel
theorem dX7_asAtFirst_11 : decode cX7_asAtFirst 11 = .ok (.iconst 2, 1) := by decide +kernel
theorem dX7_asAtFirst_12 : decode cX7_asAtFirst 12 = .ok (.iconst 5, 1) := by decide +kernel
theorem dX7_asAtFirst_13 : decode cX7_asAtFirst 13 = .ok (.iastore, 1) := by decide +kernel
theorem dX7_asAtFirst_14 : decode cX7_asAtFirst 14 = .ok (.aload_n 0, 1) := by decide +kernel
theorem dX7_asAtFirst_15 : decode cX7_asAtFirst 15 = .ok (.iconst 3, 1) := by decide +kernel
theorem dX7_asAtFirst_16 : decode cX7_asAtFirst 16 = .ok (.bipush 20, 2) := by decide +kernel
theorem dX7_asAtFirst_18 : decode cX7_asAtFirst 18 = .ok (.iastore, 1) := by decide +kernel
theorem dX7_asAtFirst_19 : decode cX7_asAtFirst 19 = .ok (.aload_n 0, 1) := by decide +kernel
theorem dX7_asAtFirst_20 : decode cX7_asAtFirst 20 = .ok (.iconst 4, 1) := by decide +kernel
theorem dX7_asAtFirst_21 : decode cX7_asAtFirst 21 = .ok (.sipush 2000, 3) := by decide +kernel
theorem dX7_asAtFirst_24 : decode cX7_asAtFirst 24 = .ok (.iastore, 1) := by decide +kernel
theorem dX7_asAtFirst_25 : decode cX7_asAtFirst 25 = .ok (.aload_n 0, 1) := by decide +kernel
theorem dX7_asAtFirst_26 : decode cX7_asAtFirst 26 = .ok (.iconst 5, 1) := by decide +kernel
theorem dX7_asAtFirst_27 : decode cX7_asAtFirst 27 = .ok (.sipush 300, 3) := by decide +kernel
theorem dX7_asAtFirst_30 : decode cX7_asAtFirst 30 = .ok (.iastore, 1) := by decide +kernel
theorem dX7_asAtFirst_31 : decode cX7_asAtFirst 31 = .ok (.aload_n 0, 1) := by decide +kernel
theorem dX7_asAtFirst_32 : decode cX7_asAtFirst 32 = .ok (.bipush 6, 2) := by decide +kernel
theorem dX7_asAtFirst_34 : decode cX7_asAtFirst 34 = .ok (.iconst 2, 1) := by decide +kernel
theorem dX7_asAtFirst_35 : decode cX7_asAtFirst 35 = .ok (.iastore, 1) := by decide +kernel
theorem dX7_asAtFirst_36 : decode cX7_asAtFirst 36 = .ok (.return_, 1) := by decide +kernel
theorem dX7_letter_0 : decode cX7_letter 0 = .ok (.iload_n 0, 1) := by decide +kernel
theorem dX7_letter_1 : decode cX7_letter 1 = .ok (.tableswitch 110 100 119 #[99, 110, 110, 110, 110, 110, 110, 110, 101, 110, 110, 110, 103, 105, 107, 97, 110, 110, 110, 95], 95) := by decide +kernel
theorem dX7_letter_96 : decode cX7_letter 96 = .ok (.iconst 0, 1) := by decide +kernel
theorem dX7_letter_97 : decode cX7_letter 97 = .ok (.ireturn, 1) := by decide +kernel
theorem dX7_letter_98 : decode cX7_letter 98 = .ok (.iconst 1, 1) := by decide +kernel
theorem dX7_letter_99 : decode cX7_letter 99 = .ok (.ireturn, 1) := by decide +kernel
theorem dX7_letter_100 : decode cX7_letter 100 = .ok (.iconst 2, 1) := by decide +kernel
theorem dX7_letter_101 : decode cX7_letter 101 = .ok (.ireturn, 1) := by decide +kernel
theorem dX7_letter_102 : decode cX7_letter 102 = .ok (.iconst 3, 1) := by decide +kernel
theorem dX7_letter_103 : decode cX7_letter 103 = .ok (.ireturn, 1) := by decide +kernel
theorem dX7_letter_104 : decode cX7_letter 104 = .ok (.iconst 4, 1) := by decide +kernel
theorem dX7_letter_105 : decode cX7_letter 105 = .ok (.ireturn, 1) := by decide +kernel
theorem dX7_letter_106 : decode cX7_letter 106 = .ok (.iconst 5, 1) := by decide +kernel
theorem dX7_letter_107 : decode cX7_letter 107 = .ok (.ireturn, 1) := by decide +kernel
theorem dX7_letter_108 : decode cX7_letter 108 = .ok (.bipush 6, 2) := by decide +kernel
theorem dX7_letter_110 : decode cX7_letter 110 = .ok (.ireturn, 1) := by decide +kernel
theorem dX7_letter_111 : decode cX7_letter 111 = .ok (.iconst (-1), 1) := by decide +kernel
theorem dX7_letter_112 : decode cX7_letter 112 = .ok (.ireturn, 1) := by decide +kernel
theorem dX7_canBe_0 : decode cX7_canBe 0 = .ok (.iload_n 0, 1) := by decide +kernel
theorem dX7_canBe_1 : decode cX7_canBe 1 = .ok (.tableswitch 88 0 6 #[43, 55, 68, 68, 88, 88, 80], 43) := by decide +kernel
theorem dX7_canBe_44 : decode cX7_canBe 44 = .ok (.iload_n 1, 1) := by decide +kernel
theorem dX7_canBe_45 : decode cX7_canBe 45 = .ok (.bipush 120, 2) := by decide +kernel
theorem dX7_canBe_47 : decode cX7_canBe 47 = .ok (.if_icmp .gt 7, 3) := by decide +kernel
theorem dX7_canBe_50 : decode cX7_canBe 50 = .ok (.iconst 1, 1) := by decide +kernel
theorem dX7_canBe_51 : decode cX7_canBe 51 = .ok (.goto 4, 3) := by decide +kernel
theorem dX7_canBe_54 : decode cX7_canBe 54 = .ok (.iconst 0, 1) := by decide +kernel
theorem dX7_canBe_55 : decode cX7_canBe 55 = .ok (.ireturn, 1) := by decide +kernel
theorem dX7_canBe_56 : decode cX7_canBe 56 = .ok (.iload_n 1, 1) := by decide +kernel
theorem dX7_canBe_57 : decode cX7_canBe 57 = .ok (.sipush 999, 3) := by decide +kernel
theorem dX7_canBe_60 : decode cX7_canBe 60 = .ok (.if_icmp .gt 7, 3) := by decide +kernel
theorem dX7_canBe_63 : decode cX7_canBe 63 = .ok (.iconst 1, 1) := by decide +kernel
theorem dX7_canBe_64 : decode cX7_canBe 64 = .ok (.goto 4, 3) := by decide +kernel
theorem dX7_canBe_67 : decode cX7_canBe 67 = .ok (.iconst 0, 1) := by decide +kernel
theorem dX7_canBe_68 : decode cX7_canBe 68 = .ok (.ireturn, 1) := by decide +kernel
theorem dX7_canBe_69 : decode cX7_canBe 69 = .ok (.iload_n 1, 1) := by decide +kernel
theorem dX7_canBe_70 : decode cX7_canBe 70 = .ok (.bipush 99, 2) := by decide +kernel
theorem dX7_canBe_72 : decode cX7_canBe 72 = .ok (.if_icmp .gt 7, 3) := by decide +kernel
theorem dX7_canBe_75 : decode cX7_canBe 75 = .ok (.iconst 1, 1) := by decide +kernel
theorem dX7_canBe_76 : decode cX7_canBe 76 = .ok (.goto 4, 3) := by decide +kernel
theorem dX7_canBe_79 : decode cX7_canBe 79 = .ok (.iconst 0, 1) := by decide +kernel
theorem dX7_canBe_80 : decode cX7_canBe 80 = .ok (.ireturn, 1) := by decide +kernel
theorem dX7_canBe_81 : decode cX7_canBe 81 = .ok (.iload_n 1, 1) := by decide +kernel
theorem dX7_canBe_82 : decode cX7_canBe 82 = .ok (.iconst 1, 1) := by decide +kernel
theorem dX7_canBe_83 : decode cX7_canBe 83 = .ok (.bipush 9, 2) := by decide +kernel
theorem dX7_canBe_85 : decode cX7_canBe 85 = .ok (.invokestatic 97, 3) := by decide +kernel
theorem dX7_canBe_88 : decode cX7_canBe 88 = .ok (.ireturn, 1) := by decide +kernel
theorem dX7_canBe_89 : decode cX7_canBe 89 = .ok (.iconst 1, 1) := by decide +kernel
theorem dX7_canBe_90 : decode cX7_canBe 90 = .ok (.ireturn, 1) := by decide +kernel
theorem dX7_at_0 : decode cX7_at 0 = .ok (.iload_n 1, 1) := by decide +kernel
theorem dX7_at_1 : decode cX7_at 1 = .ok (.iload_n 2, 1) := by decide +kernel
theorem dX7_at_2 : decode cX7_at 2 = .ok (.if_icmp .ge 16, 3) := by decide +kernel
theorem dX7_at_5 : decode cX7_at 5 = .ok (.aload_n 0, 1) := by decide +kernel
theorem dX7_at_6 : decode cX7_at 6 = .ok (.getfield 7, 3) := by decide +kernel
theorem dX7_at_9 : decode cX7_at 9 = .ok (.iload_n 1, 1) := by decide +kernel
theorem dX7_at_10 : decode cX7_at 10 = .ok (.baload, 1) := by decide +kernel
theorem dX7_at_11 : decode cX7_at 11 = .ok (.sipush 255, 3) := by decide +kernel
theorem dX7_at_14 : decode cX7_at 14 = .ok (.iand, 1) := by decide +kernel
theorem dX7_at_15 : decode cX7_at 15 = .ok (.goto 4, 3) := by decide +kernel
theorem dX7_at_18 : decode cX7_at 18 = .ok (.iconst 0, 1) := by decide +kernel
theorem dX7_at_19 : decode cX7_at 19 = .ok (.ireturn, 1) := by decide +kernel
theorem dX7_reads_0 : decode cX7_reads 0 = .ok (.aload_n 0, 1) := by decide +kernel
theorem dX7_reads_1 : decode cX7_reads 1 = .ok (.getfield 17, 3) := by decide +kernel
theorem dX7_reads_4 : decode cX7_reads 4 = .ok (.invokestatic 85, 3) := by decide +kernel
theorem dX7_reads_7 : decode cX7_reads 7 = .ok (.iconst 0, 1) := by decide +kernel
theorem dX7_reads_8 : decode cX7_reads 8 = .ok (.istore_n 2, 1) := by decide +kernel
theorem dX7_reads_9 : decode cX7_reads 9 = .ok (.iconst 0, 1) := by decide +kernel
theorem dX7_reads_10 : decode cX7_reads 10 = .ok (.istore_n 3, 1) := by decide +kernel
theorem dX7_reads_11 : decode cX7_reads 11 = .ok (.iload_n 3, 1) := by decide +kernel
theorem dX7_reads_12 : decode cX7_reads 12 = .ok (.iload_n 1, 1) := by decide +kernel
theorem dX7_reads_13 : decode cX7_reads 13 = .ok (.if_icmp .gt 168, 3) := by decide +kernel
theorem dX7_reads_16 : decode cX7_reads 16 = .ok (.aload_n 0, 1) := by decide +kernel
theorem dX7_reads_17 : decode cX7_reads 17 = .ok (.iload_n 2, 1) := by decide +kernel
theorem dX7_reads_18 : decode cX7_reads 18 = .ok (.iload_n 1, 1) := by decide +kernel
theorem dX7_reads_19 : decode cX7_reads 19 = .ok (.invokevirtual 101, 3) := by decide +kernel
theorem dX7_reads_22 : decode cX7_reads 22 = .ok (.invokestatic 105, 3) := by decide +kernel
theorem dX7_reads_25 : decode cX7_reads 25 = .ok (.istore 4, 2) := by decide +kernel
theorem dX7_reads_27 : decode cX7_reads 27 = .ok (.iload 4, 2) := by decide +kernel
theorem dX7_reads_29 : decode cX7_reads 29 = .ok (.iconst (-1), 1) := by decide +kernel
theorem dX7_reads_30 : decode cX7_reads 30 = .ok (.if_icmp .ne 8, 3) := by decide +kernel
theorem dX7_reads_33 : decode cX7_reads 33 = .ok (.bipush 100, 2) := by decide +kernel
theorem dX7_reads_35 : decode cX7_reads 35 = .ok (.iload_n 2, 1) := by decide +kernel
theorem dX7_reads_36 : decode cX7_reads 36 = .ok (.iadd, 1) := by decide +kernel
theorem dX7_reads_37 : decode cX7_reads 37 = .ok (.ireturn, 1) := by decide +kernel
theorem dX7_reads_38 : decode cX7_reads 38 = .ok (.iinc 2 1, 3) := by decide +kernel
theorem dX7_reads_41 : decode cX7_reads 41 = .ok (.aload_n 0, 1) := by decide +kernel
theorem dX7_reads_42 : decode cX7_reads 42 = .ok (.iload_n 2, 1) := by decide +kernel
theorem dX7_reads_43 : decode cX7_reads 43 = .ok (.iload_n 1, 1) := by decide +kernel
theorem dX7_reads_44 : decode cX7_reads 44 = .ok (.invokevirtual 101, 3) := by decide +kernel
theorem dX7_reads_47 : decode cX7_reads 47 = .ok (.bipush 48, 2) := by decide +kernel
theorem dX7_reads_49 : decode cX7_reads 49 = .ok (.bipush 57, 2) := by decide +kernel
theorem dX7_reads_51 : decode cX7_reads 51 = .ok (.invokestatic 97, 3) := by decide +kernel
theorem dX7_reads_54 : decode cX7_reads 54 = .ok (.ifCond .ne 9, 3) := by decide +kernel
theorem dX7_reads_57 : decode cX7_reads 57 = .ok (.sipush 200, 3) := by decide +kernel
theorem dX7_reads_60 : decode cX7_reads 60 = .ok (.iload_n 2, 1) := by decide +kernel
theorem dX7_reads_61 : decode cX7_reads 61 = .ok (.iadd, 1) := by decide +kernel
theorem dX7_reads_62 : decode cX7_reads 62 = .ok (.ireturn, 1) := by decide +kernel
theorem dX7_reads_63 : decode cX7_reads 63 = .ok (.iload_n 2, 1) := by decide +kernel
theorem dX7_reads_64 : decode cX7_reads 64 = .ok (.istore 5, 2) := by decide +kernel
theorem dX7_reads_66 : decode cX7_reads 66 = .ok (.iconst 0, 1) := by decide +kernel
theorem dX7_reads_67 : decode cX7_reads 67 = .ok (.istore 6, 2) := by decide +kernel
theorem dX7_reads_69 : decode cX7_reads 69 = .ok (.aload_n 0, 1) := by decide +kernel
theorem dX7_reads_70 : decode cX7_reads 70 = .ok (.iload_n 2, 1) := by decide +kernel
theorem dX7_reads_71 : decode cX7_reads 71 = .ok (.iload_n 1, 1) := by decide +kernel
theorem dX7_reads_72 : decode cX7_reads 72 = .ok (.invokevirtual 101, 3) := by decide +kernel
theorem dX7_reads_75 : decode cX7_reads 75 = .ok (.bipush 48, 2) := by decide +kernel
theorem dX7_reads_77 : decode cX7_reads 77 = .ok (.bipush 57, 2) := by decide +kernel
theorem dX7_reads_79 : decode cX7_reads 79 = .ok (.invokestatic 97, 3) := by decide +kernel
theorem dX7_reads_82 : decode cX7_reads 82 = .ok (.ifCond .eq 40, 3) := by decide +kernel
theorem dX7_reads_85 : decode cX7_reads 85 = .ok (.iload_n 2, 1) := by decide +kernel
theorem dX7_reads_86 : decode cX7_reads 86 = .ok (.iload 5, 2) := by decide +kernel
theorem dX7_reads_88 : decode cX7_reads 88 = .ok (.iconst 4, 1) := by decide +kernel
theorem dX7_reads_89 : decode cX7_reads 89 = .ok (.iadd, 1) := by decide +kernel
theorem dX7_reads_90 : decode cX7_reads 90 = .ok (.if_icmp .ne 9, 3) := by decide +kernel
theorem dX7_reads_93 : decode cX7_reads 93 = .ok (.sipush 300, 3) := by decide +kernel
theorem dX7_reads_96 : decode cX7_reads 96 = .ok (.iload_n 2, 1) := by decide +kernel
theorem dX7_reads_97 : decode cX7_reads 97 = .ok (.iadd, 1) := by decide +kernel
theorem dX7_reads_98 : decode cX7_reads 98 = .ok (.ireturn, 1) := by decide +kernel
theorem dX7_reads_99 : decode cX7_reads 99 = .ok (.bipush 10, 2) := by decide +kernel
theorem dX7_reads_101 : decode cX7_reads 101 = .ok (.iload 6, 2) := by decide +kernel
theorem dX7_reads_103 : decode cX7_reads 103 = .ok (.imul, 1) := by decide +kernel
theorem dX7_reads_104 : decode cX7_reads 104 = .ok (.aload_n 0, 1) := by decide +kernel
theorem dX7_reads_105 : decode cX7_reads 105 = .ok (.iload_n 2, 1) := by decide +kernel
theorem dX7_reads_106 : decode cX7_reads 106 = .ok (.iload_n 1, 1) := by decide +kernel
theorem dX7_reads_107 : decode cX7_reads 107 = .ok (.invokevirtual 101, 3) := by decide +kernel
theorem dX7_reads_110 : decode cX7_reads 110 = .ok (.iadd, 1) := by decide +kernel
theorem dX7_reads_111 : decode cX7_reads 111 = .ok (.bipush 48, 2) := by decide +kernel
theorem dX7_reads_113 : decode cX7_reads 113 = .ok (.isub, 1) := by decide +kernel
theorem dX7_reads_114 : decode cX7_reads 114 = .ok (.istore 6, 2) := by decide +kernel
theorem dX7_reads_116 : decode cX7_reads 116 = .ok (.iinc 2 1, 3) := by decide +kernel
theorem dX7_reads_119 : decode cX7_reads 119 = .ok (.goto (-50), 3) := by decide +kernel
theorem dX7_reads_122 : decode cX7_reads 122 = .ok (.iload 4, 2) := by decide +kernel
theorem dX7_reads_124 : decode cX7_reads 124 = .ok (.iload 6, 2) := by decide +kernel
theorem dX7_reads_126 : decode cX7_reads 126 = .ok (.invokestatic 109, 3) := by decide +kernel
theorem dX7_reads_129 : decode cX7_reads 129 = .ok (.ifCond .ne 10, 3) := by decide +kernel
theorem dX7_reads_132 : decode cX7_reads 132 = .ok (.sipush 400, 3) := by decide +kernel
theorem dX7_reads_135 : decode cX7_reads 135 = .ok (.iload 5, 2) := by decide +kernel
theorem dX7_reads_137 : decode cX7_reads 137 = .ok (.iadd, 1) := by decide +kernel
theorem dX7_reads_138 : decode cX7_reads 138 = .ok (.ireturn, 1) := by decide +kernel
theorem dX7_reads_139 : decode cX7_reads 139 = .ok (.aload_n 0, 1) := by decide +kernel
theorem dX7_reads_140 : decode cX7_reads 140 = .ok (.getfield 17, 3) := by decide +kernel
theorem dX7_reads_143 : decode cX7_reads 143 = .ok (.iload 4, 2) := by decide +kernel
theorem dX7_reads_145 : decode cX7_reads 145 = .ok (.iload 6, 2) := by decide +kernel
theorem dX7_reads_147 : decode cX7_reads 147 = .ok (.iastore, 1) := by decide +kernel
theorem dX7_reads_148 : decode cX7_reads 148 = .ok (.iload_n 2, 1) := by decide +kernel
theorem dX7_reads_149 : decode cX7_reads 149 = .ok (.iload_n 1, 1) := by decide +kernel
theorem dX7_reads_150 : decode cX7_reads 150 = .ok (.if_icmp .ne 5, 3) := by decide +kernel
theorem dX7_reads_153 : decode cX7_reads 153 = .ok (.iconst 0, 1) := by decide +kernel
theorem dX7_reads_154 : decode cX7_reads 154 = .ok (.ireturn, 1) := by decide +kernel
theorem dX7_reads_155 : decode cX7_reads 155 = .ok (.aload_n 0, 1) := by decide +kernel
theorem dX7_reads_156 : decode cX7_reads 156 = .ok (.iload_n 2, 1) := by decide +kernel
theorem dX7_reads_157 : decode cX7_reads 157 = .ok (.iload_n 1, 1) := by decide +kernel
theorem dX7_reads_158 : decode cX7_reads 158 = .ok (.invokevirtual 101, 3) := by decide +kernel
theorem dX7_reads_161 : decode cX7_reads 161 = .ok (.bipush 59, 2) := by decide +kernel
theorem dX7_reads_163 : decode cX7_reads 163 = .ok (.if_icmp .eq 9, 3) := by decide +kernel
theorem dX7_reads_166 : decode cX7_reads 166 = .ok (.sipush 500, 3) := by decide +kernel
theorem dX7_reads_169 : decode cX7_reads 169 = .ok (.iload_n 2, 1) := by decide +kernel
theorem dX7_reads_170 : decode cX7_reads 170 = .ok (.iadd, 1) := by decide +kernel
theorem dX7_reads_171 : decode cX7_reads 171 = .ok (.ireturn, 1) := by decide +kernel
theorem dX7_reads_172 : decode cX7_reads 172 = .ok (.iinc 2 1, 3) := by decide +kernel
theorem dX7_reads_175 : decode cX7_reads 175 = .ok (.iinc 3 1, 3) := by decide +kernel
theorem dX7_reads_178 : decode cX7_reads 178 = .ok (.goto (-167), 3) := by decide +kernel
theorem dX7_reads_181 : decode cX7_reads 181 = .ok (.bipush 100, 2) := by decide +kernel
theorem dX7_reads_183 : decode cX7_reads 183 = .ok (.iload_n 2, 1) := by decide +kernel
theorem dX7_reads_184 : decode cX7_reads 184 = .ok (.iadd, 1) := by decide +kernel
theorem dX7_reads_185 : decode cX7_reads 185 = .ok (.ireturn, 1) := by decide +kernel
theorem dX7_rules_0 : decode cX7_rules 0 = .ok (.iload_n 1, 1) := by decide +kernel
theorem dX7_rules_1 : decode cX7_rules 1 = .ok (.ifCond .lt 11, 3) := by decide +kernel
theorem dX7_rules_4 : decode cX7_rules 4 = .ok (.iload_n 1, 1) := by decide +kernel
theorem dX7_rules_5 : decode cX7_rules 5 = .ok (.aload_n 0, 1) := by decide +kernel
theorem dX7_rules_6 : decode cX7_rules 6 = .ok (.getfield 89, 3) := by decide +kernel
theorem dX7_rules_9 : decode cX7_rules 9 = .ok (.if_icmp .le 5, 3) := by decide +kernel
theorem dX7_rules_12 : decode cX7_rules 12 = .ok (.iconst (-1), 1) := by decide +kernel
theorem dX7_rules_13 : decode cX7_rules 13 = .ok (.ireturn, 1) := by decide +kernel
theorem dX7_rules_14 : decode cX7_rules 14 = .ok (.aload_n 0, 1) := by decide +kernel
theorem dX7_rules_15 : decode cX7_rules 15 = .ok (.iconst 0, 1) := by decide +kernel
theorem dX7_rules_16 : decode cX7_rules 16 = .ok (.putfield 89, 3) := by decide +kernel
theorem dX7_rules_19 : decode cX7_rules 19 = .ok (.aload_n 0, 1) := by decide +kernel
theorem dX7_rules_20 : decode cX7_rules 20 = .ok (.iload_n 1, 1) := by decide +kernel
theorem dX7_rules_21 : decode cX7_rules 21 = .ok (.invokevirtual 113, 3) := by decide +kernel
theorem dX7_rules_24 : decode cX7_rules 24 = .ok (.istore_n 2, 1) := by decide +kernel
theorem dX7_rules_25 : decode cX7_rules 25 = .ok (.iconst 0, 1) := by decide +kernel
theorem dX7_rules_26 : decode cX7_rules 26 = .ok (.istore_n 3, 1) := by decide +kernel
theorem dX7_rules_27 : decode cX7_rules 27 = .ok (.iload_n 3, 1) := by decide +kernel
theorem dX7_rules_28 : decode cX7_rules 28 = .ok (.bipush 7, 2) := by decide +kernel
theorem dX7_rules_30 : decode cX7_rules 30 = .ok (.if_icmp .ge 25, 3) := by decide +kernel
theorem dX7_rules_33 : decode cX7_rules 33 = .ok (.iload_n 2, 1) := by decide +kernel
theorem dX7_rules_34 : decode cX7_rules 34 = .ok (.ifCond .ne 21, 3) := by decide +kernel
theorem dX7_rules_37 : decode cX7_rules 37 = .ok (.aload_n 0, 1) := by decide +kernel
theorem dX7_rules_38 : decode cX7_rules 38 = .ok (.getfield 13, 3) := by decide +kernel
theorem dX7_rules_41 : decode cX7_rules 41 = .ok (.iload_n 3, 1) := by decide +kernel
theorem dX7_rules_42 : decode cX7_rules 42 = .ok (.aload_n 0, 1) := by decide +kernel
theorem dX7_rules_43 : decode cX7_rules 43 = .ok (.getfield 17, 3) := by decide +kernel
theorem dX7_rules_46 : decode cX7_rules 46 = .ok (.iload_n 3, 1) := by decide +kernel
theorem dX7_rules_47 : decode cX7_rules 47 = .ok (.iaload, 1) := by decide +kernel
theorem dX7_rules_48 : decode cX7_rules 48 = .ok (.iastore, 1) := by decide +kernel
theorem dX7_rules_49 : decode cX7_rules 49 = .ok (.iinc 3 1, 3) := by decide +kernel
theorem dX7_rules_52 : decode cX7_rules 52 = .ok (.goto (-25), 3) := by decide +kernel
theorem dX7_rules_55 : decode cX7_rules 55 = .ok (.aload_n 0, 1) := by decide +kernel
theorem dX7_rules_56 : decode cX7_rules 56 = .ok (.iconst 0, 1) := by decide +kernel
theorem dX7_rules_57 : decode cX7_rules 57 = .ok (.putfield 116, 3) := by decide +kernel
theorem dX7_rules_60 : decode cX7_rules 60 = .ok (.iload_n 2, 1) := by decide +kernel
theorem dX7_rules_61 : decode cX7_rules 61 = .ok (.ireturn, 1) := by decide +kernel
theorem dX7_isTeacher_0 : decode cX7_isTeacher 0 = .ok (.iload_n 1, 1) := by decide +kernel
theorem dX7_isTeacher_1 : decode cX7_isTeacher 1 = .ok (.iconst 0, 1) := by decide +kernel
theorem dX7_isTeacher_2 : decode cX7_isTeacher 2 = .ok (.aload_n 0, 1) := by decide +kernel
theorem dX7_isTeacher_3 : decode cX7_isTeacher 3 = .ok (.getfield 120, 3) := by decide +kernel
theorem dX7_isTeacher_6 : decode cX7_isTeacher 6 = .ok (.iconst 1, 1) := by decide +kernel
theorem dX7_isTeacher_7 : decode cX7_isTeacher 7 = .ok (.isub, 1) := by decide +kernel
theorem dX7_isTeacher_8 : decode cX7_isTeacher 8 = .ok (.invokestatic 97, 3) := by decide +kernel
theorem dX7_isTeacher_11 : decode cX7_isTeacher 11 = .ok (.ireturn, 1) := by decide +kernel
theorem dX7_isGap_0 : decode cX7_isGap 0 = .ok (.iload_n 1, 1) := by decide +kernel
theorem dX7_isGap_1 : decode cX7_isGap 1 = .ok (.iconst 0, 1) := by decide +kernel
theorem dX7_isGap_2 : decode cX7_isGap 2 = .ok (.aload_n 0, 1) := by decide +kernel
theorem dX7_isGap_3 : decode cX7_isGap 3 = .ok (.getfield 123, 3) := by decide +kernel
theorem dX7_isGap_6 : decode cX7_isGap 6 = .ok (.iconst 1, 1) := by decide +kernel
theorem dX7_isGap_7 : decode cX7_isGap 7 = .ok (.isub, 1) := by decide +kernel
theorem dX7_isGap_8 : decode cX7_isGap 8 = .ok (.invokestatic 97, 3) := by decide +kernel
theorem dX7_isGap_11 : decode cX7_isGap 11 = .ok (.ireturn, 1) := by decide +kernel
theorem dX7_teacher_0 : decode cX7_teacher 0 = .ok (.aload_n 0, 1) := by decide +kernel
theorem dX7_teacher_1 : decode cX7_teacher 1 = .ok (.getfield 120, 3) := by decide +kernel
theorem dX7_teacher_4 : decode cX7_teacher 4 = .ok (.bipush 12, 2) := by decide +kernel
theorem dX7_teacher_6 : decode cX7_teacher 6 = .ok (.if_icmp .eq 35, 3) := by decide +kernel
theorem dX7_teacher_9 : decode cX7_teacher 9 = .ok (.iload_n 1, 1) := by decide +kernel
theorem dX7_teacher_10 : decode cX7_teacher 10 = .ok (.iconst 0, 1) := by decide +kernel
theorem dX7_teacher_11 : decode cX7_teacher 11 = .ok (.sipush 255, 3) := by decide +kernel
theorem dX7_teacher_14 : decode cX7_teacher 14 = .ok (.invokestatic 97, 3) := by decide +kernel
theorem dX7_teacher_17 : decode cX7_teacher 17 = .ok (.ifCond .eq 24, 3) := by decide +kernel
theorem dX7_teacher_20 : decode cX7_teacher 20 = .ok (.iload_n 2, 1) := by decide +kernel
theorem dX7_teacher_21 : decode cX7_teacher 21 = .ok (.iconst 0, 1) := by decide +kernel
theorem dX7_teacher_22 : decode cX7_teacher 22 = .ok (.bipush 15, 2) := by decide +kernel
theorem dX7_teacher_24 : decode cX7_teacher 24 = .ok (.invokestatic 97, 3) := by decide +kernel
theorem dX7_teacher_27 : decode cX7_teacher 27 = .ok (.ifCond .eq 14, 3) := by decide +kernel
theorem dX7_teacher_30 : decode cX7_teacher 30 = .ok (.iload_n 3, 1) := by decide +kernel
theorem dX7_teacher_31 : decode cX7_teacher 31 = .ok (.iconst 0, 1) := by decide +kernel
theorem dX7_teacher_32 : decode cX7_teacher 32 = .ok (.sipush 3000, 3) := by decide +kernel
theorem dX7_teacher_35 : decode cX7_teacher 35 = .ok (.invokestatic 97, 3) := by decide +kernel
theorem dX7_teacher_38 : decode cX7_teacher 38 = .ok (.ifCond .ne 5, 3) := by decide +kernel
theorem dX7_teacher_41 : decode cX7_teacher 41 = .ok (.iconst (-1), 1) := by decide +kernel
theorem dX7_teacher_42 : decode cX7_teacher 42 = .ok (.ireturn, 1) := by decide +kernel
theorem dX7_teacher_43 : decode cX7_teacher 43 = .ok (.aload_n 0, 1) := by decide +kernel
theorem dX7_teacher_44 : decode cX7_teacher 44 = .ok (.getfield 20, 3) := by decide +kernel
theorem dX7_teacher_47 : decode cX7_teacher 47 = .ok (.aload_n 0, 1) := by decide +kernel
theorem dX7_teacher_48 : decode cX7_teacher 48 = .ok (.getfield 120, 3) := by decide +kernel
theorem dX7_teacher_51 : decode cX7_teacher 51 = .ok (.iload_n 1, 1) := by decide +kernel
theorem dX7_teacher_52 : decode cX7_teacher 52 = .ok (.iastore, 1) := by decide +kernel
theorem dX7_teacher_53 : decode cX7_teacher 53 = .ok (.aload_n 0, 1) := by decide +kernel
theorem dX7_teacher_54 : decode cX7_teacher 54 = .ok (.getfield 23, 3) := by decide +kernel
theorem dX7_teacher_57 : decode cX7_teacher 57 = .ok (.aload_n 0, 1) := by decide +kernel
theorem dX7_teacher_58 : decode cX7_teacher 58 = .ok (.getfield 120, 3) := by decide +kernel
theorem dX7_teacher_61 : decode cX7_teacher 61 = .ok (.iload_n 2, 1) := by decide +kernel
theorem dX7_teacher_62 : decode cX7_teacher 62 = .ok (.iastore, 1) := by decide +kernel
theorem dX7_teacher_63 : decode cX7_teacher 63 = .ok (.aload_n 0, 1) := by decide +kernel
theorem dX7_teacher_64 : decode cX7_teacher 64 = .ok (.getfield 26, 3) := by decide +kernel
theorem dX7_teacher_67 : decode cX7_teacher 67 = .ok (.aload_n 0, 1) := by decide +kernel
theorem dX7_teacher_68 : decode cX7_teacher 68 = .ok (.getfield 120, 3) := by decide +kernel
theorem dX7_teacher_71 : decode cX7_teacher 71 = .ok (.iload_n 3, 1) := by decide +kernel
theorem dX7_teacher_72 : decode cX7_teacher 72 = .ok (.iastore, 1) := by decide +kernel
theorem dX7_teacher_73 : decode cX7_teacher 73 = .ok (.aload_n 0, 1) := by decide +kernel
theorem dX7_teacher_74 : decode cX7_teacher 74 = .ok (.getfield 41, 3) := by decide +kernel
theorem dX7_teacher_77 : decode cX7_teacher 77 = .ok (.aload_n 0, 1) := by decide +kernel
theorem dX7_teacher_78 : decode cX7_teacher 78 = .ok (.getfield 120, 3) := by decide +kernel
theorem dX7_teacher_81 : decode cX7_teacher 81 = .ok (.iconst (-1), 1) := by decide +kernel
theorem dX7_teacher_82 : decode cX7_teacher 82 = .ok (.iastore, 1) := by decide +kernel
theorem dX7_teacher_83 : decode cX7_teacher 83 = .ok (.iconst 0, 1) := by decide +kernel
theorem dX7_teacher_84 : decode cX7_teacher 84 = .ok (.istore 4, 2) := by decide +kernel
theorem dX7_teacher_86 : decode cX7_teacher 86 = .ok (.iload 4, 2) := by decide +kernel
theorem dX7_teacher_88 : decode cX7_teacher 88 = .ok (.bipush 6, 2) := by decide +kernel
theorem dX7_teacher_90 : decode cX7_teacher 90 = .ok (.if_icmp .ge 26, 3) := by decide +kernel
theorem dX7_teacher_93 : decode cX7_teacher 93 = .ok (.aload_n 0, 1) := by decide +kernel
theorem dX7_teacher_94 : decode cX7_teacher 94 = .ok (.getfield 29, 3) := by decide +kernel
theorem dX7_teacher_97 : decode cX7_teacher 97 = .ok (.bipush 6, 2) := by decide +kernel
theorem dX7_teacher_99 : decode cX7_teacher 99 = .ok (.aload_n 0, 1) := by decide +kernel
theorem dX7_teacher_100 : decode cX7_teacher 100 = .ok (.getfield 120, 3) := by decide +kernel
theorem dX7_teacher_103 : decode cX7_teacher 103 = .ok (.imul, 1) := by decide +kernel
theorem dX7_teacher_104 : decode cX7_teacher 104 = .ok (.iload 4, 2) := by decide +kernel
theorem dX7_teacher_106 : decode cX7_teacher 106 = .ok (.iadd, 1) := by decide +kernel
theorem dX7_teacher_107 : decode cX7_teacher 107 = .ok (.bipush 30, 2) := by decide +kernel
theorem dX7_teacher_109 : decode cX7_teacher 109 = .ok (.iastore, 1) := by decide +kernel
theorem dX7_teacher_110 : decode cX7_teacher 110 = .ok (.iinc 4 1, 3) := by decide +kernel
theorem dX7_teacher_113 : decode cX7_teacher 113 = .ok (.goto (-27), 3) := by decide +kernel
theorem dX7_teacher_116 : decode cX7_teacher 116 = .ok (.aload_n 0, 1) := by decide +kernel
theorem dX7_teacher_117 : decode cX7_teacher 117 = .ok (.dup, 1) := by decide +kernel
theorem dX7_teacher_118 : decode cX7_teacher 118 = .ok (.getfield 120, 3) := by decide +kernel
theorem dX7_teacher_121 : decode cX7_teacher 121 = .ok (.iconst 1, 1) := by decide +kernel
theorem dX7_teacher_122 : decode cX7_teacher 122 = .ok (.iadd, 1) := by decide +kernel
theorem dX7_teacher_123 : decode cX7_teacher 123 = .ok (.putfield 120, 3) := by decide +kernel
theorem dX7_teacher_126 : decode cX7_teacher 126 = .ok (.aload_n 0, 1) := by decide +kernel
theorem dX7_teacher_127 : decode cX7_teacher 127 = .ok (.iconst 0, 1) := by decide +kernel
theorem dX7_teacher_128 : decode cX7_teacher 128 = .ok (.putfield 116, 3) := by decide +kernel
theorem dX7_teacher_131 : decode cX7_teacher 131 = .ok (.aload_n 0, 1) := by decide +kernel
theorem dX7_teacher_132 : decode cX7_teacher 132 = .ok (.getfield 120, 3) := by decide +kernel
theorem dX7_teacher_135 : decode cX7_teacher 135 = .ok (.iconst 1, 1) := by decide +kernel
theorem dX7_teacher_136 : decode cX7_teacher 136 = .ok (.isub, 1) := by decide +kernel
theorem dX7_teacher_137 : decode cX7_teacher 137 = .ok (.ireturn, 1) := by decide +kernel
theorem dX7_way_0 : decode cX7_way 0 = .ok (.aload_n 0, 1) := by decide +kernel
theorem dX7_way_1 : decode cX7_way 1 = .ok (.iload_n 1, 1) := by decide +kernel
theorem dX7_way_2 : decode cX7_way 2 = .ok (.invokevirtual 126, 3) := by decide +kernel
theorem dX7_way_5 : decode cX7_way 5 = .ok (.ifCond .eq 23, 3) := by decide +kernel
theorem dX7_way_8 : decode cX7_way 8 = .ok (.iload_n 2, 1) := by decide +kernel
theorem dX7_way_9 : decode cX7_way 9 = .ok (.iconst 0, 1) := by decide +kernel
theorem dX7_way_10 : decode cX7_way 10 = .ok (.iconst 5, 1) := by decide +kernel
theorem dX7_way_11 : decode cX7_way 11 = .ok (.invokestatic 97, 3) := by decide +kernel
theorem dX7_way_14 : decode cX7_way 14 = .ok (.ifCond .eq 14, 3) := by decide +kernel
theorem dX7_way_17 : decode cX7_way 17 = .ok (.iload_n 3, 1) := by decide +kernel
theorem dX7_way_18 : decode cX7_way 18 = .ok (.iconst 0, 1) := by decide +kernel
theorem dX7_way_19 : decode cX7_way 19 = .ok (.sipush 200, 3) := by decide +kernel
theorem dX7_way_22 : decode cX7_way 22 = .ok (.invokestatic 97, 3) := by decide +kernel
theorem dX7_way_25 : decode cX7_way 25 = .ok (.ifCond .ne 5, 3) := by decide +kernel
theorem dX7_way_28 : decode cX7_way 28 = .ok (.iconst 0, 1) := by decide +kernel
theorem dX7_way_29 : decode cX7_way 29 = .ok (.ireturn, 1) := by decide +kernel
theorem dX7_way_30 : decode cX7_way 30 = .ok (.aload_n 0, 1) := by decide +kernel
theorem dX7_way_31 : decode cX7_way 31 = .ok (.getfield 29, 3) := by decide +kernel
theorem dX7_way_34 : decode cX7_way 34 = .ok (.bipush 6, 2) := by decide +kernel
theorem dX7_way_36 : decode cX7_way 36 = .ok (.iload_n 1, 1) := by decide +kernel
theorem dX7_way_37 : decode cX7_way 37 = .ok (.imul, 1) := by decide +kernel
theorem dX7_way_38 : decode cX7_way 38 = .ok (.iload_n 2, 1) := by decide +kernel
theorem dX7_way_39 : decode cX7_way 39 = .ok (.iadd, 1) := by decide +kernel
theorem dX7_way_40 : decode cX7_way 40 = .ok (.iload_n 3, 1) := by decide +kernel
theorem dX7_way_41 : decode cX7_way 41 = .ok (.iastore, 1) := by decide +kernel
theorem dX7_way_42 : decode cX7_way 42 = .ok (.aload_n 0, 1) := by decide +kernel
theorem dX7_way_43 : decode cX7_way 43 = .ok (.iconst 0, 1) := by decide +kernel
theorem dX7_way_44 : decode cX7_way 44 = .ok (.putfield 116, 3) := by decide +kernel
theorem dX7_way_47 : decode cX7_way 47 = .ok (.iconst 1, 1) := by decide +kernel
theorem dX7_way_48 : decode cX7_way 48 = .ok (.ireturn, 1) := by decide +kernel
theorem dX7_likes_0 : decode cX7_likes 0 = .ok (.aload_n 0, 1) := by decide +kernel
theorem dX7_likes_1 : decode cX7_likes 1 = .ok (.iload_n 1, 1) := by decide +kernel
theorem dX7_likes_2 : decode cX7_likes 2 = .ok (.invokevirtual 126, 3) := by decide +kernel
theorem dX7_likes_5 : decode cX7_likes 5 = .ok (.ifCond .eq 23, 3) := by decide +kernel
theorem dX7_likes_8 : decode cX7_likes 8 = .ok (.iload_n 2, 1) := by decide +kernel
theorem dX7_likes_9 : decode cX7_likes 9 = .ok (.iconst 0, 1) := by decide +kernel
theorem dX7_likes_10 : decode cX7_likes 10 = .ok (.bipush 63, 2) := by decide +kernel
theorem dX7_likes_12 : decode cX7_likes 12 = .ok (.invokestatic 97, 3) := by decide +kernel
theorem dX7_likes_15 : decode cX7_likes 15 = .ok (.ifCond .eq 13, 3) := by decide +kernel
theorem dX7_likes_18 : decode cX7_likes 18 = .ok (.iload_n 3, 1) := by decide +kernel
theorem dX7_likes_19 : decode cX7_likes 19 = .ok (.iconst 0, 1) := by decide +kernel
theorem dX7_likes_20 : decode cX7_likes 20 = .ok (.bipush 63, 2) := by decide +kernel
theorem dX7_likes_22 : decode cX7_likes 22 = .ok (.invokestatic 97, 3) := by decide +kernel
theorem dX7_likes_25 : decode cX7_likes 25 = .ok (.ifCond .ne 5, 3) := by decide +kernel
theorem dX7_likes_28 : decode cX7_likes 28 = .ok (.iconst 0, 1) := by decide +kernel
theorem dX7_likes_29 : decode cX7_likes 29 = .ok (.ireturn, 1) := by decide +kernel
theorem dX7_likes_30 : decode cX7_likes 30 = .ok (.aload_n 0, 1) := by decide +kernel
theorem dX7_likes_31 : decode cX7_likes 31 = .ok (.getfield 32, 3) := by decide +kernel
theorem dX7_likes_34 : decode cX7_likes 34 = .ok (.iload_n 1, 1) := by decide +kernel
theorem dX7_likes_35 : decode cX7_likes 35 = .ok (.iload_n 2, 1) := by decide +kernel
theorem dX7_likes_36 : decode cX7_likes 36 = .ok (.iastore, 1) := by decide +kernel
theorem dX7_likes_37 : decode cX7_likes 37 = .ok (.aload_n 0, 1) := by decide +kernel
theorem dX7_likes_38 : decode cX7_likes 38 = .ok (.getfield 35, 3) := by decide +kernel
theorem dX7_likes_41 : decode cX7_likes 41 = .ok (.iload_n 1, 1) := by decide +kernel
theorem dX7_likes_42 : decode cX7_likes 42 = .ok (.iload_n 3, 1) := by decide +kernel
theorem dX7_likes_43 : decode cX7_likes 43 = .ok (.iastore, 1) := by decide +kernel
theorem dX7_likes_44 : decode cX7_likes 44 = .ok (.aload_n 0, 1) := by decide +kernel
theorem dX7_likes_45 : decode cX7_likes 45 = .ok (.iconst 0, 1) := by decide +kernel
theorem dX7_likes_46 : decode cX7_likes 46 = .ok (.putfield 116, 3) := by decide +kernel
theorem dX7_likes_49 : decode cX7_likes 49 = .ok (.iconst 1, 1) := by decide +kernel
theorem dX7_likes_50 : decode cX7_likes 50 = .ok (.ireturn, 1) := by decide +kernel
theorem dX7_gap_0 : decode cX7_gap 0 = .ok (.aload_n 0, 1) := by decide +kernel
theorem dX7_gap_1 : decode cX7_gap 1 = .ok (.getfield 123, 3) := by decide +kernel
theorem dX7_gap_4 : decode cX7_gap 4 = .ok (.bipush 10, 2) := by decide +kernel
theorem dX7_gap_6 : decode cX7_gap 6 = .ok (.if_icmp .eq 53, 3) := by decide +kernel
theorem dX7_gap_9 : decode cX7_gap 9 = .ok (.iload_n 1, 1) := by decide +kernel
theorem dX7_gap_10 : decode cX7_gap 10 = .ok (.iconst 0, 1) := by decide +kernel
theorem dX7_gap_11 : decode cX7_gap 11 = .ok (.iconst 5, 1) := by decide +kernel
theorem dX7_gap_12 : decode cX7_gap 12 = .ok (.invokestatic 97, 3) := by decide +kernel
theorem dX7_gap_15 : decode cX7_gap 15 = .ok (.ifCond .eq 44, 3) := by decide +kernel
theorem dX7_gap_18 : decode cX7_gap 18 = .ok (.iload_n 2, 1) := by decide +kernel
theorem dX7_gap_19 : decode cX7_gap 19 = .ok (.iconst 0, 1) := by decide +kernel
theorem dX7_gap_20 : decode cX7_gap 20 = .ok (.bipush 15, 2) := by decide +kernel
theorem dX7_gap_22 : decode cX7_gap 22 = .ok (.invokestatic 97, 3) := by decide +kernel
theorem dX7_gap_25 : decode cX7_gap 25 = .ok (.ifCond .eq 34, 3) := by decide +kernel
theorem dX7_gap_28 : decode cX7_gap 28 = .ok (.iload_n 3, 1) := by decide +kernel
theorem dX7_gap_29 : decode cX7_gap 29 = .ok (.iconst 0, 1) := by decide +kernel
theorem dX7_gap_30 : decode cX7_gap 30 = .ok (.bipush 7, 2) := by decide +kernel
theorem dX7_gap_32 : decode cX7_gap 32 = .ok (.invokestatic 97, 3) := by decide +kernel
theorem dX7_gap_35 : decode cX7_gap 35 = .ok (.ifCond .eq 24, 3) := by decide +kernel
theorem dX7_gap_38 : decode cX7_gap 38 = .ok (.iload 4, 2) := by decide +kernel
theorem dX7_gap_40 : decode cX7_gap 40 = .ok (.iconst 0, 1) := by decide +kernel
theorem dX7_gap_41 : decode cX7_gap 41 = .ok (.iconst 3, 1) := by decide +kernel
theorem dX7_gap_42 : decode cX7_gap 42 = .ok (.invokestatic 97, 3) := by decide +kernel
theorem dX7_gap_45 : decode cX7_gap 45 = .ok (.ifCond .eq 14, 3) := by decide +kernel
theorem dX7_gap_48 : decode cX7_gap 48 = .ok (.iload 5, 2) := by decide +kernel
theorem dX7_gap_50 : decode cX7_gap 50 = .ok (.iconst 1, 1) := by decide +kernel
theorem dX7_gap_51 : decode cX7_gap 51 = .ok (.bipush 8, 2) := by decide +kernel
theorem dX7_gap_53 : decode cX7_gap 53 = .ok (.invokestatic 97, 3) := by decide +kernel
theorem dX7_gap_56 : decode cX7_gap 56 = .ok (.ifCond .ne 5, 3) := by decide +kernel
theorem dX7_gap_59 : decode cX7_gap 59 = .ok (.iconst (-1), 1) := by decide +kernel
theorem dX7_gap_60 : decode cX7_gap 60 = .ok (.ireturn, 1) := by decide +kernel
theorem dX7_gap_61 : decode cX7_gap 61 = .ok (.aload_n 0, 1) := by decide +kernel
theorem dX7_gap_62 : decode cX7_gap 62 = .ok (.getfield 54, 3) := by decide +kernel
theorem dX7_gap_65 : decode cX7_gap 65 = .ok (.aload_n 0, 1) := by decide +kernel
theorem dX7_gap_66 : decode cX7_gap 66 = .ok (.getfield 123, 3) := by decide +kernel
theorem dX7_gap_69 : decode cX7_gap 69 = .ok (.iload_n 1, 1) := by decide +kernel
theorem dX7_gap_70 : decode cX7_gap 70 = .ok (.iastore, 1) := by decide +kernel
theorem dX7_gap_71 : decode cX7_gap 71 = .ok (.aload_n 0, 1) := by decide +kernel
theorem dX7_gap_72 : decode cX7_gap 72 = .ok (.getfield 57, 3) := by decide +kernel
theorem dX7_gap_75 : decode cX7_gap 75 = .ok (.aload_n 0, 1) := by decide +kernel
theorem dX7_gap_76 : decode cX7_gap 76 = .ok (.getfield 123, 3) := by decide +kernel
theorem dX7_gap_79 : decode cX7_gap 79 = .ok (.iload_n 2, 1) := by decide +kernel
theorem dX7_gap_80 : decode cX7_gap 80 = .ok (.iastore, 1) := by decide +kernel
theorem dX7_gap_81 : decode cX7_gap 81 = .ok (.aload_n 0, 1) := by decide +kernel
theorem dX7_gap_82 : decode cX7_gap 82 = .ok (.getfield 60, 3) := by decide +kernel
theorem dX7_gap_85 : decode cX7_gap 85 = .ok (.aload_n 0, 1) := by decide +kernel
theorem dX7_gap_86 : decode cX7_gap 86 = .ok (.getfield 123, 3) := by decide +kernel
theorem dX7_gap_89 : decode cX7_gap 89 = .ok (.iload_n 3, 1) := by decide +kernel
theorem dX7_gap_90 : decode cX7_gap 90 = .ok (.iastore, 1) := by decide +kernel
theorem dX7_gap_91 : decode cX7_gap 91 = .ok (.aload_n 0, 1) := by decide +kernel
theorem dX7_gap_92 : decode cX7_gap 92 = .ok (.getfield 63, 3) := by decide +kernel
theorem dX7_gap_95 : decode cX7_gap 95 = .ok (.aload_n 0, 1) := by decide +kernel
theorem dX7_gap_96 : decode cX7_gap 96 = .ok (.getfield 123, 3) := by decide +kernel
theorem dX7_gap_99 : decode cX7_gap 99 = .ok (.iload 4, 2) := by decide +kernel
theorem dX7_gap_101 : decode cX7_gap 101 = .ok (.iastore, 1) := by decide +kernel
theorem dX7_gap_102 : decode cX7_gap 102 = .ok (.aload_n 0, 1) := by decide +kernel
theorem dX7_gap_103 : decode cX7_gap 103 = .ok (.getfield 66, 3) := by decide +kernel
theorem dX7_gap_106 : decode cX7_gap 106 = .ok (.aload_n 0, 1) := by decide +kernel
theorem dX7_gap_107 : decode cX7_gap 107 = .ok (.getfield 123, 3) := by decide +kernel
theorem dX7_gap_110 : decode cX7_gap 110 = .ok (.iload 5, 2) := by decide +kernel
theorem dX7_gap_112 : decode cX7_gap 112 = .ok (.iastore, 1) := by decide +kernel
theorem dX7_gap_113 : decode cX7_gap 113 = .ok (.aload_n 0, 1) := by decide +kernel
theorem dX7_gap_114 : decode cX7_gap 114 = .ok (.dup, 1) := by decide +kernel
theorem dX7_gap_115 : decode cX7_gap 115 = .ok (.getfield 123, 3) := by decide +kernel
theorem dX7_gap_118 : decode cX7_gap 118 = .ok (.iconst 1, 1) := by decide +kernel
theorem dX7_gap_119 : decode cX7_gap 119 = .ok (.iadd, 1) := by decide +kernel
theorem dX7_gap_120 : decode cX7_gap 120 = .ok (.putfield 123, 3) := by decide +kernel
theorem dX7_gap_123 : decode cX7_gap 123 = .ok (.aload_n 0, 1) := by decide +kernel
theorem dX7_gap_124 : decode cX7_gap 124 = .ok (.iconst 0, 1) := by decide +kernel
theorem dX7_gap_125 : decode cX7_gap 125 = .ok (.putfield 116, 3) := by decide +kernel
theorem dX7_gap_128 : decode cX7_gap 128 = .ok (.aload_n 0, 1) := by decide +kernel
theorem dX7_gap_129 : decode cX7_gap 129 = .ok (.getfield 123, 3) := by decide +kernel
theorem dX7_gap_132 : decode cX7_gap 132 = .ok (.iconst 1, 1) := by decide +kernel
theorem dX7_gap_133 : decode cX7_gap 133 = .ok (.isub, 1) := by decide +kernel
theorem dX7_gap_134 : decode cX7_gap 134 = .ok (.ireturn, 1) := by decide +kernel
theorem dX7_canFill_0 : decode cX7_canFill 0 = .ok (.aload_n 0, 1) := by decide +kernel
theorem dX7_canFill_1 : decode cX7_canFill 1 = .ok (.getfield 23, 3) := by decide +kernel
theorem dX7_canFill_4 : decode cX7_canFill 4 = .ok (.iload_n 1, 1) := by decide +kernel
theorem dX7_canFill_5 : decode cX7_canFill 5 = .ok (.iaload, 1) := by decide +kernel
theorem dX7_canFill_6 : decode cX7_canFill 6 = .ok (.aload_n 0, 1) := by decide +kernel
theorem dX7_canFill_7 : decode cX7_canFill 7 = .ok (.getfield 63, 3) := by decide +kernel
theorem dX7_canFill_10 : decode cX7_canFill 10 = .ok (.iload_n 2, 1) := by decide +kernel
theorem dX7_canFill_11 : decode cX7_canFill 11 = .ok (.iaload, 1) := by decide +kernel
theorem dX7_canFill_12 : decode cX7_canFill 12 = .ok (.invokestatic 130, 3) := by decide +kernel
theorem dX7_canFill_15 : decode cX7_canFill 15 = .ok (.ifCond .eq 63, 3) := by decide +kernel
theorem dX7_canFill_18 : decode cX7_canFill 18 = .ok (.aload_n 0, 1) := by decide +kernel
theorem dX7_canFill_19 : decode cX7_canFill 19 = .ok (.getfield 35, 3) := by decide +kernel
theorem dX7_canFill_22 : decode cX7_canFill 22 = .ok (.iload_n 1, 1) := by decide +kernel
theorem dX7_canFill_23 : decode cX7_canFill 23 = .ok (.iaload, 1) := by decide +kernel
theorem dX7_canFill_24 : decode cX7_canFill 24 = .ok (.aload_n 0, 1) := by decide +kernel
theorem dX7_canFill_25 : decode cX7_canFill 25 = .ok (.getfield 54, 3) := by decide +kernel
theorem dX7_canFill_28 : decode cX7_canFill 28 = .ok (.iload_n 2, 1) := by decide +kernel
theorem dX7_canFill_29 : decode cX7_canFill 29 = .ok (.iaload, 1) := by decide +kernel
theorem dX7_canFill_30 : decode cX7_canFill 30 = .ok (.invokestatic 130, 3) := by decide +kernel
theorem dX7_canFill_33 : decode cX7_canFill 33 = .ok (.ifCond .ne 45, 3) := by decide +kernel
theorem dX7_canFill_36 : decode cX7_canFill 36 = .ok (.aload_n 0, 1) := by decide +kernel
theorem dX7_canFill_37 : decode cX7_canFill 37 = .ok (.getfield 29, 3) := by decide +kernel
theorem dX7_canFill_40 : decode cX7_canFill 40 = .ok (.bipush 6, 2) := by decide +kernel
theorem dX7_canFill_42 : decode cX7_canFill 42 = .ok (.iload_n 1, 1) := by decide +kernel
theorem dX7_canFill_43 : decode cX7_canFill 43 = .ok (.imul, 1) := by decide +kernel
theorem dX7_canFill_44 : decode cX7_canFill 44 = .ok (.aload_n 0, 1) := by decide +kernel
theorem dX7_canFill_45 : decode cX7_canFill 45 = .ok (.getfield 54, 3) := by decide +kernel
theorem dX7_canFill_48 : decode cX7_canFill 48 = .ok (.iload_n 2, 1) := by decide +kernel
theorem dX7_canFill_49 : decode cX7_canFill 49 = .ok (.iaload, 1) := by decide +kernel
theorem dX7_canFill_50 : decode cX7_canFill 50 = .ok (.iadd, 1) := by decide +kernel
theorem dX7_canFill_51 : decode cX7_canFill 51 = .ok (.iaload, 1) := by decide +kernel
theorem dX7_canFill_52 : decode cX7_canFill 52 = .ok (.aload_n 0, 1) := by decide +kernel
theorem dX7_canFill_53 : decode cX7_canFill 53 = .ok (.getfield 13, 3) := by decide +kernel
theorem dX7_canFill_56 : decode cX7_canFill 56 = .ok (.iconst 0, 1) := by decide +kernel
theorem dX7_canFill_57 : decode cX7_canFill 57 = .ok (.iaload, 1) := by decide +kernel
theorem dX7_canFill_58 : decode cX7_canFill 58 = .ok (.if_icmp .gt 20, 3) := by decide +kernel
theorem dX7_canFill_61 : decode cX7_canFill 61 = .ok (.aload_n 0, 1) := by decide +kernel
theorem dX7_canFill_62 : decode cX7_canFill 62 = .ok (.getfield 26, 3) := by decide +kernel
theorem dX7_canFill_65 : decode cX7_canFill 65 = .ok (.iload_n 1, 1) := by decide +kernel
theorem dX7_canFill_66 : decode cX7_canFill 66 = .ok (.iaload, 1) := by decide +kernel
theorem dX7_canFill_67 : decode cX7_canFill 67 = .ok (.aload_n 0, 1) := by decide +kernel
theorem dX7_canFill_68 : decode cX7_canFill 68 = .ok (.getfield 133, 3) := by decide +kernel
theorem dX7_canFill_71 : decode cX7_canFill 71 = .ok (.if_icmp .lt 7, 3) := by decide +kernel
theorem dX7_canFill_74 : decode cX7_canFill 74 = .ok (.iconst 1, 1) := by decide +kernel
theorem dX7_canFill_75 : decode cX7_canFill 75 = .ok (.goto 4, 3) := by decide +kernel
theorem dX7_canFill_78 : decode cX7_canFill 78 = .ok (.iconst 0, 1) := by decide +kernel
theorem dX7_canFill_79 : decode cX7_canFill 79 = .ok (.ireturn, 1) := by decide +kernel
theorem dX7_costOf_0 : decode cX7_costOf 0 = .ok (.aload_n 0, 1) := by decide +kernel
theorem dX7_costOf_1 : decode cX7_costOf 1 = .ok (.getfield 29, 3) := by decide +kernel
theorem dX7_costOf_4 : decode cX7_costOf 4 = .ok (.bipush 6, 2) := by decide +kernel
theorem dX7_costOf_6 : decode cX7_costOf 6 = .ok (.iload_n 1, 1) := by decide +kernel
theorem dX7_costOf_7 : decode cX7_costOf 7 = .ok (.imul, 1) := by decide +kernel
theorem dX7_costOf_8 : decode cX7_costOf 8 = .ok (.aload_n 0, 1) := by decide +kernel
theorem dX7_costOf_9 : decode cX7_costOf 9 = .ok (.getfield 54, 3) := by decide +kernel
theorem dX7_costOf_12 : decode cX7_costOf 12 = .ok (.iload_n 2, 1) := by decide +kernel
theorem dX7_costOf_13 : decode cX7_costOf 13 = .ok (.iaload, 1) := by decide +kernel
theorem dX7_costOf_14 : decode cX7_costOf 14 = .ok (.iadd, 1) := by decide +kernel
theorem dX7_costOf_15 : decode cX7_costOf 15 = .ok (.iaload, 1) := by decide +kernel
theorem dX7_costOf_16 : decode cX7_costOf 16 = .ok (.aload_n 0, 1) := by decide +kernel
theorem dX7_costOf_17 : decode cX7_costOf 17 = .ok (.getfield 20, 3) := by decide +kernel
theorem dX7_costOf_20 : decode cX7_costOf 20 = .ok (.iload_n 1, 1) := by decide +kernel
theorem dX7_costOf_21 : decode cX7_costOf 21 = .ok (.iaload, 1) := by decide +kernel
theorem dX7_costOf_22 : decode cX7_costOf 22 = .ok (.aload_n 0, 1) := by decide +kernel
theorem dX7_costOf_23 : decode cX7_costOf 23 = .ok (.getfield 60, 3) := by decide +kernel
theorem dX7_costOf_26 : decode cX7_costOf 26 = .ok (.iload_n 2, 1) := by decide +kernel
theorem dX7_costOf_27 : decode cX7_costOf 27 = .ok (.iaload, 1) := by decide +kernel
theorem dX7_costOf_28 : decode cX7_costOf 28 = .ok (.invokestatic 130, 3) := by decide +kernel
theorem dX7_costOf_31 : decode cX7_costOf 31 = .ok (.ifCond .eq 7, 3) := by decide +kernel
theorem dX7_costOf_34 : decode cX7_costOf 34 = .ok (.iconst 0, 1) := by decide +kernel
theorem dX7_costOf_35 : decode cX7_costOf 35 = .ok (.goto 9, 3) := by decide +kernel
theorem dX7_costOf_38 : decode cX7_costOf 38 = .ok (.aload_n 0, 1) := by decide +kernel
theorem dX7_costOf_39 : decode cX7_costOf 39 = .ok (.getfield 13, 3) := by decide +kernel
theorem dX7_costOf_42 : decode cX7_costOf 42 = .ok (.iconst 1, 1) := by decide +kernel
theorem dX7_costOf_43 : decode cX7_costOf 43 = .ok (.iaload, 1) := by decide +kernel
theorem dX7_costOf_44 : decode cX7_costOf 44 = .ok (.iadd, 1) := by decide +kernel
theorem dX7_costOf_45 : decode cX7_costOf 45 = .ok (.aload_n 0, 1) := by decide +kernel
theorem dX7_costOf_46 : decode cX7_costOf 46 = .ok (.getfield 13, 3) := by decide +kernel
theorem dX7_costOf_49 : decode cX7_costOf 49 = .ok (.iconst 2, 1) := by decide +kernel
theorem dX7_costOf_50 : decode cX7_costOf 50 = .ok (.iaload, 1) := by decide +kernel
theorem dX7_costOf_51 : decode cX7_costOf 51 = .ok (.aload_n 0, 1) := by decide +kernel
theorem dX7_costOf_52 : decode cX7_costOf 52 = .ok (.getfield 47, 3) := by decide +kernel
theorem dX7_costOf_55 : decode cX7_costOf 55 = .ok (.iload_n 1, 1) := by decide +kernel
theorem dX7_costOf_56 : decode cX7_costOf 56 = .ok (.iaload, 1) := by decide +kernel
theorem dX7_costOf_57 : decode cX7_costOf 57 = .ok (.imul, 1) := by decide +kernel
theorem dX7_costOf_58 : decode cX7_costOf 58 = .ok (.iadd, 1) := by decide +kernel
theorem dX7_costOf_59 : decode cX7_costOf 59 = .ok (.aload_n 0, 1) := by decide +kernel
theorem dX7_costOf_60 : decode cX7_costOf 60 = .ok (.getfield 32, 3) := by decide +kernel
theorem dX7_costOf_63 : decode cX7_costOf 63 = .ok (.iload_n 1, 1) := by decide +kernel
theorem dX7_costOf_64 : decode cX7_costOf 64 = .ok (.iaload, 1) := by decide +kernel
theorem dX7_costOf_65 : decode cX7_costOf 65 = .ok (.aload_n 0, 1) := by decide +kernel
theorem dX7_costOf_66 : decode cX7_costOf 66 = .ok (.getfield 54, 3) := by decide +kernel
theorem dX7_costOf_69 : decode cX7_costOf 69 = .ok (.iload_n 2, 1) := by decide +kernel
theorem dX7_costOf_70 : decode cX7_costOf 70 = .ok (.iaload, 1) := by decide +kernel
theorem dX7_costOf_71 : decode cX7_costOf 71 = .ok (.invokestatic 130, 3) := by decide +kernel
theorem dX7_costOf_74 : decode cX7_costOf 74 = .ok (.ifCond .eq 12, 3) := by decide +kernel
theorem dX7_costOf_77 : decode cX7_costOf 77 = .ok (.aload_n 0, 1) := by decide +kernel
theorem dX7_costOf_78 : decode cX7_costOf 78 = .ok (.getfield 13, 3) := by decide +kernel
theorem dX7_costOf_81 : decode cX7_costOf 81 = .ok (.iconst 3, 1) := by decide +kernel
theorem dX7_costOf_82 : decode cX7_costOf 82 = .ok (.iaload, 1) := by decide +kernel
theorem dX7_costOf_83 : decode cX7_costOf 83 = .ok (.goto 4, 3) := by decide +kernel
theorem dX7_costOf_86 : decode cX7_costOf 86 = .ok (.iconst 0, 1) := by decide +kernel
theorem dX7_costOf_87 : decode cX7_costOf 87 = .ok (.isub, 1) := by decide +kernel
theorem dX7_costOf_88 : decode cX7_costOf 88 = .ok (.istore_n 3, 1) := by decide +kernel
theorem dX7_costOf_89 : decode cX7_costOf 89 = .ok (.iload_n 3, 1) := by decide +kernel
theorem dX7_costOf_90 : decode cX7_costOf 90 = .ok (.ifCond .ge 7, 3) := by decide +kernel
theorem dX7_costOf_93 : decode cX7_costOf 93 = .ok (.iconst 0, 1) := by decide +kernel
theorem dX7_costOf_94 : decode cX7_costOf 94 = .ok (.goto 4, 3) := by decide +kernel
theorem dX7_costOf_97 : decode cX7_costOf 97 = .ok (.iload_n 3, 1) := by decide +kernel
theorem dX7_costOf_98 : decode cX7_costOf 98 = .ok (.ireturn, 1) := by decide +kernel
theorem dX7_can_0 : decode cX7_can 0 = .ok (.aload_n 0, 1) := by decide +kernel
theorem dX7_can_1 : decode cX7_can 1 = .ok (.iload_n 1, 1) := by decide +kernel
theorem dX7_can_2 : decode cX7_can 2 = .ok (.invokevirtual 126, 3) := by decide +kernel
theorem dX7_can_5 : decode cX7_can 5 = .ok (.ifCond .eq 11, 3) := by decide +kernel
theorem dX7_can_8 : decode cX7_can 8 = .ok (.aload_n 0, 1) := by decide +kernel
theorem dX7_can_9 : decode cX7_can 9 = .ok (.iload_n 2, 1) := by decide +kernel
theorem dX7_can_10 : decode cX7_can 10 = .ok (.invokevirtual 136, 3) := by decide +kernel
theorem dX7_can_13 : decode cX7_can 13 = .ok (.ifCond .ne 7, 3) := by decide +kernel
theorem dX7_can_16 : decode cX7_can 16 = .ok (.iconst (-1), 1) := by decide +kernel
theorem dX7_can_17 : decode cX7_can 17 = .ok (.goto 17, 3) := by decide +kernel
theorem dX7_can_20 : decode cX7_can 20 = .ok (.aload_n 0, 1) := by decide +kernel
theorem dX7_can_21 : decode cX7_can 21 = .ok (.iload_n 1, 1) := by decide +kernel
theorem dX7_can_22 : decode cX7_can 22 = .ok (.iload_n 2, 1) := by decide +kernel
theorem dX7_can_23 : decode cX7_can 23 = .ok (.invokevirtual 139, 3) := by decide +kernel
theorem dX7_can_26 : decode cX7_can 26 = .ok (.ifCond .eq 7, 3) := by decide +kernel
theorem dX7_can_29 : decode cX7_can 29 = .ok (.iconst 1, 1) := by decide +kernel
theorem dX7_can_30 : decode cX7_can 30 = .ok (.goto 4, 3) := by decide +kernel
theorem dX7_can_33 : decode cX7_can 33 = .ok (.iconst 0, 1) := by decide +kernel
theorem dX7_can_34 : decode cX7_can 34 = .ok (.ireturn, 1) := by decide +kernel
theorem dX7_cost_0 : decode cX7_cost 0 = .ok (.aload_n 0, 1) := by decide +kernel
theorem dX7_cost_1 : decode cX7_cost 1 = .ok (.iload_n 1, 1) := by decide +kernel
theorem dX7_cost_2 : decode cX7_cost 2 = .ok (.invokevirtual 126, 3) := by decide +kernel
theorem dX7_cost_5 : decode cX7_cost 5 = .ok (.ifCond .eq 29, 3) := by decide +kernel
theorem dX7_cost_8 : decode cX7_cost 8 = .ok (.aload_n 0, 1) := by decide +kernel
theorem dX7_cost_9 : decode cX7_cost 9 = .ok (.iload_n 2, 1) := by decide +kernel
theorem dX7_cost_10 : decode cX7_cost 10 = .ok (.invokevirtual 136, 3) := by decide +kernel
theorem dX7_cost_13 : decode cX7_cost 13 = .ok (.ifCond .eq 21, 3) := by decide +kernel
theorem dX7_cost_16 : decode cX7_cost 16 = .ok (.aload_n 0, 1) := by decide +kernel
theorem dX7_cost_17 : decode cX7_cost 17 = .ok (.iload_n 1, 1) := by decide +kernel
theorem dX7_cost_18 : decode cX7_cost 18 = .ok (.iload_n 2, 1) := by decide +kernel
theorem dX7_cost_19 : decode cX7_cost 19 = .ok (.invokevirtual 139, 3) := by decide +kernel
theorem dX7_cost_22 : decode cX7_cost 22 = .ok (.ifCond .eq 12, 3) := by decide +kernel
theorem dX7_cost_25 : decode cX7_cost 25 = .ok (.aload_n 0, 1) := by decide +kernel
theorem dX7_cost_26 : decode cX7_cost 26 = .ok (.iload_n 1, 1) := by decide +kernel
theorem dX7_cost_27 : decode cX7_cost 27 = .ok (.iload_n 2, 1) := by decide +kernel
theorem dX7_cost_28 : decode cX7_cost 28 = .ok (.invokevirtual 142, 3) := by decide +kernel
theorem dX7_cost_31 : decode cX7_cost 31 = .ok (.goto 4, 3) := by decide +kernel
theorem dX7_cost_34 : decode cX7_cost 34 = .ok (.iconst (-1), 1) := by decide +kernel
theorem dX7_cost_35 : decode cX7_cost 35 = .ok (.ireturn, 1) := by decide +kernel
theorem dX7_senderOf_0 : decode cX7_senderOf 0 = .ok (.iconst 0, 1) := by decide +kernel
theorem dX7_senderOf_1 : decode cX7_senderOf 1 = .ok (.istore_n 2, 1) := by decide +kernel
theorem dX7_senderOf_2 : decode cX7_senderOf 2 = .ok (.iload_n 2, 1) := by decide +kernel
theorem dX7_senderOf_3 : decode cX7_senderOf 3 = .ok (.aload_n 0, 1) := by decide +kernel
theorem dX7_senderOf_4 : decode cX7_senderOf 4 = .ok (.getfield 120, 3) := by decide +kernel
theorem dX7_senderOf_7 : decode cX7_senderOf 7 = .ok (.if_icmp .ge 31, 3) := by decide +kernel
theorem dX7_senderOf_10 : decode cX7_senderOf 10 = .ok (.aload_n 0, 1) := by decide +kernel
theorem dX7_senderOf_11 : decode cX7_senderOf 11 = .ok (.getfield 38, 3) := by decide +kernel
theorem dX7_senderOf_14 : decode cX7_senderOf 14 = .ok (.iload_n 2, 1) := by decide +kernel
theorem dX7_senderOf_15 : decode cX7_senderOf 15 = .ok (.iaload, 1) := by decide +kernel
theorem dX7_senderOf_16 : decode cX7_senderOf 16 = .ok (.iconst 1, 1) := by decide +kernel
theorem dX7_senderOf_17 : decode cX7_senderOf 17 = .ok (.if_icmp .ne 15, 3) := by decide +kernel
theorem dX7_senderOf_20 : decode cX7_senderOf 20 = .ok (.aload_n 0, 1) := by decide +kernel
theorem dX7_senderOf_21 : decode cX7_senderOf 21 = .ok (.getfield 41, 3) := by decide +kernel
theorem dX7_senderOf_24 : decode cX7_senderOf 24 = .ok (.iload_n 2, 1) := by decide +kernel
theorem dX7_senderOf_25 : decode cX7_senderOf 25 = .ok (.iaload, 1) := by decide +kernel
theorem dX7_senderOf_26 : decode cX7_senderOf 26 = .ok (.iload_n 1, 1) := by decide +kernel
theorem dX7_senderOf_27 : decode cX7_senderOf 27 = .ok (.if_icmp .ne 5, 3) := by decide +kernel
theorem dX7_senderOf_30 : decode cX7_senderOf 30 = .ok (.iload_n 2, 1) := by decide +kernel
theorem dX7_senderOf_31 : decode cX7_senderOf 31 = .ok (.ireturn, 1) := by decide +kernel
theorem dX7_senderOf_32 : decode cX7_senderOf 32 = .ok (.iinc 2 1, 3) := by decide +kernel
theorem dX7_senderOf_35 : decode cX7_senderOf 35 = .ok (.goto (-33), 3) := by decide +kernel
theorem dX7_senderOf_38 : decode cX7_senderOf 38 = .ok (.iconst (-1), 1) := by decide +kernel
theorem dX7_senderOf_39 : decode cX7_senderOf 39 = .ok (.ireturn, 1) := by decide +kernel
theorem dX7_goes_0 : decode cX7_goes 0 = .ok (.aload_n 0, 1) := by decide +kernel
theorem dX7_goes_1 : decode cX7_goes 1 = .ok (.getfield 38, 3) := by decide +kernel
theorem dX7_goes_4 : decode cX7_goes 4 = .ok (.iload_n 1, 1) := by decide +kernel
theorem dX7_goes_5 : decode cX7_goes 5 = .ok (.iaload, 1) := by decide +kernel
theorem dX7_goes_6 : decode cX7_goes 6 = .ok (.ifCond .ne 16, 3) := by decide +kernel
theorem dX7_goes_9 : decode cX7_goes 9 = .ok (.aload_n 0, 1) := by decide +kernel
theorem dX7_goes_10 : decode cX7_goes 10 = .ok (.iload_n 1, 1) := by decide +kernel
theorem dX7_goes_11 : decode cX7_goes 11 = .ok (.iload_n 2, 1) := by decide +kernel
theorem dX7_goes_12 : decode cX7_goes 12 = .ok (.invokevirtual 139, 3) := by decide +kernel
theorem dX7_goes_15 : decode cX7_goes 15 = .ok (.ifCond .eq 7, 3) := by decide +kernel
theorem dX7_goes_18 : decode cX7_goes 18 = .ok (.iconst 1, 1) := by decide +kernel
theorem dX7_goes_19 : decode cX7_goes 19 = .ok (.goto 4, 3) := by decide +kernel
theorem dX7_goes_22 : decode cX7_goes 22 = .ok (.iconst 0, 1) := by decide +kernel
theorem dX7_goes_23 : decode cX7_goes 23 = .ok (.ireturn, 1) := by decide +kernel
theorem dX7_worth_0 : decode cX7_worth 0 = .ok (.ldc 145, 2) := by decide +kernel
theorem dX7_worth_2 : decode cX7_worth 2 = .ok (.aload_n 0, 1) := by decide +kernel
theorem dX7_worth_3 : decode cX7_worth 3 = .ok (.iload_n 1, 1) := by decide +kernel
theorem dX7_worth_4 : decode cX7_worth 4 = .ok (.iload_n 2, 1) := by decide +kernel
theorem dX7_worth_5 : decode cX7_worth 5 = .ok (.invokevirtual 142, 3) := by decide +kernel
theorem dX7_worth_8 : decode cX7_worth 8 = .ok (.isub, 1) := by decide +kernel
theorem dX7_worth_9 : decode cX7_worth 9 = .ok (.aload_n 0, 1) := by decide +kernel
theorem dX7_worth_10 : decode cX7_worth 10 = .ok (.getfield 79, 3) := by decide +kernel
theorem dX7_worth_13 : decode cX7_worth 13 = .ok (.sipush 4096, 3) := by decide +kernel
theorem dX7_worth_16 : decode cX7_worth 16 = .ok (.iload_n 2, 1) := by decide +kernel
theorem dX7_worth_17 : decode cX7_worth 17 = .ok (.iconst 1, 1) := by decide +kernel
theorem dX7_worth_18 : decode cX7_worth 18 = .ok (.iadd, 1) := by decide +kernel
theorem dX7_worth_19 : decode cX7_worth 19 = .ok (.imul, 1) := by decide +kernel
theorem dX7_worth_20 : decode cX7_worth 20 = .ok (.iload_n 3, 1) := by decide +kernel
theorem dX7_worth_21 : decode cX7_worth 21 = .ok (.iconst 1, 1) := by decide +kernel
theorem dX7_worth_22 : decode cX7_worth 22 = .ok (.iload_n 1, 1) := by decide +kernel
theorem dX7_worth_23 : decode cX7_worth 23 = .ok (.ishl, 1) := by decide +kernel
theorem dX7_worth_24 : decode cX7_worth 24 = .ok (.ior, 1) := by decide +kernel
theorem dX7_worth_25 : decode cX7_worth 25 = .ok (.iadd, 1) := by decide +kernel
theorem dX7_worth_26 : decode cX7_worth 26 = .ok (.iaload, 1) := by decide +kernel
theorem dX7_worth_27 : decode cX7_worth 27 = .ok (.iadd, 1) := by decide +kernel
theorem dX7_worth_28 : decode cX7_worth 28 = .ok (.ireturn, 1) := by decide +kernel
theorem dX7_works_0 : decode cX7_works 0 = .ok (.aload_n 0, 1) := by decide +kernel
theorem dX7_works_1 : decode cX7_works 1 = .ok (.getfield 116, 3) := by decide +kernel
theorem dX7_works_4 : decode cX7_works 4 = .ok (.ifCond .eq 4, 3) := by decide +kernel
theorem dX7_works_7 : decode cX7_works 7 = .ok (.return_, 1) := by decide +kernel
theorem dX7_works_8 : decode cX7_works 8 = .ok (.aload_n 0, 1) := by decide +kernel
theorem dX7_works_9 : decode cX7_works 9 = .ok (.iconst 1, 1) := by decide +kernel
theorem dX7_works_10 : decode cX7_works 10 = .ok (.putfield 116, 3) := by decide +kernel
theorem dX7_works_13 : decode cX7_works 13 = .ok (.iconst 0, 1) := by decide +kernel
theorem dX7_works_14 : decode cX7_works 14 = .ok (.istore_n 1, 1) := by decide +kernel
theorem dX7_works_15 : decode cX7_works 15 = .ok (.iload_n 1, 1) := by decide +kernel
theorem dX7_works_16 : decode cX7_works 16 = .ok (.iconst 1, 1) := by decide +kernel
theorem dX7_works_17 : decode cX7_works 17 = .ok (.aload_n 0, 1) := by decide +kernel
theorem dX7_works_18 : decode cX7_works 18 = .ok (.getfield 120, 3) := by decide +kernel
theorem dX7_works_21 : decode cX7_works 21 = .ok (.ishl, 1) := by decide +kernel
theorem dX7_works_22 : decode cX7_works 22 = .ok (.if_icmp .ge 25, 3) := by decide +kernel
theorem dX7_works_25 : decode cX7_works 25 = .ok (.aload_n 0, 1) := by decide +kernel
theorem dX7_works_26 : decode cX7_works 26 = .ok (.getfield 79, 3) := by decide +kernel
theorem dX7_works_29 : decode cX7_works 29 = .ok (.sipush 4096, 3) := by decide +kernel
theorem dX7_works_32 : decode cX7_works 32 = .ok (.aload_n 0, 1) := by decide +kernel
theorem dX7_works_33 : decode cX7_works 33 = .ok (.getfield 123, 3) := by decide +kernel
theorem dX7_works_36 : decode cX7_works 36 = .ok (.imul, 1) := by decide +kernel
theorem dX7_works_37 : decode cX7_works 37 = .ok (.iload_n 1, 1) := by decide +kernel
theorem dX7_works_38 : decode cX7_works 38 = .ok (.iadd, 1) := by decide +kernel
theorem dX7_works_39 : decode cX7_works 39 = .ok (.iconst 0, 1) := by decide +kernel
theorem dX7_works_40 : decode cX7_works 40 = .ok (.iastore, 1) := by decide +kernel
theorem dX7_works_41 : decode cX7_works 41 = .ok (.iinc 1 1, 3) := by decide +kernel
theorem dX7_works_44 : decode cX7_works 44 = .ok (.goto (-29), 3) := by decide +kernel
theorem dX7_works_47 : decode cX7_works 47 = .ok (.aload_n 0, 1) := by decide +kernel
theorem dX7_works_48 : decode cX7_works 48 = .ok (.getfield 123, 3) := by decide +kernel
theorem dX7_works_51 : decode cX7_works 51 = .ok (.iconst 1, 1) := by decide +kernel
theorem dX7_works_52 : decode cX7_works 52 = .ok (.isub, 1) := by decide +kernel
theorem dX7_works_53 : decode cX7_works 53 = .ok (.istore_n 1, 1) := by decide +kernel
theorem dX7_works_54 : decode cX7_works 54 = .ok (.iload_n 1, 1) := by decide +kernel
theorem dX7_works_55 : decode cX7_works 55 = .ok (.ifCond .lt 142, 3) := by decide +kernel
theorem dX7_works_58 : decode cX7_works 58 = .ok (.aload_n 0, 1) := by decide +kernel
theorem dX7_works_59 : decode cX7_works 59 = .ok (.iload_n 1, 1) := by decide +kernel
theorem dX7_works_60 : decode cX7_works 60 = .ok (.invokevirtual 146, 3) := by decide +kernel
theorem dX7_works_63 : decode cX7_works 63 = .ok (.iconst (-1), 1) := by decide +kernel
theorem dX7_works_64 : decode cX7_works 64 = .ok (.if_icmp .ne 7, 3) := by decide +kernel
theorem dX7_works_67 : decode cX7_works 67 = .ok (.iconst 1, 1) := by decide +kernel
theorem dX7_works_68 : decode cX7_works 68 = .ok (.goto 4, 3) := by decide +kernel
theorem dX7_works_71 : decode cX7_works 71 = .ok (.iconst 0, 1) := by decide +kernel
theorem dX7_works_72 : decode cX7_works 72 = .ok (.istore_n 2, 1) := by decide +kernel
theorem dX7_works_73 : decode cX7_works 73 = .ok (.iconst 0, 1) := by decide +kernel
theorem dX7_works_74 : decode cX7_works 74 = .ok (.istore_n 3, 1) := by decide +kernel
theorem dX7_works_75 : decode cX7_works 75 = .ok (.iload_n 3, 1) := by decide +kernel
theorem dX7_works_76 : decode cX7_works 76 = .ok (.iconst 1, 1) := by decide +kernel
theorem dX7_works_77 : decode cX7_works 77 = .ok (.aload_n 0, 1) := by decide +kernel
theorem dX7_works_78 : decode cX7_works 78 = .ok (.getfield 120, 3) := by decide +kernel
theorem dX7_works_81 : decode cX7_works 81 = .ok (.ishl, 1) := by decide +kernel
theorem dX7_works_82 : decode cX7_works 82 = .ok (.if_icmp .ge 109, 3) := by decide +kernel
theorem dX7_works_85 : decode cX7_works 85 = .ok (.aload_n 0, 1) := by decide +kernel
theorem dX7_works_86 : decode cX7_works 86 = .ok (.getfield 79, 3) := by decide +kernel
theorem dX7_works_89 : decode cX7_works 89 = .ok (.sipush 4096, 3) := by decide +kernel
theorem dX7_works_92 : decode cX7_works 92 = .ok (.iload_n 1, 1) := by decide +kernel
theorem dX7_works_93 : decode cX7_works 93 = .ok (.iconst 1, 1) := by decide +kernel
theorem dX7_works_94 : decode cX7_works 94 = .ok (.iadd, 1) := by decide +kernel
theorem dX7_works_95 : decode cX7_works 95 = .ok (.imul, 1) := by decide +kernel
theorem dX7_works_96 : decode cX7_works 96 = .ok (.iload_n 3, 1) := by decide +kernel
theorem dX7_works_97 : decode cX7_works 97 = .ok (.iadd, 1) := by decide +kernel
theorem dX7_works_98 : decode cX7_works 98 = .ok (.iaload, 1) := by decide +kernel
theorem dX7_works_99 : decode cX7_works 99 = .ok (.istore 4, 2) := by decide +kernel
theorem dX7_works_101 : decode cX7_works 101 = .ok (.iconst 0, 1) := by decide +kernel
theorem dX7_works_102 : decode cX7_works 102 = .ok (.istore 5, 2) := by decide +kernel
theorem dX7_works_104 : decode cX7_works 104 = .ok (.iload 5, 2) := by decide +kernel
theorem dX7_works_106 : decode cX7_works 106 = .ok (.aload_n 0, 1) := by decide +kernel
theorem dX7_works_107 : decode cX7_works 107 = .ok (.getfield 120, 3) := by decide +kernel
theorem dX7_works_110 : decode cX7_works 110 = .ok (.if_icmp .ge 61, 3) := by decide +kernel
theorem dX7_works_113 : decode cX7_works 113 = .ok (.iload_n 2, 1) := by decide +kernel
theorem dX7_works_114 : decode cX7_works 114 = .ok (.ifCond .eq 57, 3) := by decide +kernel
theorem dX7_works_117 : decode cX7_works 117 = .ok (.iload_n 3, 1) := by decide +kernel
theorem dX7_works_118 : decode cX7_works 118 = .ok (.iload 5, 2) := by decide +kernel
theorem dX7_works_120 : decode cX7_works 120 = .ok (.invokestatic 130, 3) := by decide +kernel
theorem dX7_works_123 : decode cX7_works 123 = .ok (.ifCond .ne 42, 3) := by decide +kernel
theorem dX7_works_126 : decode cX7_works 126 = .ok (.aload_n 0, 1) := by decide +kernel
theorem dX7_works_127 : decode cX7_works 127 = .ok (.iload 5, 2) := by decide +kernel
theorem dX7_works_129 : decode cX7_works 129 = .ok (.iload_n 1, 1) := by decide +kernel
theorem dX7_works_130 : decode cX7_works 130 = .ok (.invokevirtual 149, 3) := by decide +kernel
theorem dX7_works_133 : decode cX7_works 133 = .ok (.ifCond .ne 6, 3) := by decide +kernel
theorem dX7_works_136 : decode cX7_works 136 = .ok (.goto 29, 3) := by decide +kernel
theorem dX7_works_139 : decode cX7_works 139 = .ok (.aload_n 0, 1) := by decide +kernel
theorem dX7_works_140 : decode cX7_works 140 = .ok (.iload 5, 2) := by decide +kernel
theorem dX7_works_142 : decode cX7_works 142 = .ok (.iload_n 1, 1) := by decide +kernel
theorem dX7_works_143 : decode cX7_works 143 = .ok (.iload_n 3, 1) := by decide +kernel
theorem dX7_works_144 : decode cX7_works 144 = .ok (.invokevirtual 152, 3) := by decide +kernel
theorem dX7_works_147 : decode cX7_works 147 = .ok (.istore 6, 2) := by decide +kernel
theorem dX7_works_149 : decode cX7_works 149 = .ok (.iload 6, 2) := by decide +kernel
theorem dX7_works_151 : decode cX7_works 151 = .ok (.iload 4, 2) := by decide +kernel
theorem dX7_works_153 : decode cX7_works 153 = .ok (.if_icmp .le 8, 3) := by decide +kernel
theorem dX7_works_156 : decode cX7_works 156 = .ok (.iload 6, 2) := by decide +kernel
theorem dX7_works_158 : decode cX7_works 158 = .ok (.goto 5, 3) := by decide +kernel
theorem dX7_works_161 : decode cX7_works 161 = .ok (.iload 4, 2) := by decide +kernel
theorem dX7_works_163 : decode cX7_works 163 = .ok (.istore 4, 2) := by decide +kernel
theorem dX7_works_165 : decode cX7_works 165 = .ok (.iinc 5 1, 3) := by decide +kernel
theorem dX7_works_168 : decode cX7_works 168 = .ok (.goto (-64), 3) := by decide +kernel
theorem dX7_works_171 : decode cX7_works 171 = .ok (.aload_n 0, 1) := by decide +kernel
theorem dX7_works_172 : decode cX7_works 172 = .ok (.getfield 79, 3) := by decide +kernel
theorem dX7_works_175 : decode cX7_works 175 = .ok (.sipush 4096, 3) := by decide +kernel
theorem dX7_works_178 : decode cX7_works 178 = .ok (.iload_n 1, 1) := by decide +kernel
theorem dX7_works_179 : decode cX7_works 179 = .ok (.imul, 1) := by decide +kernel
theorem dX7_works_180 : decode cX7_works 180 = .ok (.iload_n 3, 1) := by decide +kernel
theorem dX7_works_181 : decode cX7_works 181 = .ok (.iadd, 1) := by decide +kernel
theorem dX7_works_182 : decode cX7_works 182 = .ok (.iload 4, 2) := by decide +kernel
theorem dX7_works_184 : decode cX7_works 184 = .ok (.iastore, 1) := by decide +kernel
theorem dX7_works_185 : decode cX7_works 185 = .ok (.iinc 3 1, 3) := by decide +kernel
theorem dX7_works_188 : decode cX7_works 188 = .ok (.goto (-113), 3) := by decide +kernel
theorem dX7_works_191 : decode cX7_works 191 = .ok (.iinc 1 (-1), 3) := by decide +kernel
theorem dX7_works_194 : decode cX7_works 194 = .ok (.goto (-140), 3) := by decide +kernel
theorem dX7_works_197 : decode cX7_works 197 = .ok (.aload_n 0, 1) := by decide +kernel
theorem dX7_works_198 : decode cX7_works 198 = .ok (.iconst 0, 1) := by decide +kernel
theorem dX7_works_199 : decode cX7_works 199 = .ok (.putfield 156, 3) := by decide +kernel
theorem dX7_works_202 : decode cX7_works 202 = .ok (.aload_n 0, 1) := by decide +kernel
theorem dX7_works_203 : decode cX7_works 203 = .ok (.iconst 0, 1) := by decide +kernel
theorem dX7_works_204 : decode cX7_works 204 = .ok (.putfield 159, 3) := by decide +kernel
theorem dX7_works_207 : decode cX7_works 207 = .ok (.iconst 0, 1) := by decide +kernel
theorem dX7_works_208 : decode cX7_works 208 = .ok (.istore_n 1, 1) := by decide +kernel
theorem dX7_works_209 : decode cX7_works 209 = .ok (.iconst 0, 1) := by decide +kernel
theorem dX7_works_210 : decode cX7_works 210 = .ok (.istore_n 2, 1) := by decide +kernel
theorem dX7_works_211 : decode cX7_works 211 = .ok (.iload_n 2, 1) := by decide +kernel
theorem dX7_works_212 : decode cX7_works 212 = .ok (.aload_n 0, 1) := by decide +kernel
theorem dX7_works_213 : decode cX7_works 213 = .ok (.getfield 123, 3) := by decide +kernel
theorem dX7_works_216 : decode cX7_works 216 = .ok (.if_icmp .ge 167, 3) := by decide +kernel
theorem dX7_works_219 : decode cX7_works 219 = .ok (.aload_n 0, 1) := by decide +kernel
theorem dX7_works_220 : decode cX7_works 220 = .ok (.getfield 82, 3) := by decide +kernel
theorem dX7_works_223 : decode cX7_works 223 = .ok (.iload_n 2, 1) := by decide +kernel
theorem dX7_works_224 : decode cX7_works 224 = .ok (.iconst (-1), 1) := by decide +kernel
theorem dX7_works_225 : decode cX7_works 225 = .ok (.iastore, 1) := by decide +kernel
theorem dX7_works_226 : decode cX7_works 226 = .ok (.aload_n 0, 1) := by decide +kernel
theorem dX7_works_227 : decode cX7_works 227 = .ok (.iload_n 2, 1) := by decide +kernel
theorem dX7_works_228 : decode cX7_works 228 = .ok (.invokevirtual 146, 3) := by decide +kernel
theorem dX7_works_231 : decode cX7_works 231 = .ok (.iconst (-1), 1) := by decide +kernel
theorem dX7_works_232 : decode cX7_works 232 = .ok (.if_icmp .ne 7, 3) := by decide +kernel
theorem dX7_works_235 : decode cX7_works 235 = .ok (.iconst 1, 1) := by decide +kernel
theorem dX7_works_236 : decode cX7_works 236 = .ok (.goto 4, 3) := by decide +kernel
theorem dX7_works_239 : decode cX7_works 239 = .ok (.iconst 0, 1) := by decide +kernel
theorem dX7_works_240 : decode cX7_works 240 = .ok (.istore_n 3, 1) := by decide +kernel
theorem dX7_works_241 : decode cX7_works 241 = .ok (.iconst 0, 1) := by decide +kernel
theorem dX7_works_242 : decode cX7_works 242 = .ok (.istore 4, 2) := by decide +kernel
theorem dX7_works_244 : decode cX7_works 244 = .ok (.iload 4, 2) := by decide +kernel
theorem dX7_works_246 : decode cX7_works 246 = .ok (.aload_n 0, 1) := by decide +kernel
theorem dX7_works_247 : decode cX7_works 247 = .ok (.getfield 120, 3) := by decide +kernel
theorem dX7_works_250 : decode cX7_works 250 = .ok (.if_icmp .ge 73, 3) := by decide +kernel
theorem dX7_works_253 : decode cX7_works 253 = .ok (.iload_n 3, 1) := by decide +kernel
theorem dX7_works_254 : decode cX7_works 254 = .ok (.ifCond .eq 69, 3) := by decide +kernel
theorem dX7_works_257 : decode cX7_works 257 = .ok (.aload_n 0, 1) := by decide +kernel
theorem dX7_works_258 : decode cX7_works 258 = .ok (.getfield 82, 3) := by decide +kernel
theorem dX7_works_261 : decode cX7_works 261 = .ok (.iload_n 2, 1) := by decide +kernel
theorem dX7_works_262 : decode cX7_works 262 = .ok (.iaload, 1) := by decide +kernel
theorem dX7_works_263 : decode cX7_works 263 = .ok (.iconst (-1), 1) := by decide +kernel
theorem dX7_works_264 : decode cX7_works 264 = .ok (.if_icmp .ne 59, 3) := by decide +kernel
theorem dX7_works_267 : decode cX7_works 267 = .ok (.iload_n 1, 1) := by decide +kernel
theorem dX7_works_268 : decode cX7_works 268 = .ok (.iload 4, 2) := by decide +kernel
theorem dX7_works_270 : decode cX7_works 270 = .ok (.invokestatic 130, 3) := by decide +kernel
theorem dX7_works_273 : decode cX7_works 273 = .ok (.ifCond .ne 44, 3) := by decide +kernel
theorem dX7_works_276 : decode cX7_works 276 = .ok (.aload_n 0, 1) := by decide +kernel
theorem dX7_works_277 : decode cX7_works 277 = .ok (.iload 4, 2) := by decide +kernel
theorem dX7_works_279 : decode cX7_works 279 = .ok (.iload_n 2, 1) := by decide +kernel
theorem dX7_works_280 : decode cX7_works 280 = .ok (.invokevirtual 149, 3) := by decide +kernel
theorem dX7_works_283 : decode cX7_works 283 = .ok (.ifCond .eq 34, 3) := by decide +kernel
theorem dX7_works_286 : decode cX7_works 286 = .ok (.aload_n 0, 1) := by decide +kernel
theorem dX7_works_287 : decode cX7_works 287 = .ok (.iload 4, 2) := by decide +kernel
theorem dX7_works_289 : decode cX7_works 289 = .ok (.iload_n 2, 1) := by decide +kernel
theorem dX7_works_290 : decode cX7_works 290 = .ok (.iload_n 1, 1) := by decide +kernel
theorem dX7_works_291 : decode cX7_works 291 = .ok (.invokevirtual 152, 3) := by decide +kernel
theorem dX7_works_294 : decode cX7_works 294 = .ok (.aload_n 0, 1) := by decide +kernel
theorem dX7_works_295 : decode cX7_works 295 = .ok (.getfield 79, 3) := by decide +kernel
theorem dX7_works_298 : decode cX7_works 298 = .ok (.sipush 4096, 3) := by decide +kernel
theorem dX7_works_301 : decode cX7_works 301 = .ok (.iload_n 2, 1) := by decide +kernel
theorem dX7_works_302 : decode cX7_works 302 = .ok (.imul, 1) := by decide +kernel
theorem dX7_works_303 : decode cX7_works 303 = .ok (.iload_n 1, 1) := by decide +kernel
theorem dX7_works_304 : decode cX7_works 304 = .ok (.iadd, 1) := by decide +kernel
theorem dX7_works_305 : decode cX7_works 305 = .ok (.iaload, 1) := by decide +kernel
theorem dX7_works_306 : decode cX7_works 306 = .ok (.if_icmp .ne 11, 3) := by decide +kernel
theorem dX7_works_309 : decode cX7_works 309 = .ok (.aload_n 0, 1) := by decide +kernel
theorem dX7_works_310 : decode cX7_works 310 = .ok (.getfield 82, 3) := by decide +kernel
theorem dX7_works_313 : decode cX7_works 313 = .ok (.iload_n 2, 1) := by decide +kernel
theorem dX7_works_314 : decode cX7_works 314 = .ok (.iload 4, 2) := by decide +kernel
theorem dX7_works_316 : decode cX7_works 316 = .ok (.iastore, 1) := by decide +kernel
theorem dX7_works_317 : decode cX7_works 317 = .ok (.iinc 4 1, 3) := by decide +kernel
theorem dX7_works_320 : decode cX7_works 320 = .ok (.goto (-76), 3) := by decide +kernel
theorem dX7_works_323 : decode cX7_works 323 = .ok (.aload_n 0, 1) := by decide +kernel
theorem dX7_works_324 : decode cX7_works 324 = .ok (.getfield 82, 3) := by decide +kernel
theorem dX7_works_327 : decode cX7_works 327 = .ok (.iload_n 2, 1) := by decide +kernel
theorem dX7_works_328 : decode cX7_works 328 = .ok (.iaload, 1) := by decide +kernel
theorem dX7_works_329 : decode cX7_works 329 = .ok (.iconst (-1), 1) := by decide +kernel
theorem dX7_works_330 : decode cX7_works 330 = .ok (.if_icmp .ne 6, 3) := by decide +kernel
theorem dX7_works_333 : decode cX7_works 333 = .ok (.goto 44, 3) := by decide +kernel
theorem dX7_works_336 : decode cX7_works 336 = .ok (.iload_n 1, 1) := by decide +kernel
theorem dX7_works_337 : decode cX7_works 337 = .ok (.iconst 1, 1) := by decide +kernel
theorem dX7_works_338 : decode cX7_works 338 = .ok (.aload_n 0, 1) := by decide +kernel
theorem dX7_works_339 : decode cX7_works 339 = .ok (.getfield 82, 3) := by decide +kernel
theorem dX7_works_342 : decode cX7_works 342 = .ok (.iload_n 2, 1) := by decide +kernel
theorem dX7_works_343 : decode cX7_works 343 = .ok (.iaload, 1) := by decide +kernel
theorem dX7_works_344 : decode cX7_works 344 = .ok (.ishl, 1) := by decide +kernel
theorem dX7_works_345 : decode cX7_works 345 = .ok (.ior, 1) := by decide +kernel
theorem dX7_works_346 : decode cX7_works 346 = .ok (.istore_n 1, 1) := by decide +kernel
theorem dX7_works_347 : decode cX7_works 347 = .ok (.aload_n 0, 1) := by decide +kernel
theorem dX7_works_348 : decode cX7_works 348 = .ok (.dup, 1) := by decide +kernel
theorem dX7_works_349 : decode cX7_works 349 = .ok (.getfield 156, 3) := by decide +kernel
theorem dX7_works_352 : decode cX7_works 352 = .ok (.iconst 1, 1) := by decide +kernel
theorem dX7_works_353 : decode cX7_works 353 = .ok (.iadd, 1) := by decide +kernel
theorem dX7_works_354 : decode cX7_works 354 = .ok (.putfield 156, 3) := by decide +kernel
theorem dX7_works_357 : decode cX7_works 357 = .ok (.aload_n 0, 1) := by decide +kernel
theorem dX7_works_358 : decode cX7_works 358 = .ok (.dup, 1) := by decide +kernel
theorem dX7_works_359 : decode cX7_works 359 = .ok (.getfield 159, 3) := by decide +kernel
theorem dX7_works_362 : decode cX7_works 362 = .ok (.aload_n 0, 1) := by decide +kernel
theorem dX7_works_363 : decode cX7_works 363 = .ok (.aload_n 0, 1) := by decide +kernel
theorem dX7_works_364 : decode cX7_works 364 = .ok (.getfield 82, 3) := by decide +kernel
theorem dX7_works_367 : decode cX7_works 367 = .ok (.iload_n 2, 1) := by decide +kernel
theorem dX7_works_368 : decode cX7_works 368 = .ok (.iaload, 1) := by decide +kernel
theorem dX7_works_369 : decode cX7_works 369 = .ok (.iload_n 2, 1) := by decide +kernel
theorem dX7_works_370 : decode cX7_works 370 = .ok (.invokevirtual 142, 3) := by decide +kernel
theorem dX7_works_373 : decode cX7_works 373 = .ok (.iadd, 1) := by decide +kernel
theorem dX7_works_374 : decode cX7_works 374 = .ok (.putfield 159, 3) := by decide +kernel
theorem dX7_works_377 : decode cX7_works 377 = .ok (.iinc 2 1, 3) := by decide +kernel
theorem dX7_works_380 : decode cX7_works 380 = .ok (.goto (-169), 3) := by decide +kernel
theorem dX7_works_383 : decode cX7_works 383 = .ok (.return_, 1) := by decide +kernel
theorem dX7_match_0 : decode cX7_match 0 = .ok (.aload_n 0, 1) := by decide +kernel
theorem dX7_match_1 : decode cX7_match 1 = .ok (.invokevirtual 162, 3) := by decide +kernel
theorem dX7_match_4 : decode cX7_match 4 = .ok (.aload_n 0, 1) := by decide +kernel
theorem dX7_match_5 : decode cX7_match 5 = .ok (.getfield 156, 3) := by decide +kernel
theorem dX7_match_8 : decode cX7_match 8 = .ok (.ireturn, 1) := by decide +kernel
theorem dX7_costs_0 : decode cX7_costs 0 = .ok (.aload_n 0, 1) := by decide +kernel
theorem dX7_costs_1 : decode cX7_costs 1 = .ok (.invokevirtual 162, 3) := by decide +kernel
theorem dX7_costs_4 : decode cX7_costs 4 = .ok (.aload_n 0, 1) := by decide +kernel
theorem dX7_costs_5 : decode cX7_costs 5 = .ok (.getfield 159, 3) := by decide +kernel
theorem dX7_costs_8 : decode cX7_costs 8 = .ok (.ireturn, 1) := by decide +kernel
theorem dX7_who_0 : decode cX7_who 0 = .ok (.aload_n 0, 1) := by decide +kernel
theorem dX7_who_1 : decode cX7_who 1 = .ok (.iload_n 1, 1) := by decide +kernel
theorem dX7_who_2 : decode cX7_who 2 = .ok (.invokevirtual 136, 3) := by decide +kernel
theorem dX7_who_5 : decode cX7_who 5 = .ok (.ifCond .ne 5, 3) := by decide +kernel
theorem dX7_who_8 : decode cX7_who 8 = .ok (.iconst (-1), 1) := by decide +kernel
theorem dX7_who_9 : decode cX7_who 9 = .ok (.ireturn, 1) := by decide +kernel
theorem dX7_who_10 : decode cX7_who 10 = .ok (.aload_n 0, 1) := by decide +kernel
theorem dX7_who_11 : decode cX7_who 11 = .ok (.invokevirtual 162, 3) := by decide +kernel
theorem dX7_who_14 : decode cX7_who 14 = .ok (.aload_n 0, 1) := by decide +kernel
theorem dX7_who_15 : decode cX7_who 15 = .ok (.iload_n 1, 1) := by decide +kernel
theorem dX7_who_16 : decode cX7_who 16 = .ok (.invokevirtual 146, 3) := by decide +kernel
theorem dX7_who_19 : decode cX7_who 19 = .ok (.istore_n 2, 1) := by decide +kernel
theorem dX7_who_20 : decode cX7_who 20 = .ok (.iload_n 2, 1) := by decide +kernel
theorem dX7_who_21 : decode cX7_who 21 = .ok (.iconst (-1), 1) := by decide +kernel
theorem dX7_who_22 : decode cX7_who 22 = .ok (.if_icmp .ne 12, 3) := by decide +kernel
theorem dX7_who_25 : decode cX7_who 25 = .ok (.aload_n 0, 1) := by decide +kernel
theorem dX7_who_26 : decode cX7_who 26 = .ok (.getfield 82, 3) := by decide +kernel
theorem dX7_who_29 : decode cX7_who 29 = .ok (.iload_n 1, 1) := by decide +kernel
theorem dX7_who_30 : decode cX7_who 30 = .ok (.iaload, 1) := by decide +kernel
theorem dX7_who_31 : decode cX7_who 31 = .ok (.goto 4, 3) := by decide +kernel
theorem dX7_who_34 : decode cX7_who 34 = .ok (.iload_n 2, 1) := by decide +kernel
theorem dX7_who_35 : decode cX7_who 35 = .ok (.ireturn, 1) := by decide +kernel
theorem dX7_next_0 : decode cX7_next 0 = .ok (.aload_n 0, 1) := by decide +kernel
theorem dX7_next_1 : decode cX7_next 1 = .ok (.invokevirtual 162, 3) := by decide +kernel
theorem dX7_next_4 : decode cX7_next 4 = .ok (.iconst (-1), 1) := by decide +kernel
theorem dX7_next_5 : decode cX7_next 5 = .ok (.istore_n 1, 1) := by decide +kernel
theorem dX7_next_6 : decode cX7_next 6 = .ok (.iconst 0, 1) := by decide +kernel
theorem dX7_next_7 : decode cX7_next 7 = .ok (.istore_n 2, 1) := by decide +kernel
theorem dX7_next_8 : decode cX7_next 8 = .ok (.iload_n 2, 1) := by decide +kernel
theorem dX7_next_9 : decode cX7_next 9 = .ok (.aload_n 0, 1) := by decide +kernel
theorem dX7_next_10 : decode cX7_next 10 = .ok (.getfield 123, 3) := by decide +kernel
theorem dX7_next_13 : decode cX7_next 13 = .ok (.if_icmp .ge 94, 3) := by decide +kernel
theorem dX7_next_16 : decode cX7_next 16 = .ok (.aload_n 0, 1) := by decide +kernel
theorem dX7_next_17 : decode cX7_next 17 = .ok (.getfield 82, 3) := by decide +kernel
theorem dX7_next_20 : decode cX7_next 20 = .ok (.iload_n 2, 1) := by decide +kernel
theorem dX7_next_21 : decode cX7_next 21 = .ok (.iaload, 1) := by decide +kernel
theorem dX7_next_22 : decode cX7_next 22 = .ok (.iconst (-1), 1) := by decide +kernel
theorem dX7_next_23 : decode cX7_next 23 = .ok (.if_icmp .ne 6, 3) := by decide +kernel
theorem dX7_next_26 : decode cX7_next 26 = .ok (.goto 75, 3) := by decide +kernel
theorem dX7_next_29 : decode cX7_next 29 = .ok (.iload_n 1, 1) := by decide +kernel
theorem dX7_next_30 : decode cX7_next 30 = .ok (.iconst (-1), 1) := by decide +kernel
theorem dX7_next_31 : decode cX7_next 31 = .ok (.if_icmp .eq 68, 3) := by decide +kernel
theorem dX7_next_34 : decode cX7_next 34 = .ok (.aload_n 0, 1) := by decide +kernel
theorem dX7_next_35 : decode cX7_next 35 = .ok (.getfield 44, 3) := by decide +kernel
theorem dX7_next_38 : decode cX7_next 38 = .ok (.aload_n 0, 1) := by decide +kernel
theorem dX7_next_39 : decode cX7_next 39 = .ok (.getfield 82, 3) := by decide +kernel
theorem dX7_next_42 : decode cX7_next 42 = .ok (.iload_n 2, 1) := by decide +kernel
theorem dX7_next_43 : decode cX7_next 43 = .ok (.iaload, 1) := by decide +kernel
theorem dX7_next_44 : decode cX7_next 44 = .ok (.iaload, 1) := by decide +kernel
theorem dX7_next_45 : decode cX7_next 45 = .ok (.aload_n 0, 1) := by decide +kernel
theorem dX7_next_46 : decode cX7_next 46 = .ok (.getfield 44, 3) := by decide +kernel
theorem dX7_next_49 : decode cX7_next 49 = .ok (.aload_n 0, 1) := by decide +kernel
theorem dX7_next_50 : decode cX7_next 50 = .ok (.getfield 82, 3) := by decide +kernel
theorem dX7_next_53 : decode cX7_next 53 = .ok (.iload_n 1, 1) := by decide +kernel
theorem dX7_next_54 : decode cX7_next 54 = .ok (.iaload, 1) := by decide +kernel
theorem dX7_next_55 : decode cX7_next 55 = .ok (.iaload, 1) := by decide +kernel
theorem dX7_next_56 : decode cX7_next 56 = .ok (.if_icmp .lt 43, 3) := by decide +kernel
theorem dX7_next_59 : decode cX7_next 59 = .ok (.aload_n 0, 1) := by decide +kernel
theorem dX7_next_60 : decode cX7_next 60 = .ok (.getfield 44, 3) := by decide +kernel
theorem dX7_next_63 : decode cX7_next 63 = .ok (.aload_n 0, 1) := by decide +kernel
theorem dX7_next_64 : decode cX7_next 64 = .ok (.getfield 82, 3) := by decide +kernel
theorem dX7_next_67 : decode cX7_next 67 = .ok (.iload_n 2, 1) := by decide +kernel
theorem dX7_next_68 : decode cX7_next 68 = .ok (.iaload, 1) := by decide +kernel
theorem dX7_next_69 : decode cX7_next 69 = .ok (.iaload, 1) := by decide +kernel
theorem dX7_next_70 : decode cX7_next 70 = .ok (.aload_n 0, 1) := by decide +kernel
theorem dX7_next_71 : decode cX7_next 71 = .ok (.getfield 44, 3) := by decide +kernel
theorem dX7_next_74 : decode cX7_next 74 = .ok (.aload_n 0, 1) := by decide +kernel
theorem dX7_next_75 : decode cX7_next 75 = .ok (.getfield 82, 3) := by decide +kernel
theorem dX7_next_78 : decode cX7_next 78 = .ok (.iload_n 1, 1) := by decide +kernel
theorem dX7_next_79 : decode cX7_next 79 = .ok (.iaload, 1) := by decide +kernel
theorem dX7_next_80 : decode cX7_next 80 = .ok (.iaload, 1) := by decide +kernel
theorem dX7_next_81 : decode cX7_next 81 = .ok (.if_icmp .ne 20, 3) := by decide +kernel
theorem dX7_next_84 : decode cX7_next 84 = .ok (.aload_n 0, 1) := by decide +kernel
theorem dX7_next_85 : decode cX7_next 85 = .ok (.getfield 66, 3) := by decide +kernel
theorem dX7_next_88 : decode cX7_next 88 = .ok (.iload_n 2, 1) := by decide +kernel
theorem dX7_next_89 : decode cX7_next 89 = .ok (.iaload, 1) := by decide +kernel
theorem dX7_next_90 : decode cX7_next 90 = .ok (.aload_n 0, 1) := by decide +kernel
theorem dX7_next_91 : decode cX7_next 91 = .ok (.getfield 66, 3) := by decide +kernel
theorem dX7_next_94 : decode cX7_next 94 = .ok (.iload_n 1, 1) := by decide +kernel
theorem dX7_next_95 : decode cX7_next 95 = .ok (.iaload, 1) := by decide +kernel
theorem dX7_next_96 : decode cX7_next 96 = .ok (.if_icmp .le 5, 3) := by decide +kernel
theorem dX7_next_99 : decode cX7_next 99 = .ok (.iload_n 2, 1) := by decide +kernel
theorem dX7_next_100 : decode cX7_next 100 = .ok (.istore_n 1, 1) := by decide +kernel
theorem dX7_next_101 : decode cX7_next 101 = .ok (.iinc 2 1, 3) := by decide +kernel
theorem dX7_next_104 : decode cX7_next 104 = .ok (.goto (-96), 3) := by decide +kernel
theorem dX7_next_107 : decode cX7_next 107 = .ok (.iload_n 1, 1) := by decide +kernel
theorem dX7_next_108 : decode cX7_next 108 = .ok (.iconst (-1), 1) := by decide +kernel
theorem dX7_next_109 : decode cX7_next 109 = .ok (.if_icmp .ne 7, 3) := by decide +kernel
theorem dX7_next_112 : decode cX7_next 112 = .ok (.iconst (-1), 1) := by decide +kernel
theorem dX7_next_113 : decode cX7_next 113 = .ok (.goto 9, 3) := by decide +kernel
theorem dX7_next_116 : decode cX7_next 116 = .ok (.aload_n 0, 1) := by decide +kernel
theorem dX7_next_117 : decode cX7_next 117 = .ok (.getfield 82, 3) := by decide +kernel
theorem dX7_next_120 : decode cX7_next 120 = .ok (.iload_n 1, 1) := by decide +kernel
theorem dX7_next_121 : decode cX7_next 121 = .ok (.iaload, 1) := by decide +kernel
theorem dX7_next_122 : decode cX7_next 122 = .ok (.ireturn, 1) := by decide +kernel
theorem dX7_answer_0 : decode cX7_answer 0 = .ok (.aload_n 0, 1) := by decide +kernel
theorem dX7_answer_1 : decode cX7_answer 1 = .ok (.iload_n 1, 1) := by decide +kernel
theorem dX7_answer_2 : decode cX7_answer 2 = .ok (.invokevirtual 126, 3) := by decide +kernel
theorem dX7_answer_5 : decode cX7_answer 5 = .ok (.ifCond .eq 12, 3) := by decide +kernel
theorem dX7_answer_8 : decode cX7_answer 8 = .ok (.iload_n 2, 1) := by decide +kernel
theorem dX7_answer_9 : decode cX7_answer 9 = .ok (.iconst 0, 1) := by decide +kernel
theorem dX7_answer_10 : decode cX7_answer 10 = .ok (.iconst 2, 1) := by decide +kernel
theorem dX7_answer_11 : decode cX7_answer 11 = .ok (.invokestatic 97, 3) := by decide +kernel
theorem dX7_answer_14 : decode cX7_answer 14 = .ok (.ifCond .ne 5, 3) := by decide +kernel
theorem dX7_answer_17 : decode cX7_answer 17 = .ok (.iconst 0, 1) := by decide +kernel
theorem dX7_answer_18 : decode cX7_answer 18 = .ok (.ireturn, 1) := by decide +kernel
theorem dX7_answer_19 : decode cX7_answer 19 = .ok (.aload_n 0, 1) := by decide +kernel
theorem dX7_answer_20 : decode cX7_answer 20 = .ok (.invokevirtual 162, 3) := by decide +kernel
theorem dX7_answer_23 : decode cX7_answer 23 = .ok (.iconst (-1), 1) := by decide +kernel
theorem dX7_answer_24 : decode cX7_answer 24 = .ok (.istore_n 3, 1) := by decide +kernel
theorem dX7_answer_25 : decode cX7_answer 25 = .ok (.iconst 0, 1) := by decide +kernel
theorem dX7_answer_26 : decode cX7_answer 26 = .ok (.istore 4, 2) := by decide +kernel
theorem dX7_answer_28 : decode cX7_answer 28 = .ok (.iload 4, 2) := by decide +kernel
theorem dX7_answer_30 : decode cX7_answer 30 = .ok (.aload_n 0, 1) := by decide +kernel
theorem dX7_answer_31 : decode cX7_answer 31 = .ok (.getfield 123, 3) := by decide +kernel
theorem dX7_answer_34 : decode cX7_answer 34 = .ok (.if_icmp .ge 23, 3) := by decide +kernel
theorem dX7_answer_37 : decode cX7_answer 37 = .ok (.aload_n 0, 1) := by decide +kernel
theorem dX7_answer_38 : decode cX7_answer 38 = .ok (.getfield 82, 3) := by decide +kernel
theorem dX7_answer_41 : decode cX7_answer 41 = .ok (.iload 4, 2) := by decide +kernel
theorem dX7_answer_43 : decode cX7_answer 43 = .ok (.iaload, 1) := by decide +kernel
theorem dX7_answer_44 : decode cX7_answer 44 = .ok (.iload_n 1, 1) := by decide +kernel
theorem dX7_answer_45 : decode cX7_answer 45 = .ok (.if_icmp .ne 6, 3) := by decide +kernel
theorem dX7_answer_48 : decode cX7_answer 48 = .ok (.iload 4, 2) := by decide +kernel
theorem dX7_answer_50 : decode cX7_answer 50 = .ok (.istore_n 3, 1) := by decide +kernel
theorem dX7_answer_51 : decode cX7_answer 51 = .ok (.iinc 4 1, 3) := by decide +kernel
theorem dX7_answer_54 : decode cX7_answer 54 = .ok (.goto (-26), 3) := by decide +kernel
theorem dX7_answer_57 : decode cX7_answer 57 = .ok (.iload_n 3, 1) := by decide +kernel
theorem dX7_answer_58 : decode cX7_answer 58 = .ok (.iconst (-1), 1) := by decide +kernel
theorem dX7_answer_59 : decode cX7_answer 59 = .ok (.if_icmp .ne 5, 3) := by decide +kernel
theorem dX7_answer_62 : decode cX7_answer 62 = .ok (.iconst 0, 1) := by decide +kernel
theorem dX7_answer_63 : decode cX7_answer 63 = .ok (.ireturn, 1) := by decide +kernel
theorem dX7_answer_64 : decode cX7_answer 64 = .ok (.iload_n 2, 1) := by decide +kernel
theorem dX7_answer_65 : decode cX7_answer 65 = .ok (.ifCond .ne 20, 3) := by decide +kernel
theorem dX7_answer_68 : decode cX7_answer 68 = .ok (.aload_n 0, 1) := by decide +kernel
theorem dX7_answer_69 : decode cX7_answer 69 = .ok (.getfield 38, 3) := by decide +kernel
theorem dX7_answer_72 : decode cX7_answer 72 = .ok (.iload_n 1, 1) := by decide +kernel
theorem dX7_answer_73 : decode cX7_answer 73 = .ok (.iconst 1, 1) := by decide +kernel
theorem dX7_answer_74 : decode cX7_answer 74 = .ok (.iastore, 1) := by decide +kernel
theorem dX7_answer_75 : decode cX7_answer 75 = .ok (.aload_n 0, 1) := by decide +kernel
theorem dX7_answer_76 : decode cX7_answer 76 = .ok (.getfield 41, 3) := by decide +kernel
theorem dX7_answer_79 : decode cX7_answer 79 = .ok (.iload_n 1, 1) := by decide +kernel
theorem dX7_answer_80 : decode cX7_answer 80 = .ok (.iload_n 3, 1) := by decide +kernel
theorem dX7_answer_81 : decode cX7_answer 81 = .ok (.iastore, 1) := by decide +kernel
theorem dX7_answer_82 : decode cX7_answer 82 = .ok (.goto 55, 3) := by decide +kernel
theorem dX7_answer_85 : decode cX7_answer 85 = .ok (.iload_n 2, 1) := by decide +kernel
theorem dX7_answer_86 : decode cX7_answer 86 = .ok (.iconst 1, 1) := by decide +kernel
theorem dX7_answer_87 : decode cX7_answer 87 = .ok (.if_icmp .ne 13, 3) := by decide +kernel
theorem dX7_answer_90 : decode cX7_answer 90 = .ok (.aload_n 0, 1) := by decide +kernel
theorem dX7_answer_91 : decode cX7_answer 91 = .ok (.getfield 38, 3) := by decide +kernel
theorem dX7_answer_94 : decode cX7_answer 94 = .ok (.iload_n 1, 1) := by decide +kernel
theorem dX7_answer_95 : decode cX7_answer 95 = .ok (.iconst 2, 1) := by decide +kernel
theorem dX7_answer_96 : decode cX7_answer 96 = .ok (.iastore, 1) := by decide +kernel
theorem dX7_answer_97 : decode cX7_answer 97 = .ok (.goto 40, 3) := by decide +kernel
theorem dX7_answer_100 : decode cX7_answer 100 = .ok (.aload_n 0, 1) := by decide +kernel
theorem dX7_answer_101 : decode cX7_answer 101 = .ok (.getfield 44, 3) := by decide +kernel
theorem dX7_answer_104 : decode cX7_answer 104 = .ok (.iload_n 1, 1) := by decide +kernel
theorem dX7_answer_105 : decode cX7_answer 105 = .ok (.dup2, 1) := by decide +kernel
theorem dX7_answer_106 : decode cX7_answer 106 = .ok (.iaload, 1) := by decide +kernel
theorem dX7_answer_107 : decode cX7_answer 107 = .ok (.iconst 1, 1) := by decide +kernel
theorem dX7_answer_108 : decode cX7_answer 108 = .ok (.iadd, 1) := by decide +kernel
theorem dX7_answer_109 : decode cX7_answer 109 = .ok (.iastore, 1) := by decide +kernel
theorem dX7_answer_110 : decode cX7_answer 110 = .ok (.aload_n 0, 1) := by decide +kernel
theorem dX7_answer_111 : decode cX7_answer 111 = .ok (.getfield 38, 3) := by decide +kernel
theorem dX7_answer_114 : decode cX7_answer 114 = .ok (.iload_n 1, 1) := by decide +kernel
theorem dX7_answer_115 : decode cX7_answer 115 = .ok (.aload_n 0, 1) := by decide +kernel
theorem dX7_answer_116 : decode cX7_answer 116 = .ok (.getfield 44, 3) := by decide +kernel
theorem dX7_answer_119 : decode cX7_answer 119 = .ok (.iload_n 1, 1) := by decide +kernel
theorem dX7_answer_120 : decode cX7_answer 120 = .ok (.iaload, 1) := by decide +kernel
theorem dX7_answer_121 : decode cX7_answer 121 = .ok (.aload_n 0, 1) := by decide +kernel
theorem dX7_answer_122 : decode cX7_answer 122 = .ok (.getfield 13, 3) := by decide +kernel
theorem dX7_answer_125 : decode cX7_answer 125 = .ok (.bipush 6, 2) := by decide +kernel
theorem dX7_answer_127 : decode cX7_answer 127 = .ok (.iaload, 1) := by decide +kernel
theorem dX7_answer_128 : decode cX7_answer 128 = .ok (.if_icmp .lt 7, 3) := by decide +kernel
theorem dX7_answer_131 : decode cX7_answer 131 = .ok (.iconst 2, 1) := by decide +kernel
theorem dX7_answer_132 : decode cX7_answer 132 = .ok (.goto 4, 3) := by decide +kernel
theorem dX7_answer_135 : decode cX7_answer 135 = .ok (.iconst 0, 1) := by decide +kernel
theorem dX7_answer_136 : decode cX7_answer 136 = .ok (.iastore, 1) := by decide +kernel
theorem dX7_answer_137 : decode cX7_answer 137 = .ok (.aload_n 0, 1) := by decide +kernel
theorem dX7_answer_138 : decode cX7_answer 138 = .ok (.iconst 0, 1) := by decide +kernel
theorem dX7_answer_139 : decode cX7_answer 139 = .ok (.putfield 116, 3) := by decide +kernel
theorem dX7_answer_142 : decode cX7_answer 142 = .ok (.iconst 1, 1) := by decide +kernel
theorem dX7_answer_143 : decode cX7_answer 143 = .ok (.ireturn, 1) := by decide +kernel
theorem dX7_hall_0 : decode cX7_hall 0 = .ok (.aload_n 0, 1) := by decide +kernel
theorem dX7_hall_1 : decode cX7_hall 1 = .ok (.invokevirtual 162, 3) := by decide +kernel
theorem dX7_hall_4 : decode cX7_hall 4 = .ok (.iconst 0, 1) := by decide +kernel
theorem dX7_hall_5 : decode cX7_hall 5 = .ok (.istore_n 1, 1) := by decide +kernel
theorem dX7_hall_6 : decode cX7_hall 6 = .ok (.iconst 0, 1) := by decide +kernel
theorem dX7_hall_7 : decode cX7_hall 7 = .ok (.istore_n 2, 1) := by decide +kernel
theorem dX7_hall_8 : decode cX7_hall 8 = .ok (.iload_n 2, 1) := by decide +kernel
theorem dX7_hall_9 : decode cX7_hall 9 = .ok (.aload_n 0, 1) := by decide +kernel
theorem dX7_hall_10 : decode cX7_hall 10 = .ok (.getfield 123, 3) := by decide +kernel
theorem dX7_hall_13 : decode cX7_hall 13 = .ok (.if_icmp .ge 28, 3) := by decide +kernel
theorem dX7_hall_16 : decode cX7_hall 16 = .ok (.iload_n 1, 1) := by decide +kernel
theorem dX7_hall_17 : decode cX7_hall 17 = .ok (.aload_n 0, 1) := by decide +kernel
theorem dX7_hall_18 : decode cX7_hall 18 = .ok (.iload_n 2, 1) := by decide +kernel
theorem dX7_hall_19 : decode cX7_hall 19 = .ok (.invokevirtual 146, 3) := by decide +kernel
theorem dX7_hall_22 : decode cX7_hall 22 = .ok (.iconst (-1), 1) := by decide +kernel
theorem dX7_hall_23 : decode cX7_hall 23 = .ok (.if_icmp .ne 9, 3) := by decide +kernel
theorem dX7_hall_26 : decode cX7_hall 26 = .ok (.iconst 1, 1) := by decide +kernel
theorem dX7_hall_27 : decode cX7_hall 27 = .ok (.iload_n 2, 1) := by decide +kernel
theorem dX7_hall_28 : decode cX7_hall 28 = .ok (.ishl, 1) := by decide +kernel
theorem dX7_hall_29 : decode cX7_hall 29 = .ok (.goto 4, 3) := by decide +kernel
theorem dX7_hall_32 : decode cX7_hall 32 = .ok (.iconst 0, 1) := by decide +kernel
theorem dX7_hall_33 : decode cX7_hall 33 = .ok (.ior, 1) := by decide +kernel
theorem dX7_hall_34 : decode cX7_hall 34 = .ok (.istore_n 1, 1) := by decide +kernel
theorem dX7_hall_35 : decode cX7_hall 35 = .ok (.iinc 2 1, 3) := by decide +kernel
theorem dX7_hall_38 : decode cX7_hall 38 = .ok (.goto (-30), 3) := by decide +kernel
theorem dX7_hall_41 : decode cX7_hall 41 = .ok (.iload_n 1, 1) := by decide +kernel
theorem dX7_hall_42 : decode cX7_hall 42 = .ok (.invokestatic 165, 3) := by decide +kernel
theorem dX7_hall_45 : decode cX7_hall 45 = .ok (.aload_n 0, 1) := by decide +kernel
theorem dX7_hall_46 : decode cX7_hall 46 = .ok (.getfield 156, 3) := by decide +kernel
theorem dX7_hall_49 : decode cX7_hall 49 = .ok (.if_icmp .ne 5, 3) := by decide +kernel
theorem dX7_hall_52 : decode cX7_hall 52 = .ok (.iconst 0, 1) := by decide +kernel
theorem dX7_hall_53 : decode cX7_hall 53 = .ok (.ireturn, 1) := by decide +kernel
theorem dX7_hall_54 : decode cX7_hall 54 = .ok (.iconst 0, 1) := by decide +kernel
theorem dX7_hall_55 : decode cX7_hall 55 = .ok (.istore_n 2, 1) := by decide +kernel
theorem dX7_hall_56 : decode cX7_hall 56 = .ok (.iconst 1, 1) := by decide +kernel
theorem dX7_hall_57 : decode cX7_hall 57 = .ok (.istore_n 3, 1) := by decide +kernel
theorem dX7_hall_58 : decode cX7_hall 58 = .ok (.iload_n 3, 1) := by decide +kernel
theorem dX7_hall_59 : decode cX7_hall 59 = .ok (.iconst 1, 1) := by decide +kernel
theorem dX7_hall_60 : decode cX7_hall 60 = .ok (.aload_n 0, 1) := by decide +kernel
theorem dX7_hall_61 : decode cX7_hall 61 = .ok (.getfield 123, 3) := by decide +kernel
theorem dX7_hall_64 : decode cX7_hall 64 = .ok (.ishl, 1) := by decide +kernel
theorem dX7_hall_65 : decode cX7_hall 65 = .ok (.if_icmp .ge 135, 3) := by decide +kernel
theorem dX7_hall_68 : decode cX7_hall 68 = .ok (.iload_n 3, 1) := by decide +kernel
theorem dX7_hall_69 : decode cX7_hall 69 = .ok (.iload_n 1, 1) := by decide +kernel
theorem dX7_hall_70 : decode cX7_hall 70 = .ok (.iconst (-1), 1) := by decide +kernel
theorem dX7_hall_71 : decode cX7_hall 71 = .ok (.ixor, 1) := by decide +kernel
theorem dX7_hall_72 : decode cX7_hall 72 = .ok (.iand, 1) := by decide +kernel
theorem dX7_hall_73 : decode cX7_hall 73 = .ok (.ifCond .ne 121, 3) := by decide +kernel
theorem dX7_hall_76 : decode cX7_hall 76 = .ok (.iload_n 2, 1) := by decide +kernel
theorem dX7_hall_77 : decode cX7_hall 77 = .ok (.ifCond .eq 17, 3) := by decide +kernel
theorem dX7_hall_80 : decode cX7_hall 80 = .ok (.iload_n 3, 1) := by decide +kernel
theorem dX7_hall_81 : decode cX7_hall 81 = .ok (.invokestatic 165, 3) := by decide +kernel
theorem dX7_hall_84 : decode cX7_hall 84 = .ok (.iload_n 2, 1) := by decide +kernel
theorem dX7_hall_85 : decode cX7_hall 85 = .ok (.invokestatic 165, 3) := by decide +kernel
theorem dX7_hall_88 : decode cX7_hall 88 = .ok (.if_icmp .lt 6, 3) := by decide +kernel
theorem dX7_hall_91 : decode cX7_hall 91 = .ok (.goto 103, 3) := by decide +kernel
theorem dX7_hall_94 : decode cX7_hall 94 = .ok (.iconst 0, 1) := by decide +kernel
theorem dX7_hall_95 : decode cX7_hall 95 = .ok (.istore 4, 2) := by decide +kernel
theorem dX7_hall_97 : decode cX7_hall 97 = .ok (.iconst 0, 1) := by decide +kernel
theorem dX7_hall_98 : decode cX7_hall 98 = .ok (.istore 5, 2) := by decide +kernel
theorem dX7_hall_100 : decode cX7_hall 100 = .ok (.iload 5, 2) := by decide +kernel
theorem dX7_hall_102 : decode cX7_hall 102 = .ok (.aload_n 0, 1) := by decide +kernel
theorem dX7_hall_103 : decode cX7_hall 103 = .ok (.getfield 120, 3) := by decide +kernel
theorem dX7_hall_106 : decode cX7_hall 106 = .ok (.if_icmp .ge 77, 3) := by decide +kernel
theorem dX7_hall_109 : decode cX7_hall 109 = .ok (.iconst 0, 1) := by decide +kernel
theorem dX7_hall_110 : decode cX7_hall 110 = .ok (.istore 6, 2) := by decide +kernel
theorem dX7_hall_112 : decode cX7_hall 112 = .ok (.iconst 0, 1) := by decide +kernel
theorem dX7_hall_113 : decode cX7_hall 113 = .ok (.istore 7, 2) := by decide +kernel
theorem dX7_hall_115 : decode cX7_hall 115 = .ok (.iload 7, 2) := by decide +kernel
theorem dX7_hall_117 : decode cX7_hall 117 = .ok (.aload_n 0, 1) := by decide +kernel
theorem dX7_hall_118 : decode cX7_hall 118 = .ok (.getfield 123, 3) := by decide +kernel
theorem dX7_hall_121 : decode cX7_hall 121 = .ok (.if_icmp .ge 41, 3) := by decide +kernel
theorem dX7_hall_124 : decode cX7_hall 124 = .ok (.iload 6, 2) := by decide +kernel
theorem dX7_hall_126 : decode cX7_hall 126 = .ok (.ifCond .ne 23, 3) := by decide +kernel
theorem dX7_hall_129 : decode cX7_hall 129 = .ok (.iload_n 3, 1) := by decide +kernel
theorem dX7_hall_130 : decode cX7_hall 130 = .ok (.iload 7, 2) := by decide +kernel
theorem dX7_hall_132 : decode cX7_hall 132 = .ok (.invokestatic 130, 3) := by decide +kernel
theorem dX7_hall_135 : decode cX7_hall 135 = .ok (.ifCond .eq 18, 3) := by decide +kernel
theorem dX7_hall_138 : decode cX7_hall 138 = .ok (.aload_n 0, 1) := by decide +kernel
theorem dX7_hall_139 : decode cX7_hall 139 = .ok (.iload 5, 2) := by decide +kernel
theorem dX7_hall_141 : decode cX7_hall 141 = .ok (.iload 7, 2) := by decide +kernel
theorem dX7_hall_143 : decode cX7_hall 143 = .ok (.invokevirtual 149, 3) := by decide +kernel
theorem dX7_hall_146 : decode cX7_hall 146 = .ok (.ifCond .eq 7, 3) := by decide +kernel
theorem dX7_hall_149 : decode cX7_hall 149 = .ok (.iconst 1, 1) := by decide +kernel
theorem dX7_hall_150 : decode cX7_hall 150 = .ok (.goto 4, 3) := by decide +kernel
theorem dX7_hall_153 : decode cX7_hall 153 = .ok (.iconst 0, 1) := by decide +kernel
theorem dX7_hall_154 : decode cX7_hall 154 = .ok (.istore 6, 2) := by decide +kernel
theorem dX7_hall_156 : decode cX7_hall 156 = .ok (.iinc 7 1, 3) := by decide +kernel
theorem dX7_hall_159 : decode cX7_hall 159 = .ok (.goto (-44), 3) := by decide +kernel
theorem dX7_hall_162 : decode cX7_hall 162 = .ok (.iload 4, 2) := by decide +kernel
theorem dX7_hall_164 : decode cX7_hall 164 = .ok (.iload 6, 2) := by decide +kernel
theorem dX7_hall_166 : decode cX7_hall 166 = .ok (.ifCond .eq 7, 3) := by decide +kernel
theorem dX7_hall_169 : decode cX7_hall 169 = .ok (.iconst 1, 1) := by decide +kernel
theorem dX7_hall_170 : decode cX7_hall 170 = .ok (.goto 4, 3) := by decide +kernel
theorem dX7_hall_173 : decode cX7_hall 173 = .ok (.iconst 0, 1) := by decide +kernel
theorem dX7_hall_174 : decode cX7_hall 174 = .ok (.iadd, 1) := by decide +kernel
theorem dX7_hall_175 : decode cX7_hall 175 = .ok (.istore 4, 2) := by decide +kernel
theorem dX7_hall_177 : decode cX7_hall 177 = .ok (.iinc 5 1, 3) := by decide +kernel
theorem dX7_hall_180 : decode cX7_hall 180 = .ok (.goto (-80), 3) := by decide +kernel
theorem dX7_hall_183 : decode cX7_hall 183 = .ok (.iload 4, 2) := by decide +kernel
theorem dX7_hall_185 : decode cX7_hall 185 = .ok (.iload_n 3, 1) := by decide +kernel
theorem dX7_hall_186 : decode cX7_hall 186 = .ok (.invokestatic 165, 3) := by decide +kernel
theorem dX7_hall_189 : decode cX7_hall 189 = .ok (.if_icmp .ge 5, 3) := by decide +kernel
theorem dX7_hall_192 : decode cX7_hall 192 = .ok (.iload_n 3, 1) := by decide +kernel
theorem dX7_hall_193 : decode cX7_hall 193 = .ok (.istore_n 2, 1) := by decide +kernel
theorem dX7_hall_194 : decode cX7_hall 194 = .ok (.iinc 3 1, 3) := by decide +kernel
theorem dX7_hall_197 : decode cX7_hall 197 = .ok (.goto (-139), 3) := by decide +kernel
theorem dX7_hall_200 : decode cX7_hall 200 = .ok (.iload_n 2, 1) := by decide +kernel
theorem dX7_hall_201 : decode cX7_hall 201 = .ok (.ireturn, 1) := by decide +kernel
theorem dX7_goesBy_0 : decode cX7_goesBy 0 = .ok (.aload_n 0, 1) := by decide +kernel
theorem dX7_goesBy_1 : decode cX7_goesBy 1 = .ok (.getfield 41, 3) := by decide +kernel
theorem dX7_goesBy_4 : decode cX7_goesBy 4 = .ok (.iload_n 1, 1) := by decide +kernel
theorem dX7_goesBy_5 : decode cX7_goesBy 5 = .ok (.iaload, 1) := by decide +kernel
theorem dX7_goesBy_6 : decode cX7_goesBy 6 = .ok (.istore_n 2, 1) := by decide +kernel
theorem dX7_goesBy_7 : decode cX7_goesBy 7 = .ok (.aload_n 0, 1) := by decide +kernel
theorem dX7_goesBy_8 : decode cX7_goesBy 8 = .ok (.getfield 47, 3) := by decide +kernel
theorem dX7_goesBy_11 : decode cX7_goesBy 11 = .ok (.iload_n 1, 1) := by decide +kernel
theorem dX7_goesBy_12 : decode cX7_goesBy 12 = .ok (.dup2, 1) := by decide +kernel
theorem dX7_goesBy_13 : decode cX7_goesBy 13 = .ok (.iaload, 1) := by decide +kernel
theorem dX7_goesBy_14 : decode cX7_goesBy 14 = .ok (.iconst 1, 1) := by decide +kernel
theorem dX7_goesBy_15 : decode cX7_goesBy 15 = .ok (.iadd, 1) := by decide +kernel
theorem dX7_goesBy_16 : decode cX7_goesBy 16 = .ok (.iastore, 1) := by decide +kernel
theorem dX7_goesBy_17 : decode cX7_goesBy 17 = .ok (.aload_n 0, 1) := by decide +kernel
theorem dX7_goesBy_18 : decode cX7_goesBy 18 = .ok (.getfield 50, 3) := by decide +kernel
theorem dX7_goesBy_21 : decode cX7_goesBy 21 = .ok (.iload_n 1, 1) := by decide +kernel
theorem dX7_goesBy_22 : decode cX7_goesBy 22 = .ok (.dup2, 1) := by decide +kernel
theorem dX7_goesBy_23 : decode cX7_goesBy 23 = .ok (.laload, 1) := by decide +kernel
theorem dX7_goesBy_24 : decode cX7_goesBy 24 = .ok (.aload_n 0, 1) := by decide +kernel
theorem dX7_goesBy_25 : decode cX7_goesBy 25 = .ok (.getfield 66, 3) := by decide +kernel
theorem dX7_goesBy_28 : decode cX7_goesBy 28 = .ok (.iload_n 2, 1) := by decide +kernel
theorem dX7_goesBy_29 : decode cX7_goesBy 29 = .ok (.iaload, 1) := by decide +kernel
theorem dX7_goesBy_30 : decode cX7_goesBy 30 = .ok (.aload_n 0, 1) := by decide +kernel
theorem dX7_goesBy_31 : decode cX7_goesBy 31 = .ok (.getfield 13, 3) := by decide +kernel
theorem dX7_goesBy_34 : decode cX7_goesBy 34 = .ok (.iconst 4, 1) := by decide +kernel
theorem dX7_goesBy_35 : decode cX7_goesBy 35 = .ok (.iaload, 1) := by decide +kernel
theorem dX7_goesBy_36 : decode cX7_goesBy 36 = .ok (.aload_n 0, 1) := by decide +kernel
theorem dX7_goesBy_37 : decode cX7_goesBy 37 = .ok (.getfield 20, 3) := by decide +kernel
theorem dX7_goesBy_40 : decode cX7_goesBy 40 = .ok (.iload_n 1, 1) := by decide +kernel
theorem dX7_goesBy_41 : decode cX7_goesBy 41 = .ok (.iaload, 1) := by decide +kernel
theorem dX7_goesBy_42 : decode cX7_goesBy 42 = .ok (.aload_n 0, 1) := by decide +kernel
theorem dX7_goesBy_43 : decode cX7_goesBy 43 = .ok (.getfield 60, 3) := by decide +kernel
theorem dX7_goesBy_46 : decode cX7_goesBy 46 = .ok (.iload_n 2, 1) := by decide +kernel
theorem dX7_goesBy_47 : decode cX7_goesBy 47 = .ok (.iaload, 1) := by decide +kernel
theorem dX7_goesBy_48 : decode cX7_goesBy 48 = .ok (.invokestatic 130, 3) := by decide +kernel
theorem dX7_goesBy_51 : decode cX7_goesBy 51 = .ok (.ifCond .eq 12, 3) := by decide +kernel
theorem dX7_goesBy_54 : decode cX7_goesBy 54 = .ok (.aload_n 0, 1) := by decide +kernel
theorem dX7_goesBy_55 : decode cX7_goesBy 55 = .ok (.getfield 13, 3) := by decide +kernel
theorem dX7_goesBy_58 : decode cX7_goesBy 58 = .ok (.iconst 5, 1) := by decide +kernel
theorem dX7_goesBy_59 : decode cX7_goesBy 59 = .ok (.iaload, 1) := by decide +kernel
theorem dX7_goesBy_60 : decode cX7_goesBy 60 = .ok (.goto 4, 3) := by decide +kernel
theorem dX7_goesBy_63 : decode cX7_goesBy 63 = .ok (.iconst 0, 1) := by decide +kernel
theorem dX7_goesBy_64 : decode cX7_goesBy 64 = .ok (.iadd, 1) := by decide +kernel
theorem dX7_goesBy_65 : decode cX7_goesBy 65 = .ok (.imul, 1) := by decide +kernel
theorem dX7_goesBy_66 : decode cX7_goesBy 66 = .ok (.i2l, 1) := by decide +kernel
theorem dX7_goesBy_67 : decode cX7_goesBy 67 = .ok (.ladd, 1) := by decide +kernel
theorem dX7_goesBy_68 : decode cX7_goesBy 68 = .ok (.lastore, 1) := by decide +kernel
theorem dX7_goesBy_69 : decode cX7_goesBy 69 = .ok (.aload_n 0, 1) := by decide +kernel
theorem dX7_goesBy_70 : decode cX7_goesBy 70 = .ok (.getfield 168, 3) := by decide +kernel
theorem dX7_goesBy_73 : decode cX7_goesBy 73 = .ok (.sipush 400, 3) := by decide +kernel
theorem dX7_goesBy_76 : decode cX7_goesBy 76 = .ok (.irem, 1) := by decide +kernel
theorem dX7_goesBy_77 : decode cX7_goesBy 77 = .ok (.istore_n 3, 1) := by decide +kernel
theorem dX7_goesBy_78 : decode cX7_goesBy 78 = .ok (.aload_n 0, 1) := by decide +kernel
theorem dX7_goesBy_79 : decode cX7_goesBy 79 = .ok (.getfield 69, 3) := by decide +kernel
theorem dX7_goesBy_82 : decode cX7_goesBy 82 = .ok (.iload_n 3, 1) := by decide +kernel
theorem dX7_goesBy_83 : decode cX7_goesBy 83 = .ok (.iload_n 1, 1) := by decide +kernel
theorem dX7_goesBy_84 : decode cX7_goesBy 84 = .ok (.iastore, 1) := by decide +kernel
theorem dX7_goesBy_85 : decode cX7_goesBy 85 = .ok (.aload_n 0, 1) := by decide +kernel
theorem dX7_goesBy_86 : decode cX7_goesBy 86 = .ok (.getfield 72, 3) := by decide +kernel
theorem dX7_goesBy_89 : decode cX7_goesBy 89 = .ok (.iload_n 3, 1) := by decide +kernel
theorem dX7_goesBy_90 : decode cX7_goesBy 90 = .ok (.bipush 16, 2) := by decide +kernel
theorem dX7_goesBy_92 : decode cX7_goesBy 92 = .ok (.aload_n 0, 1) := by decide +kernel
theorem dX7_goesBy_93 : decode cX7_goesBy 93 = .ok (.getfield 54, 3) := by decide +kernel
theorem dX7_goesBy_96 : decode cX7_goesBy 96 = .ok (.iload_n 2, 1) := by decide +kernel
theorem dX7_goesBy_97 : decode cX7_goesBy 97 = .ok (.iaload, 1) := by decide +kernel
theorem dX7_goesBy_98 : decode cX7_goesBy 98 = .ok (.imul, 1) := by decide +kernel
theorem dX7_goesBy_99 : decode cX7_goesBy 99 = .ok (.aload_n 0, 1) := by decide +kernel
theorem dX7_goesBy_100 : decode cX7_goesBy 100 = .ok (.getfield 57, 3) := by decide +kernel
theorem dX7_goesBy_103 : decode cX7_goesBy 103 = .ok (.iload_n 2, 1) := by decide +kernel
theorem dX7_goesBy_104 : decode cX7_goesBy 104 = .ok (.iaload, 1) := by decide +kernel
theorem dX7_goesBy_105 : decode cX7_goesBy 105 = .ok (.iadd, 1) := by decide +kernel
theorem dX7_goesBy_106 : decode cX7_goesBy 106 = .ok (.iastore, 1) := by decide +kernel
theorem dX7_goesBy_107 : decode cX7_goesBy 107 = .ok (.aload_n 0, 1) := by decide +kernel
theorem dX7_goesBy_108 : decode cX7_goesBy 108 = .ok (.getfield 75, 3) := by decide +kernel
theorem dX7_goesBy_111 : decode cX7_goesBy 111 = .ok (.iload_n 3, 1) := by decide +kernel
theorem dX7_goesBy_112 : decode cX7_goesBy 112 = .ok (.aload_n 0, 1) := by decide +kernel
theorem dX7_goesBy_113 : decode cX7_goesBy 113 = .ok (.getfield 133, 3) := by decide +kernel
theorem dX7_goesBy_116 : decode cX7_goesBy 116 = .ok (.iastore, 1) := by decide +kernel
theorem dX7_goesBy_117 : decode cX7_goesBy 117 = .ok (.aload_n 0, 1) := by decide +kernel
theorem dX7_goesBy_118 : decode cX7_goesBy 118 = .ok (.dup, 1) := by decide +kernel
theorem dX7_goesBy_119 : decode cX7_goesBy 119 = .ok (.getfield 168, 3) := by decide +kernel
theorem dX7_goesBy_122 : decode cX7_goesBy 122 = .ok (.iconst 1, 1) := by decide +kernel
theorem dX7_goesBy_123 : decode cX7_goesBy 123 = .ok (.iadd, 1) := by decide +kernel
theorem dX7_goesBy_124 : decode cX7_goesBy 124 = .ok (.putfield 168, 3) := by decide +kernel
theorem dX7_goesBy_127 : decode cX7_goesBy 127 = .ok (.return_, 1) := by decide +kernel
theorem dX7_day_0 : decode cX7_day 0 = .ok (.aload_n 0, 1) := by decide +kernel
theorem dX7_day_1 : decode cX7_day 1 = .ok (.getfield 133, 3) := by decide +kernel
theorem dX7_day_4 : decode cX7_day 4 = .ok (.sipush 2000, 3) := by decide +kernel
theorem dX7_day_7 : decode cX7_day 7 = .ok (.if_icmp .ne 5, 3) := by decide +kernel
theorem dX7_day_10 : decode cX7_day 10 = .ok (.iconst (-1), 1) := by decide +kernel
theorem dX7_day_11 : decode cX7_day 11 = .ok (.ireturn, 1) := by decide +kernel
theorem dX7_day_12 : decode cX7_day 12 = .ok (.iconst 0, 1) := by decide +kernel
theorem dX7_day_13 : decode cX7_day 13 = .ok (.istore_n 1, 1) := by decide +kernel
theorem dX7_day_14 : decode cX7_day 14 = .ok (.iload_n 1, 1) := by decide +kernel
theorem dX7_day_15 : decode cX7_day 15 = .ok (.aload_n 0, 1) := by decide +kernel
theorem dX7_day_16 : decode cX7_day 16 = .ok (.getfield 120, 3) := by decide +kernel
theorem dX7_day_19 : decode cX7_day 19 = .ok (.if_icmp .ge 45, 3) := by decide +kernel
theorem dX7_day_22 : decode cX7_day 22 = .ok (.aload_n 0, 1) := by decide +kernel
theorem dX7_day_23 : decode cX7_day 23 = .ok (.getfield 38, 3) := by decide +kernel
theorem dX7_day_26 : decode cX7_day 26 = .ok (.iload_n 1, 1) := by decide +kernel
theorem dX7_day_27 : decode cX7_day 27 = .ok (.iaload, 1) := by decide +kernel
theorem dX7_day_28 : decode cX7_day 28 = .ok (.iconst 1, 1) := by decide +kernel
theorem dX7_day_29 : decode cX7_day 29 = .ok (.if_icmp .ne 8, 3) := by decide +kernel
theorem dX7_day_32 : decode cX7_day 32 = .ok (.aload_n 0, 1) := by decide +kernel
theorem dX7_day_33 : decode cX7_day 33 = .ok (.iload_n 1, 1) := by decide +kernel
theorem dX7_day_34 : decode cX7_day 34 = .ok (.invokevirtual 171, 3) := by decide +kernel
theorem dX7_day_37 : decode cX7_day 37 = .ok (.aload_n 0, 1) := by decide +kernel
theorem dX7_day_38 : decode cX7_day 38 = .ok (.getfield 38, 3) := by decide +kernel
theorem dX7_day_41 : decode cX7_day 41 = .ok (.iload_n 1, 1) := by decide +kernel
theorem dX7_day_42 : decode cX7_day 42 = .ok (.iconst 0, 1) := by decide +kernel
theorem dX7_day_43 : decode cX7_day 43 = .ok (.iastore, 1) := by decide +kernel
theorem dX7_day_44 : decode cX7_day 44 = .ok (.aload_n 0, 1) := by decide +kernel
theorem dX7_day_45 : decode cX7_day 45 = .ok (.getfield 41, 3) := by decide +kernel
theorem dX7_day_48 : decode cX7_day 48 = .ok (.iload_n 1, 1) := by decide +kernel
theorem dX7_day_49 : decode cX7_day 49 = .ok (.iconst (-1), 1) := by decide +kernel
theorem dX7_day_50 : decode cX7_day 50 = .ok (.iastore, 1) := by decide +kernel
theorem dX7_day_51 : decode cX7_day 51 = .ok (.aload_n 0, 1) := by decide +kernel
theorem dX7_day_52 : decode cX7_day 52 = .ok (.getfield 44, 3) := by decide +kernel
theorem dX7_day_55 : decode cX7_day 55 = .ok (.iload_n 1, 1) := by decide +kernel
theorem dX7_day_56 : decode cX7_day 56 = .ok (.iconst 0, 1) := by decide +kernel
theorem dX7_day_57 : decode cX7_day 57 = .ok (.iastore, 1) := by decide +kernel
theorem dX7_day_58 : decode cX7_day 58 = .ok (.iinc 1 1, 3) := by decide +kernel
theorem dX7_day_61 : decode cX7_day 61 = .ok (.goto (-47), 3) := by decide +kernel
theorem dX7_day_64 : decode cX7_day 64 = .ok (.aload_n 0, 1) := by decide +kernel
theorem dX7_day_65 : decode cX7_day 65 = .ok (.iconst 0, 1) := by decide +kernel
theorem dX7_day_66 : decode cX7_day 66 = .ok (.putfield 123, 3) := by decide +kernel
theorem dX7_day_69 : decode cX7_day 69 = .ok (.aload_n 0, 1) := by decide +kernel
theorem dX7_day_70 : decode cX7_day 70 = .ok (.dup, 1) := by decide +kernel
theorem dX7_day_71 : decode cX7_day 71 = .ok (.getfield 133, 3) := by decide +kernel
theorem dX7_day_74 : decode cX7_day 74 = .ok (.iconst 1, 1) := by decide +kernel
theorem dX7_day_75 : decode cX7_day 75 = .ok (.iadd, 1) := by decide +kernel
theorem dX7_day_76 : decode cX7_day 76 = .ok (.putfield 133, 3) := by decide +kernel
theorem dX7_day_79 : decode cX7_day 79 = .ok (.aload_n 0, 1) := by decide +kernel
theorem dX7_day_80 : decode cX7_day 80 = .ok (.iconst 0, 1) := by decide +kernel
theorem dX7_day_81 : decode cX7_day 81 = .ok (.putfield 116, 3) := by decide +kernel
theorem dX7_day_84 : decode cX7_day 84 = .ok (.aload_n 0, 1) := by decide +kernel
theorem dX7_day_85 : decode cX7_day 85 = .ok (.getfield 133, 3) := by decide +kernel
theorem dX7_day_88 : decode cX7_day 88 = .ok (.ireturn, 1) := by decide +kernel
theorem dX7_pay_0 : decode cX7_pay 0 = .ok (.aload_n 0, 1) := by decide +kernel
theorem dX7_pay_1 : decode cX7_pay 1 = .ok (.iload_n 1, 1) := by decide +kernel
theorem dX7_pay_2 : decode cX7_pay 2 = .ok (.invokevirtual 126, 3) := by decide +kernel
theorem dX7_pay_5 : decode cX7_pay 5 = .ok (.ifCond .eq 12, 3) := by decide +kernel
theorem dX7_pay_8 : decode cX7_pay 8 = .ok (.aload_n 0, 1) := by decide +kernel
theorem dX7_pay_9 : decode cX7_pay 9 = .ok (.getfield 50, 3) := by decide +kernel
theorem dX7_pay_12 : decode cX7_pay 12 = .ok (.iload_n 1, 1) := by decide +kernel
theorem dX7_pay_13 : decode cX7_pay 13 = .ok (.laload, 1) := by decide +kernel
theorem dX7_pay_14 : decode cX7_pay 14 = .ok (.goto 4, 3) := by decide +kernel
theorem dX7_pay_17 : decode cX7_pay 17 = .ok (.lconst 0, 1) := by decide +kernel
theorem dX7_pay_18 : decode cX7_pay 18 = .ok (.lreturn, 1) := by decide +kernel
theorem dX7_kept_0 : decode cX7_kept 0 = .ok (.aload_n 0, 1) := by decide +kernel
theorem dX7_kept_1 : decode cX7_kept 1 = .ok (.getfield 168, 3) := by decide +kernel
theorem dX7_kept_4 : decode cX7_kept 4 = .ok (.sipush 400, 3) := by decide +kernel
theorem dX7_kept_7 : decode cX7_kept 7 = .ok (.if_icmp .ge 10, 3) := by decide +kernel
theorem dX7_kept_10 : decode cX7_kept 10 = .ok (.aload_n 0, 1) := by decide +kernel
theorem dX7_kept_11 : decode cX7_kept 11 = .ok (.getfield 168, 3) := by decide +kernel
theorem dX7_kept_14 : decode cX7_kept 14 = .ok (.goto 6, 3) := by decide +kernel
theorem dX7_kept_17 : decode cX7_kept 17 = .ok (.sipush 400, 3) := by decide +kernel
theorem dX7_kept_20 : decode cX7_kept 20 = .ok (.ireturn, 1) := by decide +kernel
theorem dX7_strangers_0 : decode cX7_strangers 0 = .ok (.iload_n 1, 1) := by decide +kernel
theorem dX7_strangers_1 : decode cX7_strangers 1 = .ok (.iconst 0, 1) := by decide +kernel
theorem dX7_strangers_2 : decode cX7_strangers 2 = .ok (.iconst 5, 1) := by decide +kernel
theorem dX7_strangers_3 : decode cX7_strangers 3 = .ok (.invokestatic 97, 3) := by decide +kernel
theorem dX7_strangers_6 : decode cX7_strangers 6 = .ok (.ifCond .eq 13, 3) := by decide +kernel
theorem dX7_strangers_9 : decode cX7_strangers 9 = .ok (.iload_n 2, 1) := by decide +kernel
theorem dX7_strangers_10 : decode cX7_strangers 10 = .ok (.iconst 0, 1) := by decide +kernel
theorem dX7_strangers_11 : decode cX7_strangers 11 = .ok (.bipush 15, 2) := by decide +kernel
theorem dX7_strangers_13 : decode cX7_strangers 13 = .ok (.invokestatic 97, 3) := by decide +kernel
theorem dX7_strangers_16 : decode cX7_strangers 16 = .ok (.ifCond .ne 5, 3) := by decide +kernel
theorem dX7_strangers_19 : decode cX7_strangers 19 = .ok (.iconst (-1), 1) := by decide +kernel
theorem dX7_strangers_20 : decode cX7_strangers 20 = .ok (.ireturn, 1) := by decide +kernel
theorem dX7_strangers_21 : decode cX7_strangers 21 = .ok (.iconst 0, 1) := by decide +kernel
theorem dX7_strangers_22 : decode cX7_strangers 22 = .ok (.istore_n 3, 1) := by decide +kernel
theorem dX7_strangers_23 : decode cX7_strangers 23 = .ok (.iconst 0, 1) := by decide +kernel
theorem dX7_strangers_24 : decode cX7_strangers 24 = .ok (.istore 4, 2) := by decide +kernel
theorem dX7_strangers_26 : decode cX7_strangers 26 = .ok (.iload 4, 2) := by decide +kernel
theorem dX7_strangers_28 : decode cX7_strangers 28 = .ok (.aload_n 0, 1) := by decide +kernel
theorem dX7_strangers_29 : decode cX7_strangers 29 = .ok (.invokevirtual 174, 3) := by decide +kernel
theorem dX7_strangers_32 : decode cX7_strangers 32 = .ok (.if_icmp .ge 54, 3) := by decide +kernel
theorem dX7_strangers_35 : decode cX7_strangers 35 = .ok (.aload_n 0, 1) := by decide +kernel
theorem dX7_strangers_36 : decode cX7_strangers 36 = .ok (.getfield 72, 3) := by decide +kernel
theorem dX7_strangers_39 : decode cX7_strangers 39 = .ok (.iload 4, 2) := by decide +kernel
theorem dX7_strangers_41 : decode cX7_strangers 41 = .ok (.iaload, 1) := by decide +kernel
theorem dX7_strangers_42 : decode cX7_strangers 42 = .ok (.bipush 16, 2) := by decide +kernel
theorem dX7_strangers_44 : decode cX7_strangers 44 = .ok (.iload_n 1, 1) := by decide +kernel
theorem dX7_strangers_45 : decode cX7_strangers 45 = .ok (.imul, 1) := by decide +kernel
theorem dX7_strangers_46 : decode cX7_strangers 46 = .ok (.iload_n 2, 1) := by decide +kernel
theorem dX7_strangers_47 : decode cX7_strangers 47 = .ok (.iadd, 1) := by decide +kernel
theorem dX7_strangers_48 : decode cX7_strangers 48 = .ok (.if_icmp .ne 32, 3) := by decide +kernel
theorem dX7_strangers_51 : decode cX7_strangers 51 = .ok (.aload_n 0, 1) := by decide +kernel
theorem dX7_strangers_52 : decode cX7_strangers 52 = .ok (.getfield 75, 3) := by decide +kernel
theorem dX7_strangers_55 : decode cX7_strangers 55 = .ok (.iload 4, 2) := by decide +kernel
theorem dX7_strangers_57 : decode cX7_strangers 57 = .ok (.iaload, 1) := by decide +kernel
theorem dX7_strangers_58 : decode cX7_strangers 58 = .ok (.aload_n 0, 1) := by decide +kernel
theorem dX7_strangers_59 : decode cX7_strangers 59 = .ok (.getfield 133, 3) := by decide +kernel
theorem dX7_strangers_62 : decode cX7_strangers 62 = .ok (.bipush 30, 2) := by decide +kernel
theorem dX7_strangers_64 : decode cX7_strangers 64 = .ok (.isub, 1) := by decide +kernel
theorem dX7_strangers_65 : decode cX7_strangers 65 = .ok (.if_icmp .lt 15, 3) := by decide +kernel
theorem dX7_strangers_68 : decode cX7_strangers 68 = .ok (.iload_n 3, 1) := by decide +kernel
theorem dX7_strangers_69 : decode cX7_strangers 69 = .ok (.iconst 1, 1) := by decide +kernel
theorem dX7_strangers_70 : decode cX7_strangers 70 = .ok (.aload_n 0, 1) := by decide +kernel
theorem dX7_strangers_71 : decode cX7_strangers 71 = .ok (.getfield 69, 3) := by decide +kernel
theorem dX7_strangers_74 : decode cX7_strangers 74 = .ok (.iload 4, 2) := by decide +kernel
theorem dX7_strangers_76 : decode cX7_strangers 76 = .ok (.iaload, 1) := by decide +kernel
theorem dX7_strangers_77 : decode cX7_strangers 77 = .ok (.ishl, 1) := by decide +kernel
theorem dX7_strangers_78 : decode cX7_strangers 78 = .ok (.ior, 1) := by decide +kernel
theorem dX7_strangers_79 : decode cX7_strangers 79 = .ok (.istore_n 3, 1) := by decide +kernel
theorem dX7_strangers_80 : decode cX7_strangers 80 = .ok (.iinc 4 1, 3) := by decide +kernel
theorem dX7_strangers_83 : decode cX7_strangers 83 = .ok (.goto (-57), 3) := by decide +kernel
theorem dX7_strangers_86 : decode cX7_strangers 86 = .ok (.iload_n 3, 1) := by decide +kernel
theorem dX7_strangers_87 : decode cX7_strangers 87 = .ok (.invokestatic 165, 3) := by decide +kernel
theorem dX7_strangers_90 : decode cX7_strangers 90 = .ok (.ireturn, 1) := by decide +kernel
theorem dX7_look_0 : decode cX7_look 0 = .ok (.aload_n 0, 1) := by decide +kernel
theorem dX7_look_1 : decode cX7_look 1 = .ok (.iload_n 1, 1) := by decide +kernel
theorem dX7_look_2 : decode cX7_look 2 = .ok (.invokevirtual 126, 3) := by decide +kernel
theorem dX7_look_5 : decode cX7_look 5 = .ok (.ifCond .ne 5, 3) := by decide +kernel
theorem dX7_look_8 : decode cX7_look 8 = .ok (.iconst (-1), 1) := by decide +kernel
theorem dX7_look_9 : decode cX7_look 9 = .ok (.ireturn, 1) := by decide +kernel
theorem dX7_look_10 : decode cX7_look 10 = .ok (.iload_n 2, 1) := by decide +kernel
theorem dX7_look_11 : decode cX7_look 11 = .ok (.bipush 10, 2) := by decide +kernel
theorem dX7_look_13 : decode cX7_look 13 = .ok (.bipush 15, 2) := by decide +kernel
theorem dX7_look_15 : decode cX7_look 15 = .ok (.invokestatic 97, 3) := by decide +kernel
theorem dX7_look_18 : decode cX7_look 18 = .ok (.ifCond .eq 18, 3) := by decide +kernel
theorem dX7_look_21 : decode cX7_look 21 = .ok (.aload_n 0, 1) := by decide +kernel
theorem dX7_look_22 : decode cX7_look 22 = .ok (.getfield 29, 3) := by decide +kernel
theorem dX7_look_25 : decode cX7_look 25 = .ok (.bipush 6, 2) := by decide +kernel
theorem dX7_look_27 : decode cX7_look 27 = .ok (.iload_n 1, 1) := by decide +kernel
theorem dX7_look_28 : decode cX7_look 28 = .ok (.imul, 1) := by decide +kernel
theorem dX7_look_29 : decode cX7_look 29 = .ok (.iload_n 2, 1) := by decide +kernel
theorem dX7_look_30 : decode cX7_look 30 = .ok (.iadd, 1) := by decide +kernel
theorem dX7_look_31 : decode cX7_look 31 = .ok (.bipush 10, 2) := by decide +kernel
theorem dX7_look_33 : decode cX7_look 33 = .ok (.isub, 1) := by decide +kernel
theorem dX7_look_34 : decode cX7_look 34 = .ok (.iaload, 1) := by decide +kernel
theorem dX7_look_35 : decode cX7_look 35 = .ok (.ireturn, 1) := by decide +kernel
theorem dX7_look_36 : decode cX7_look 36 = .ok (.iload_n 2, 1) := by decide +kernel
theorem dX7_look_37 : decode cX7_look 37 = .ok (.tableswitch 114 0 8 #[51, 58, 65, 72, 79, 86, 93, 100, 107], 51) := by decide +kernel
theorem dX7_look_88 : decode cX7_look 88 = .ok (.aload_n 0, 1) := by decide +kernel
theorem dX7_look_89 : decode cX7_look 89 = .ok (.getfield 20, 3) := by decide +kernel
theorem dX7_look_92 : decode cX7_look 92 = .ok (.iload_n 1, 1) := by decide +kernel
theorem dX7_look_93 : decode cX7_look 93 = .ok (.iaload, 1) := by decide +kernel
theorem dX7_look_94 : decode cX7_look 94 = .ok (.ireturn, 1) := by decide +kernel
theorem dX7_look_95 : decode cX7_look 95 = .ok (.aload_n 0, 1) := by decide +kernel
theorem dX7_look_96 : decode cX7_look 96 = .ok (.getfield 23, 3) := by decide +kernel
theorem dX7_look_99 : decode cX7_look 99 = .ok (.iload_n 1, 1) := by decide +kernel
theorem dX7_look_100 : decode cX7_look 100 = .ok (.iaload, 1) := by decide +kernel
theorem dX7_look_101 : decode cX7_look 101 = .ok (.ireturn, 1) := by decide +kernel
theorem dX7_look_102 : decode cX7_look 102 = .ok (.aload_n 0, 1) := by decide +kernel
theorem dX7_look_103 : decode cX7_look 103 = .ok (.getfield 26, 3) := by decide +kernel
theorem dX7_look_106 : decode cX7_look 106 = .ok (.iload_n 1, 1) := by decide +kernel
theorem dX7_look_107 : decode cX7_look 107 = .ok (.iaload, 1) := by decide +kernel
theorem dX7_look_108 : decode cX7_look 108 = .ok (.ireturn, 1) := by decide +kernel
theorem dX7_look_109 : decode cX7_look 109 = .ok (.aload_n 0, 1) := by decide +kernel
theorem dX7_look_110 : decode cX7_look 110 = .ok (.getfield 38, 3) := by decide +kernel
theorem dX7_look_113 : decode cX7_look 113 = .ok (.iload_n 1, 1) := by decide +kernel
theorem dX7_look_114 : decode cX7_look 114 = .ok (.iaload, 1) := by decide +kernel
theorem dX7_look_115 : decode cX7_look 115 = .ok (.ireturn, 1) := by decide +kernel
theorem dX7_look_116 : decode cX7_look 116 = .ok (.aload_n 0, 1) := by decide +kernel
theorem dX7_look_117 : decode cX7_look 117 = .ok (.getfield 41, 3) := by decide +kernel
theorem dX7_look_120 : decode cX7_look 120 = .ok (.iload_n 1, 1) := by decide +kernel
theorem dX7_look_121 : decode cX7_look 121 = .ok (.iaload, 1) := by decide +kernel
theorem dX7_look_122 : decode cX7_look 122 = .ok (.ireturn, 1) := by decide +kernel
theorem dX7_look_123 : decode cX7_look 123 = .ok (.aload_n 0, 1) := by decide +kernel
theorem dX7_look_124 : decode cX7_look 124 = .ok (.getfield 44, 3) := by decide +kernel
theorem dX7_look_127 : decode cX7_look 127 = .ok (.iload_n 1, 1) := by decide +kernel
theorem dX7_look_128 : decode cX7_look 128 = .ok (.iaload, 1) := by decide +kernel
theorem dX7_look_129 : decode cX7_look 129 = .ok (.ireturn, 1) := by decide +kernel
theorem dX7_look_130 : decode cX7_look 130 = .ok (.aload_n 0, 1) := by decide +kernel
theorem dX7_look_131 : decode cX7_look 131 = .ok (.getfield 47, 3) := by decide +kernel
theorem dX7_look_134 : decode cX7_look 134 = .ok (.iload_n 1, 1) := by decide +kernel
theorem dX7_look_135 : decode cX7_look 135 = .ok (.iaload, 1) := by decide +kernel
theorem dX7_look_136 : decode cX7_look 136 = .ok (.ireturn, 1) := by decide +kernel
theorem dX7_look_137 : decode cX7_look 137 = .ok (.aload_n 0, 1) := by decide +kernel
theorem dX7_look_138 : decode cX7_look 138 = .ok (.getfield 32, 3) := by decide +kernel
theorem dX7_look_141 : decode cX7_look 141 = .ok (.iload_n 1, 1) := by decide +kernel
theorem dX7_look_142 : decode cX7_look 142 = .ok (.iaload, 1) := by decide +kernel
theorem dX7_look_143 : decode cX7_look 143 = .ok (.ireturn, 1) := by decide +kernel
theorem dX7_look_144 : decode cX7_look 144 = .ok (.aload_n 0, 1) := by decide +kernel
theorem dX7_look_145 : decode cX7_look 145 = .ok (.getfield 35, 3) := by decide +kernel
theorem dX7_look_148 : decode cX7_look 148 = .ok (.iload_n 1, 1) := by decide +kernel
theorem dX7_look_149 : decode cX7_look 149 = .ok (.iaload, 1) := by decide +kernel
theorem dX7_look_150 : decode cX7_look 150 = .ok (.ireturn, 1) := by decide +kernel
theorem dX7_look_151 : decode cX7_look 151 = .ok (.iconst (-1), 1) := by decide +kernel
theorem dX7_look_152 : decode cX7_look 152 = .ok (.ireturn, 1) := by decide +kernel
theorem dX7_about_0 : decode cX7_about 0 = .ok (.aload_n 0, 1) := by decide +kernel
theorem dX7_about_1 : decode cX7_about 1 = .ok (.iload_n 1, 1) := by decide +kernel
theorem dX7_about_2 : decode cX7_about 2 = .ok (.invokevirtual 136, 3) := by decide +kernel
theorem dX7_about_5 : decode cX7_about 5 = .ok (.ifCond .ne 5, 3) := by decide +kernel
theorem dX7_about_8 : decode cX7_about 8 = .ok (.iconst (-1), 1) := by decide +kernel
theorem dX7_about_9 : decode cX7_about 9 = .ok (.ireturn, 1) := by decide +kernel
theorem dX7_about_10 : decode cX7_about 10 = .ok (.iload_n 2, 1) := by decide +kernel
theorem dX7_about_11 : decode cX7_about 11 = .ok (.tableswitch 68 0 4 #[33, 40, 47, 54, 61], 33) := by decide +kernel
theorem dX7_about_44 : decode cX7_about 44 = .ok (.aload_n 0, 1) := by decide +kernel
theorem dX7_about_45 : decode cX7_about 45 = .ok (.getfield 54, 3) := by decide +kernel
theorem dX7_about_48 : decode cX7_about 48 = .ok (.iload_n 1, 1) := by decide +kernel
theorem dX7_about_49 : decode cX7_about 49 = .ok (.iaload, 1) := by decide +kernel
theorem dX7_about_50 : decode cX7_about 50 = .ok (.ireturn, 1) := by decide +kernel
theorem dX7_about_51 : decode cX7_about 51 = .ok (.aload_n 0, 1) := by decide +kernel
theorem dX7_about_52 : decode cX7_about 52 = .ok (.getfield 57, 3) := by decide +kernel
theorem dX7_about_55 : decode cX7_about 55 = .ok (.iload_n 1, 1) := by decide +kernel
theorem dX7_about_56 : decode cX7_about 56 = .ok (.iaload, 1) := by decide +kernel
theorem dX7_about_57 : decode cX7_about 57 = .ok (.ireturn, 1) := by decide +kernel
theorem dX7_about_58 : decode cX7_about 58 = .ok (.aload_n 0, 1) := by decide +kernel
theorem dX7_about_59 : decode cX7_about 59 = .ok (.getfield 60, 3) := by decide +kernel
theorem dX7_about_62 : decode cX7_about 62 = .ok (.iload_n 1, 1) := by decide +kernel
theorem dX7_about_63 : decode cX7_about 63 = .ok (.iaload, 1) := by decide +kernel
theorem dX7_about_64 : decode cX7_about 64 = .ok (.ireturn, 1) := by decide +kernel
theorem dX7_about_65 : decode cX7_about 65 = .ok (.aload_n 0, 1) := by decide +kernel
theorem dX7_about_66 : decode cX7_about 66 = .ok (.getfield 63, 3) := by decide +kernel
theorem dX7_about_69 : decode cX7_about 69 = .ok (.iload_n 1, 1) := by decide +kernel
theorem dX7_about_70 : decode cX7_about 70 = .ok (.iaload, 1) := by decide +kernel
theorem dX7_about_71 : decode cX7_about 71 = .ok (.ireturn, 1) := by decide +kernel
theorem dX7_about_72 : decode cX7_about 72 = .ok (.aload_n 0, 1) := by decide +kernel
theorem dX7_about_73 : decode cX7_about 73 = .ok (.getfield 66, 3) := by decide +kernel
theorem dX7_about_76 : decode cX7_about 76 = .ok (.iload_n 1, 1) := by decide +kernel
theorem dX7_about_77 : decode cX7_about 77 = .ok (.iaload, 1) := by decide +kernel
theorem dX7_about_78 : decode cX7_about 78 = .ok (.ireturn, 1) := by decide +kernel
theorem dX7_about_79 : decode cX7_about 79 = .ok (.iconst (-1), 1) := by decide +kernel
theorem dX7_about_80 : decode cX7_about 80 = .ok (.ireturn, 1) := by decide +kernel
theorem dX7_thoseWho_0 : decode cX7_thoseWho 0 = .ok (.iconst 0, 1) := by decide +kernel
theorem dX7_thoseWho_1 : decode cX7_thoseWho 1 = .ok (.istore_n 2, 1) := by decide +kernel
theorem dX7_thoseWho_2 : decode cX7_thoseWho 2 = .ok (.iconst 0, 1) := by decide +kernel
theorem dX7_thoseWho_3 : decode cX7_thoseWho 3 = .ok (.istore_n 3, 1) := by decide +kernel
theorem dX7_thoseWho_4 : decode cX7_thoseWho 4 = .ok (.iload_n 3, 1) := by decide +kernel
theorem dX7_thoseWho_5 : decode cX7_thoseWho 5 = .ok (.aload_n 0, 1) := by decide +kernel
theorem dX7_thoseWho_6 : decode cX7_thoseWho 6 = .ok (.getfield 120, 3) := by decide +kernel
theorem dX7_thoseWho_9 : decode cX7_thoseWho 9 = .ok (.if_icmp .ge 27, 3) := by decide +kernel
theorem dX7_thoseWho_12 : decode cX7_thoseWho 12 = .ok (.iload_n 2, 1) := by decide +kernel
theorem dX7_thoseWho_13 : decode cX7_thoseWho 13 = .ok (.aload_n 0, 1) := by decide +kernel
theorem dX7_thoseWho_14 : decode cX7_thoseWho 14 = .ok (.getfield 38, 3) := by decide +kernel
theorem dX7_thoseWho_17 : decode cX7_thoseWho 17 = .ok (.iload_n 3, 1) := by decide +kernel
theorem dX7_thoseWho_18 : decode cX7_thoseWho 18 = .ok (.iaload, 1) := by decide +kernel
theorem dX7_thoseWho_19 : decode cX7_thoseWho 19 = .ok (.iload_n 1, 1) := by decide +kernel
theorem dX7_thoseWho_20 : decode cX7_thoseWho 20 = .ok (.if_icmp .ne 7, 3) := by decide +kernel
theorem dX7_thoseWho_23 : decode cX7_thoseWho 23 = .ok (.iconst 1, 1) := by decide +kernel
theorem dX7_thoseWho_24 : decode cX7_thoseWho 24 = .ok (.goto 4, 3) := by decide +kernel
theorem dX7_thoseWho_27 : decode cX7_thoseWho 27 = .ok (.iconst 0, 1) := by decide +kernel
theorem dX7_thoseWho_28 : decode cX7_thoseWho 28 = .ok (.iadd, 1) := by decide +kernel
theorem dX7_thoseWho_29 : decode cX7_thoseWho 29 = .ok (.istore_n 2, 1) := by decide +kernel
theorem dX7_thoseWho_30 : decode cX7_thoseWho 30 = .ok (.iinc 3 1, 3) := by decide +kernel
theorem dX7_thoseWho_33 : decode cX7_thoseWho 33 = .ok (.goto (-29), 3) := by decide +kernel
theorem dX7_thoseWho_36 : decode cX7_thoseWho 36 = .ok (.iload_n 2, 1) := by decide +kernel
theorem dX7_thoseWho_37 : decode cX7_thoseWho 37 = .ok (.ireturn, 1) := by decide +kernel
theorem dX7_count_0 : decode cX7_count 0 = .ok (.iload_n 1, 1) := by decide +kernel
theorem dX7_count_1 : decode cX7_count 1 = .ok (.bipush 10, 2) := by decide +kernel
theorem dX7_count_3 : decode cX7_count 3 = .ok (.bipush 16, 2) := by decide +kernel
theorem dX7_count_5 : decode cX7_count 5 = .ok (.invokestatic 97, 3) := by decide +kernel
theorem dX7_count_8 : decode cX7_count 8 = .ok (.ifCond .eq 13, 3) := by decide +kernel
theorem dX7_count_11 : decode cX7_count 11 = .ok (.aload_n 0, 1) := by decide +kernel
theorem dX7_count_12 : decode cX7_count 12 = .ok (.getfield 13, 3) := by decide +kernel
theorem dX7_count_15 : decode cX7_count 15 = .ok (.iload_n 1, 1) := by decide +kernel
theorem dX7_count_16 : decode cX7_count 16 = .ok (.bipush 10, 2) := by decide +kernel
theorem dX7_count_18 : decode cX7_count 18 = .ok (.isub, 1) := by decide +kernel
theorem dX7_count_19 : decode cX7_count 19 = .ok (.iaload, 1) := by decide +kernel
theorem dX7_count_20 : decode cX7_count 20 = .ok (.ireturn, 1) := by decide +kernel
theorem dX7_count_21 : decode cX7_count 21 = .ok (.iload_n 1, 1) := by decide +kernel
theorem dX7_count_22 : decode cX7_count 22 = .ok (.tableswitch 79 0 6 #[42, 47, 52, 57, 63, 69, 74], 42) := by decide +kernel
theorem dX7_count_64 : decode cX7_count 64 = .ok (.aload_n 0, 1) := by decide +kernel
theorem dX7_count_65 : decode cX7_count 65 = .ok (.getfield 133, 3) := by decide +kernel
theorem dX7_count_68 : decode cX7_count 68 = .ok (.ireturn, 1) := by decide +kernel
theorem dX7_count_69 : decode cX7_count 69 = .ok (.aload_n 0, 1) := by decide +kernel
theorem dX7_count_70 : decode cX7_count 70 = .ok (.getfield 120, 3) := by decide +kernel
theorem dX7_count_73 : decode cX7_count 73 = .ok (.ireturn, 1) := by decide +kernel
theorem dX7_count_74 : decode cX7_count 74 = .ok (.aload_n 0, 1) := by decide +kernel
theorem dX7_count_75 : decode cX7_count 75 = .ok (.getfield 123, 3) := by decide +kernel
theorem dX7_count_78 : decode cX7_count 78 = .ok (.ireturn, 1) := by decide +kernel
theorem dX7_count_79 : decode cX7_count 79 = .ok (.aload_n 0, 1) := by decide +kernel
theorem dX7_count_80 : decode cX7_count 80 = .ok (.iconst 1, 1) := by decide +kernel
theorem dX7_count_81 : decode cX7_count 81 = .ok (.invokevirtual 178, 3) := by decide +kernel
theorem dX7_count_84 : decode cX7_count 84 = .ok (.ireturn, 1) := by decide +kernel
theorem dX7_count_85 : decode cX7_count 85 = .ok (.aload_n 0, 1) := by decide +kernel
theorem dX7_count_86 : decode cX7_count 86 = .ok (.iconst 2, 1) := by decide +kernel
theorem dX7_count_87 : decode cX7_count 87 = .ok (.invokevirtual 178, 3) := by decide +kernel
theorem dX7_count_90 : decode cX7_count 90 = .ok (.ireturn, 1) := by decide +kernel
theorem dX7_count_91 : decode cX7_count 91 = .ok (.aload_n 0, 1) := by decide +kernel
theorem dX7_count_92 : decode cX7_count 92 = .ok (.getfield 89, 3) := by decide +kernel
theorem dX7_count_95 : decode cX7_count 95 = .ok (.ireturn, 1) := by decide +kernel
theorem dX7_count_96 : decode cX7_count 96 = .ok (.aload_n 0, 1) := by decide +kernel
theorem dX7_count_97 : decode cX7_count 97 = .ok (.invokevirtual 174, 3) := by decide +kernel
theorem dX7_count_100 : decode cX7_count 100 = .ok (.ireturn, 1) := by decide +kernel
theorem dX7_count_101 : decode cX7_count 101 = .ok (.iconst (-1), 1) := by decide +kernel
theorem dX7_count_102 : decode cX7_count 102 = .ok (.ireturn, 1) := by decide +kernel
end
section
theorem dL_law_0 : decode cL_law 0 = .ok (.new 7, 3) := by decide +kernel
theorem dL_law_3 : decode cL_law 3 = .ok (.dup, 1) := by decide +kernel
theorem dL_law_4 : decode cL_law 4 = .ok (.invokespecial 9, 3) := by decide +kernel
theorem dL_law_7 : decode cL_law 7 = .ok (.astore_n 1, 1) := by decide +kernel
theorem dL_law_8 : decode cL_law 8 = .ok (.new 10, 3) := by decide +kernel
theorem dL_law_11 : decode cL_law 11 = .ok (.dup, 1) := by decide +kernel
theorem dL_law_12 : decode cL_law 12 = .ok (.invokespecial 12, 3) := by decide +kernel
theorem dL_law_15 : decode cL_law 15 = .ok (.astore_n 2, 1) := by decide +kernel
theorem dL_law_16 : decode cL_law 16 = .ok (.iconst 0, 1) := by decide +kernel
theorem dL_law_17 : decode cL_law 17 = .ok (.istore_n 3, 1) := by decide +kernel
theorem dL_law_18 : decode cL_law 18 = .ok (.iload_n 3, 1) := by decide +kernel
theorem dL_law_19 : decode cL_law 19 = .ok (.aload_n 0, 1) := by decide +kernel
theorem dL_law_20 : decode cL_law 20 = .ok (.arraylength, 1) := by decide +kernel
theorem dL_law_21 : decode cL_law 21 = .ok (.bipush 6, 2) := by decide +kernel
theorem dL_law_23 : decode cL_law 23 = .ok (.isub, 1) := by decide +kernel
theorem dL_law_24 : decode cL_law 24 = .ok (.if_icmp .gt 721, 3) := by decide +kernel
theorem dL_law_27 : decode cL_law 27 = .ok (.aload_n 0, 1) := by decide +kernel
theorem dL_law_28 : decode cL_law 28 = .ok (.iload_n 3, 1) := by decide +kernel
theorem dL_law_29 : decode cL_law 29 = .ok (.iaload, 1) := by decide +kernel
theorem dL_law_30 : decode cL_law 30 = .ok (.bipush 31, 2) := by decide +kernel
theorem dL_law_32 : decode cL_law 32 = .ok (.iand, 1) := by decide +kernel
theorem dL_law_33 : decode cL_law 33 = .ok (.tableswitch 706 0 19 #[95, 158, 181, 224, 267, 310, 373, 406, 439, 452, 465, 488, 501, 534, 547, 560, 584, 617, 650, 683], 95) := by decide +kernel
theorem dL_law_128 : decode cL_law 128 = .ok (.aload_n 1, 1) := by decide +kernel
theorem dL_law_129 : decode cL_law 129 = .ok (.aload_n 0, 1) := by decide +kernel
theorem dL_law_130 : decode cL_law 130 = .ok (.iload_n 3, 1) := by decide +kernel
theorem dL_law_131 : decode cL_law 131 = .ok (.iconst 1, 1) := by decide +kernel
theorem dL_law_132 : decode cL_law 132 = .ok (.iadd, 1) := by decide +kernel
theorem dL_law_133 : decode cL_law 133 = .ok (.iaload, 1) := by decide +kernel
theorem dL_law_134 : decode cL_law 134 = .ok (.aload_n 0, 1) := by decide +kernel
theorem dL_law_135 : decode cL_law 135 = .ok (.iload_n 3, 1) := by decide +kernel
theorem dL_law_136 : decode cL_law 136 = .ok (.iconst 2, 1) := by decide +kernel
theorem dL_law_137 : decode cL_law 137 = .ok (.iadd, 1) := by decide +kernel
theorem dL_law_138 : decode cL_law 138 = .ok (.iaload, 1) := by decide +kernel
theorem dL_law_139 : decode cL_law 139 = .ok (.aload_n 0, 1) := by decide +kernel
theorem dL_law_140 : decode cL_law 140 = .ok (.iload_n 3, 1) := by decide +kernel
theorem dL_law_141 : decode cL_law 141 = .ok (.iconst 3, 1) := by decide +kernel
theorem dL_law_142 : decode cL_law 142 = .ok (.iadd, 1) := by decide +kernel
theorem dL_law_143 : decode cL_law 143 = .ok (.iaload, 1) := by decide +kernel
theorem dL_law_144 : decode cL_law 144 = .ok (.aload_n 0, 1) := by decide +kernel
theorem dL_law_145 : decode cL_law 145 = .ok (.iload_n 3, 1) := by decide +kernel
theorem dL_law_146 : decode cL_law 146 = .ok (.iconst 4, 1) := by decide +kernel
theorem dL_law_147 : decode cL_law 147 = .ok (.iadd, 1) := by decide +kernel
theorem dL_law_148 : decode cL_law 148 = .ok (.iaload, 1) := by decide +kernel
theorem dL_law_149 : decode cL_law 149 = .ok (.aload_n 0, 1) := by decide +kernel
theorem dL_law_150 : decode cL_law 150 = .ok (.iload_n 3, 1) := by decide +kernel
theorem dL_law_151 : decode cL_law 151 = .ok (.iconst 5, 1) := by decide +kernel
theorem dL_law_152 : decode cL_law 152 = .ok (.iadd, 1) := by decide +kernel
theorem dL_law_153 : decode cL_law 153 = .ok (.iaload, 1) := by decide +kernel
theorem dL_law_154 : decode cL_law 154 = .ok (.invokevirtual 13, 3) := by decide +kernel
theorem dL_law_157 : decode cL_law 157 = .ok (.aload_n 2, 1) := by decide +kernel
theorem dL_law_158 : decode cL_law 158 = .ok (.aload_n 0, 1) := by decide +kernel
theorem dL_law_159 : decode cL_law 159 = .ok (.iload_n 3, 1) := by decide +kernel
theorem dL_law_160 : decode cL_law 160 = .ok (.iconst 1, 1) := by decide +kernel
theorem dL_law_161 : decode cL_law 161 = .ok (.iadd, 1) := by decide +kernel
theorem dL_law_162 : decode cL_law 162 = .ok (.iaload, 1) := by decide +kernel
theorem dL_law_163 : decode cL_law 163 = .ok (.aload_n 0, 1) := by decide +kernel
theorem dL_law_164 : decode cL_law 164 = .ok (.iload_n 3, 1) := by decide +kernel
theorem dL_law_165 : decode cL_law 165 = .ok (.iconst 2, 1) := by decide +kernel
theorem dL_law_166 : decode cL_law 166 = .ok (.iadd, 1) := by decide +kernel
theorem dL_law_167 : decode cL_law 167 = .ok (.iaload, 1) := by decide +kernel
theorem dL_law_168 : decode cL_law 168 = .ok (.aload_n 0, 1) := by decide +kernel
theorem dL_law_169 : decode cL_law 169 = .ok (.iload_n 3, 1) := by decide +kernel
theorem dL_law_170 : decode cL_law 170 = .ok (.iconst 3, 1) := by decide +kernel
theorem dL_law_171 : decode cL_law 171 = .ok (.iadd, 1) := by decide +kernel
theorem dL_law_172 : decode cL_law 172 = .ok (.iaload, 1) := by decide +kernel
theorem dL_law_173 : decode cL_law 173 = .ok (.aload_n 0, 1) := by decide +kernel
theorem dL_law_174 : decode cL_law 174 = .ok (.iload_n 3, 1) := by decide +kernel
theorem dL_law_175 : decode cL_law 175 = .ok (.iconst 4, 1) := by decide +kernel
theorem dL_law_176 : decode cL_law 176 = .ok (.iadd, 1) := by decide +kernel
theorem dL_law_177 : decode cL_law 177 = .ok (.iaload, 1) := by decide +kernel
theorem dL_law_178 : decode cL_law 178 = .ok (.aload_n 0, 1) := by decide +kernel
theorem dL_law_179 : decode cL_law 179 = .ok (.iload_n 3, 1) := by decide +kernel
theorem dL_law_180 : decode cL_law 180 = .ok (.iconst 5, 1) := by decide +kernel
theorem dL_law_181 : decode cL_law 181 = .ok (.iadd, 1) := by decide +kernel
theorem dL_law_182 : decode cL_law 182 = .ok (.iaload, 1) := by decide +kernel
theorem dL_law_183 : decode cL_law 183 = .ok (.invokevirtual 17, 3) := by decide +kernel
theorem dL_law_186 : decode cL_law 186 = .ok (.if_icmp .eq 553, 3) := by decide +kernel
theorem dL_law_189 : decode cL_law 189 = .ok (.iconst 0, 1) := by decide +kernel
theorem dL_law_190 : decode cL_law 190 = .ok (.ireturn, 1) := by decide +kernel
theorem dL_law_191 : decode cL_law 191 = .ok (.aload_n 1, 1) := by decide +kernel
theorem dL_law_192 : decode cL_law 192 = .ok (.aload_n 0, 1) := by decide +kernel
theorem dL_law_193 : decode cL_law 193 = .ok (.iload_n 3, 1) := by decide +kernel
theorem dL_law_194 : decode cL_law 194 = .ok (.iconst 1, 1) := by decide +kernel
theorem dL_law_195 : decode cL_law 195 = .ok (.iadd, 1) := by decide +kernel
theorem dL_law_196 : decode cL_law 196 = .ok (.iaload, 1) := by decide +kernel
theorem dL_law_197 : decode cL_law 197 = .ok (.invokevirtual 18, 3) := by decide +kernel
theorem dL_law_200 : decode cL_law 200 = .ok (.aload_n 2, 1) := by decide +kernel
theorem dL_law_201 : decode cL_law 201 = .ok (.aload_n 0, 1) := by decide +kernel
theorem dL_law_202 : decode cL_law 202 = .ok (.iload_n 3, 1) := by decide +kernel
theorem dL_law_203 : decode cL_law 203 = .ok (.iconst 1, 1) := by decide +kernel
theorem dL_law_204 : decode cL_law 204 = .ok (.iadd, 1) := by decide +kernel
theorem dL_law_205 : decode cL_law 205 = .ok (.iaload, 1) := by decide +kernel
theorem dL_law_206 : decode cL_law 206 = .ok (.invokevirtual 22, 3) := by decide +kernel
theorem dL_law_209 : decode cL_law 209 = .ok (.if_icmp .eq 530, 3) := by decide +kernel
theorem dL_law_212 : decode cL_law 212 = .ok (.iconst 0, 1) := by decide +kernel
theorem dL_law_213 : decode cL_law 213 = .ok (.ireturn, 1) := by decide +kernel
theorem dL_law_214 : decode cL_law 214 = .ok (.aload_n 1, 1) := by decide +kernel
theorem dL_law_215 : decode cL_law 215 = .ok (.aload_n 0, 1) := by decide +kernel
theorem dL_law_216 : decode cL_law 216 = .ok (.iload_n 3, 1) := by decide +kernel
theorem dL_law_217 : decode cL_law 217 = .ok (.iconst 1, 1) := by decide +kernel
theorem dL_law_218 : decode cL_law 218 = .ok (.iadd, 1) := by decide +kernel
theorem dL_law_219 : decode cL_law 219 = .ok (.iaload, 1) := by decide +kernel
theorem dL_law_220 : decode cL_law 220 = .ok (.aload_n 0, 1) := by decide +kernel
theorem dL_law_221 : decode cL_law 221 = .ok (.iload_n 3, 1) := by decide +kernel
theorem dL_law_222 : decode cL_law 222 = .ok (.iconst 2, 1) := by decide +kernel
theorem dL_law_223 : decode cL_law 223 = .ok (.iadd, 1) := by decide +kernel
theorem dL_law_224 : decode cL_law 224 = .ok (.iaload, 1) := by decide +kernel
theorem dL_law_225 : decode cL_law 225 = .ok (.aload_n 0, 1) := by decide +kernel
theorem dL_law_226 : decode cL_law 226 = .ok (.iload_n 3, 1) := by decide +kernel
theorem dL_law_227 : decode cL_law 227 = .ok (.iconst 3, 1) := by decide +kernel
theorem dL_law_228 : decode cL_law 228 = .ok (.iadd, 1) := by decide +kernel
theorem dL_law_229 : decode cL_law 229 = .ok (.iaload, 1) := by decide +kernel
theorem dL_law_230 : decode cL_law 230 = .ok (.invokevirtual 23, 3) := by decide +kernel
theorem dL_law_233 : decode cL_law 233 = .ok (.aload_n 2, 1) := by decide +kernel
theorem dL_law_234 : decode cL_law 234 = .ok (.aload_n 0, 1) := by decide +kernel
theorem dL_law_235 : decode cL_law 235 = .ok (.iload_n 3, 1) := by decide +kernel
theorem dL_law_236 : decode cL_law 236 = .ok (.iconst 1, 1) := by decide +kernel
theorem dL_law_237 : decode cL_law 237 = .ok (.iadd, 1) := by decide +kernel
theorem dL_law_238 : decode cL_law 238 = .ok (.iaload, 1) := by decide +kernel
theorem dL_law_239 : decode cL_law 239 = .ok (.aload_n 0, 1) := by decide +kernel
theorem dL_law_240 : decode cL_law 240 = .ok (.iload_n 3, 1) := by decide +kernel
theorem dL_law_241 : decode cL_law 241 = .ok (.iconst 2, 1) := by decide +kernel
theorem dL_law_242 : decode cL_law 242 = .ok (.iadd, 1) := by decide +kernel
theorem dL_law_243 : decode cL_law 243 = .ok (.iaload, 1) := by decide +kernel
theorem dL_law_244 : decode cL_law 244 = .ok (.aload_n 0, 1) := by decide +kernel
theorem dL_law_245 : decode cL_law 245 = .ok (.iload_n 3, 1) := by decide +kernel
theorem dL_law_246 : decode cL_law 246 = .ok (.iconst 3, 1) := by decide +kernel
theorem dL_law_247 : decode cL_law 247 = .ok (.iadd, 1) := by decide +kernel
theorem dL_law_248 : decode cL_law 248 = .ok (.iaload, 1) := by decide +kernel
theorem dL_law_249 : decode cL_law 249 = .ok (.invokevirtual 27, 3) := by decide +kernel
theorem dL_law_252 : decode cL_law 252 = .ok (.if_icmp .eq 487, 3) := by decide +kernel
theorem dL_law_255 : decode cL_law 255 = .ok (.iconst 0, 1) := by decide +kernel
theorem dL_law_256 : decode cL_law 256 = .ok (.ireturn, 1) := by decide +kernel
theorem dL_law_257 : decode cL_law 257 = .ok (.aload_n 1, 1) := by decide +kernel
theorem dL_law_258 : decode cL_law 258 = .ok (.aload_n 0, 1) := by decide +kernel
theorem dL_law_259 : decode cL_law 259 = .ok (.iload_n 3, 1) := by decide +kernel
theorem dL_law_260 : decode cL_law 260 = .ok (.iconst 1, 1) := by decide +kernel
theorem dL_law_261 : decode cL_law 261 = .ok (.iadd, 1) := by decide +kernel
theorem dL_law_262 : decode cL_law 262 = .ok (.iaload, 1) := by decide +kernel
theorem dL_law_263 : decode cL_law 263 = .ok (.aload_n 0, 1) := by decide +kernel
theorem dL_law_264 : decode cL_law 264 = .ok (.iload_n 3, 1) := by decide +kernel
theorem dL_law_265 : decode cL_law 265 = .ok (.iconst 2, 1) := by decide +kernel
theorem dL_law_266 : decode cL_law 266 = .ok (.iadd, 1) := by decide +kernel
theorem dL_law_267 : decode cL_law 267 = .ok (.iaload, 1) := by decide +kernel
theorem dL_law_268 : decode cL_law 268 = .ok (.aload_n 0, 1) := by decide +kernel
theorem dL_law_269 : decode cL_law 269 = .ok (.iload_n 3, 1) := by decide +kernel
theorem dL_law_270 : decode cL_law 270 = .ok (.iconst 3, 1) := by decide +kernel
theorem dL_law_271 : decode cL_law 271 = .ok (.iadd, 1) := by decide +kernel
theorem dL_law_272 : decode cL_law 272 = .ok (.iaload, 1) := by decide +kernel
theorem dL_law_273 : decode cL_law 273 = .ok (.invokevirtual 28, 3) := by decide +kernel
theorem dL_law_276 : decode cL_law 276 = .ok (.aload_n 2, 1) := by decide +kernel
theorem dL_law_277 : decode cL_law 277 = .ok (.aload_n 0, 1) := by decide +kernel
theorem dL_law_278 : decode cL_law 278 = .ok (.iload_n 3, 1) := by decide +kernel
theorem dL_law_279 : decode cL_law 279 = .ok (.iconst 1, 1) := by decide +kernel
theorem dL_law_280 : decode cL_law 280 = .ok (.iadd, 1) := by decide +kernel
theorem dL_law_281 : decode cL_law 281 = .ok (.iaload, 1) := by decide +kernel
theorem dL_law_282 : decode cL_law 282 = .ok (.aload_n 0, 1) := by decide +kernel
theorem dL_law_283 : decode cL_law 283 = .ok (.iload_n 3, 1) := by decide +kernel
theorem dL_law_284 : decode cL_law 284 = .ok (.iconst 2, 1) := by decide +kernel
theorem dL_law_285 : decode cL_law 285 = .ok (.iadd, 1) := by decide +kernel
theorem dL_law_286 : decode cL_law 286 = .ok (.iaload, 1) := by decide +kernel
theorem dL_law_287 : decode cL_law 287 = .ok (.aload_n 0, 1) := by decide +kernel
theorem dL_law_288 : decode cL_law 288 = .ok (.iload_n 3, 1) := by decide +kernel
theorem dL_law_289 : decode cL_law 289 = .ok (.iconst 3, 1) := by decide +kernel
theorem dL_law_290 : decode cL_law 290 = .ok (.iadd, 1) := by decide +kernel
theorem dL_law_291 : decode cL_law 291 = .ok (.iaload, 1) := by decide +kernel
theorem dL_law_292 : decode cL_law 292 = .ok (.invokevirtual 32, 3) := by decide +kernel
theorem dL_law_295 : decode cL_law 295 = .ok (.if_icmp .eq 444, 3) := by decide +kernel
theorem dL_law_298 : decode cL_law 298 = .ok (.iconst 0, 1) := by decide +kernel
theorem dL_law_299 : decode cL_law 299 = .ok (.ireturn, 1) := by decide +kernel
theorem dL_law_300 : decode cL_law 300 = .ok (.aload_n 1, 1) := by decide +kernel
theorem dL_law_301 : decode cL_law 301 = .ok (.aload_n 0, 1) := by decide +kernel
theorem dL_law_302 : decode cL_law 302 = .ok (.iload_n 3, 1) := by decide +kernel
theorem dL_law_303 : decode cL_law 303 = .ok (.iconst 1, 1) := by decide +kernel
theorem dL_law_304 : decode cL_law 304 = .ok (.iadd, 1) := by decide +kernel
theorem dL_law_305 : decode cL_law 305 = .ok (.iaload, 1) := by decide +kernel
theorem dL_law_306 : decode cL_law 306 = .ok (.aload_n 0, 1) := by decide +kernel
theorem dL_law_307 : decode cL_law 307 = .ok (.iload_n 3, 1) := by decide +kernel
theorem dL_law_308 : decode cL_law 308 = .ok (.iconst 2, 1) := by decide +kernel
theorem dL_law_309 : decode cL_law 309 = .ok (.iadd, 1) := by decide +kernel
theorem dL_law_310 : decode cL_law 310 = .ok (.iaload, 1) := by decide +kernel
theorem dL_law_311 : decode cL_law 311 = .ok (.aload_n 0, 1) := by decide +kernel
theorem dL_law_312 : decode cL_law 312 = .ok (.iload_n 3, 1) := by decide +kernel
theorem dL_law_313 : decode cL_law 313 = .ok (.iconst 3, 1) := by decide +kernel
theorem dL_law_314 : decode cL_law 314 = .ok (.iadd, 1) := by decide +kernel
theorem dL_law_315 : decode cL_law 315 = .ok (.iaload, 1) := by decide +kernel
theorem dL_law_316 : decode cL_law 316 = .ok (.invokevirtual 33, 3) := by decide +kernel
theorem dL_law_319 : decode cL_law 319 = .ok (.aload_n 2, 1) := by decide +kernel
theorem dL_law_320 : decode cL_law 320 = .ok (.aload_n 0, 1) := by decide +kernel
theorem dL_law_321 : decode cL_law 321 = .ok (.iload_n 3, 1) := by decide +kernel
theorem dL_law_322 : decode cL_law 322 = .ok (.iconst 1, 1) := by decide +kernel
theorem dL_law_323 : decode cL_law 323 = .ok (.iadd, 1) := by decide +kernel
theorem dL_law_324 : decode cL_law 324 = .ok (.iaload, 1) := by decide +kernel
theorem dL_law_325 : decode cL_law 325 = .ok (.aload_n 0, 1) := by decide +kernel
theorem dL_law_326 : decode cL_law 326 = .ok (.iload_n 3, 1) := by decide +kernel
theorem dL_law_327 : decode cL_law 327 = .ok (.iconst 2, 1) := by decide +kernel
theorem dL_law_328 : decode cL_law 328 = .ok (.iadd, 1) := by decide +kernel
theorem dL_law_329 : decode cL_law 329 = .ok (.iaload, 1) := by decide +kernel
theorem dL_law_330 : decode cL_law 330 = .ok (.aload_n 0, 1) := by decide +kernel
theorem dL_law_331 : decode cL_law 331 = .ok (.iload_n 3, 1) := by decide +kernel
theorem dL_law_332 : decode cL_law 332 = .ok (.iconst 3, 1) := by decide +kernel
theorem dL_law_333 : decode cL_law 333 = .ok (.iadd, 1) := by decide +kernel
theorem dL_law_334 : decode cL_law 334 = .ok (.iaload, 1) := by decide +kernel
theorem dL_law_335 : decode cL_law 335 = .ok (.invokevirtual 36, 3) := by decide +kernel
theorem dL_law_338 : decode cL_law 338 = .ok (.if_icmp .eq 401, 3) := by decide +kernel
theorem dL_law_341 : decode cL_law 341 = .ok (.iconst 0, 1) := by decide +kernel
theorem dL_law_342 : decode cL_law 342 = .ok (.ireturn, 1) := by decide +kernel
theorem dL_law_343 : decode cL_law 343 = .ok (.aload_n 1, 1) := by decide +kernel
theorem dL_law_344 : decode cL_law 344 = .ok (.aload_n 0, 1) := by decide +kernel
theorem dL_law_345 : decode cL_law 345 = .ok (.iload_n 3, 1) := by decide +kernel
theorem dL_law_346 : decode cL_law 346 = .ok (.iconst 1, 1) := by decide +kernel
theorem dL_law_347 : decode cL_law 347 = .ok (.iadd, 1) := by decide +kernel
theorem dL_law_348 : decode cL_law 348 = .ok (.iaload, 1) := by decide +kernel
theorem dL_law_349 : decode cL_law 349 = .ok (.aload_n 0, 1) := by decide +kernel
theorem dL_law_350 : decode cL_law 350 = .ok (.iload_n 3, 1) := by decide +kernel
theorem dL_law_351 : decode cL_law 351 = .ok (.iconst 2, 1) := by decide +kernel
theorem dL_law_352 : decode cL_law 352 = .ok (.iadd, 1) := by decide +kernel
theorem dL_law_353 : decode cL_law 353 = .ok (.iaload, 1) := by decide +kernel
theorem dL_law_354 : decode cL_law 354 = .ok (.aload_n 0, 1) := by decide +kernel
theorem dL_law_355 : decode cL_law 355 = .ok (.iload_n 3, 1) := by decide +kernel
theorem dL_law_356 : decode cL_law 356 = .ok (.iconst 3, 1) := by decide +kernel
theorem dL_law_357 : decode cL_law 357 = .ok (.iadd, 1) := by decide +kernel
theorem dL_law_358 : decode cL_law 358 = .ok (.iaload, 1) := by decide +kernel
theorem dL_law_359 : decode cL_law 359 = .ok (.aload_n 0, 1) := by decide +kernel
theorem dL_law_360 : decode cL_law 360 = .ok (.iload_n 3, 1) := by decide +kernel
theorem dL_law_361 : decode cL_law 361 = .ok (.iconst 4, 1) := by decide +kernel
theorem dL_law_362 : decode cL_law 362 = .ok (.iadd, 1) := by decide +kernel
theorem dL_law_363 : decode cL_law 363 = .ok (.iaload, 1) := by decide +kernel
theorem dL_law_364 : decode cL_law 364 = .ok (.aload_n 0, 1) := by decide +kernel
theorem dL_law_365 : decode cL_law 365 = .ok (.iload_n 3, 1) := by decide +kernel
theorem dL_law_366 : decode cL_law 366 = .ok (.iconst 5, 1) := by decide +kernel
theorem dL_law_367 : decode cL_law 367 = .ok (.iadd, 1) := by decide +kernel
theorem dL_law_368 : decode cL_law 368 = .ok (.iaload, 1) := by decide +kernel
theorem dL_law_369 : decode cL_law 369 = .ok (.invokevirtual 37, 3) := by decide +kernel
theorem dL_law_372 : decode cL_law 372 = .ok (.aload_n 2, 1) := by decide +kernel
theorem dL_law_373 : decode cL_law 373 = .ok (.aload_n 0, 1) := by decide +kernel
theorem dL_law_374 : decode cL_law 374 = .ok (.iload_n 3, 1) := by decide +kernel
theorem dL_law_375 : decode cL_law 375 = .ok (.iconst 1, 1) := by decide +kernel
theorem dL_law_376 : decode cL_law 376 = .ok (.iadd, 1) := by decide +kernel
theorem dL_law_377 : decode cL_law 377 = .ok (.iaload, 1) := by decide +kernel
theorem dL_law_378 : decode cL_law 378 = .ok (.aload_n 0, 1) := by decide +kernel
theorem dL_law_379 : decode cL_law 379 = .ok (.iload_n 3, 1) := by decide +kernel
theorem dL_law_380 : decode cL_law 380 = .ok (.iconst 2, 1) := by decide +kernel
theorem dL_law_381 : decode cL_law 381 = .ok (.iadd, 1) := by decide +kernel
theorem dL_law_382 : decode cL_law 382 = .ok (.iaload, 1) := by decide +kernel
theorem dL_law_383 : decode cL_law 383 = .ok (.aload_n 0, 1) := by decide +kernel
theorem dL_law_384 : decode cL_law 384 = .ok (.iload_n 3, 1) := by decide +kernel
theorem dL_law_385 : decode cL_law 385 = .ok (.iconst 3, 1) := by decide +kernel
theorem dL_law_386 : decode cL_law 386 = .ok (.iadd, 1) := by decide +kernel
theorem dL_law_387 : decode cL_law 387 = .ok (.iaload, 1) := by decide +kernel
theorem dL_law_388 : decode cL_law 388 = .ok (.aload_n 0, 1) := by decide +kernel
theorem dL_law_389 : decode cL_law 389 = .ok (.iload_n 3, 1) := by decide +kernel
theorem dL_law_390 : decode cL_law 390 = .ok (.iconst 4, 1) := by decide +kernel
theorem dL_law_391 : decode cL_law 391 = .ok (.iadd, 1) := by decide +kernel
theorem dL_law_392 : decode cL_law 392 = .ok (.iaload, 1) := by decide +kernel
theorem dL_law_393 : decode cL_law 393 = .ok (.aload_n 0, 1) := by decide +kernel
theorem dL_law_394 : decode cL_law 394 = .ok (.iload_n 3, 1) := by decide +kernel
theorem dL_law_395 : decode cL_law 395 = .ok (.iconst 5, 1) := by decide +kernel
theorem dL_law_396 : decode cL_law 396 = .ok (.iadd, 1) := by decide +kernel
theorem dL_law_397 : decode cL_law 397 = .ok (.iaload, 1) := by decide +kernel
theorem dL_law_398 : decode cL_law 398 = .ok (.invokevirtual 40, 3) := by decide +kernel
theorem dL_law_401 : decode cL_law 401 = .ok (.if_icmp .eq 338, 3) := by decide +kernel
theorem dL_law_404 : decode cL_law 404 = .ok (.iconst 0, 1) := by decide +kernel
theorem dL_law_405 : decode cL_law 405 = .ok (.ireturn, 1) := by decide +kernel
theorem dL_law_406 : decode cL_law 406 = .ok (.aload_n 1, 1) := by decide +kernel
theorem dL_law_407 : decode cL_law 407 = .ok (.aload_n 0, 1) := by decide +kernel
theorem dL_law_408 : decode cL_law 408 = .ok (.iload_n 3, 1) := by decide +kernel
theorem dL_law_409 : decode cL_law 409 = .ok (.iconst 1, 1) := by decide +kernel
theorem dL_law_410 : decode cL_law 410 = .ok (.iadd, 1) := by decide +kernel
theorem dL_law_411 : decode cL_law 411 = .ok (.iaload, 1) := by decide +kernel
theorem dL_law_412 : decode cL_law 412 = .ok (.aload_n 0, 1) := by decide +kernel
theorem dL_law_413 : decode cL_law 413 = .ok (.iload_n 3, 1) := by decide +kernel
theorem dL_law_414 : decode cL_law 414 = .ok (.iconst 2, 1) := by decide +kernel
theorem dL_law_415 : decode cL_law 415 = .ok (.iadd, 1) := by decide +kernel
theorem dL_law_416 : decode cL_law 416 = .ok (.iaload, 1) := by decide +kernel
theorem dL_law_417 : decode cL_law 417 = .ok (.invokevirtual 41, 3) := by decide +kernel
theorem dL_law_420 : decode cL_law 420 = .ok (.aload_n 2, 1) := by decide +kernel
theorem dL_law_421 : decode cL_law 421 = .ok (.aload_n 0, 1) := by decide +kernel
theorem dL_law_422 : decode cL_law 422 = .ok (.iload_n 3, 1) := by decide +kernel
theorem dL_law_423 : decode cL_law 423 = .ok (.iconst 1, 1) := by decide +kernel
theorem dL_law_424 : decode cL_law 424 = .ok (.iadd, 1) := by decide +kernel
theorem dL_law_425 : decode cL_law 425 = .ok (.iaload, 1) := by decide +kernel
theorem dL_law_426 : decode cL_law 426 = .ok (.aload_n 0, 1) := by decide +kernel
theorem dL_law_427 : decode cL_law 427 = .ok (.iload_n 3, 1) := by decide +kernel
theorem dL_law_428 : decode cL_law 428 = .ok (.iconst 2, 1) := by decide +kernel
theorem dL_law_429 : decode cL_law 429 = .ok (.iadd, 1) := by decide +kernel
theorem dL_law_430 : decode cL_law 430 = .ok (.iaload, 1) := by decide +kernel
theorem dL_law_431 : decode cL_law 431 = .ok (.invokevirtual 45, 3) := by decide +kernel
theorem dL_law_434 : decode cL_law 434 = .ok (.if_icmp .eq 305, 3) := by decide +kernel
theorem dL_law_437 : decode cL_law 437 = .ok (.iconst 0, 1) := by decide +kernel
theorem dL_law_438 : decode cL_law 438 = .ok (.ireturn, 1) := by decide +kernel
theorem dL_law_439 : decode cL_law 439 = .ok (.aload_n 1, 1) := by decide +kernel
theorem dL_law_440 : decode cL_law 440 = .ok (.aload_n 0, 1) := by decide +kernel
theorem dL_law_441 : decode cL_law 441 = .ok (.iload_n 3, 1) := by decide +kernel
theorem dL_law_442 : decode cL_law 442 = .ok (.iconst 1, 1) := by decide +kernel
theorem dL_law_443 : decode cL_law 443 = .ok (.iadd, 1) := by decide +kernel
theorem dL_law_444 : decode cL_law 444 = .ok (.iaload, 1) := by decide +kernel
theorem dL_law_445 : decode cL_law 445 = .ok (.aload_n 0, 1) := by decide +kernel
theorem dL_law_446 : decode cL_law 446 = .ok (.iload_n 3, 1) := by decide +kernel
theorem dL_law_447 : decode cL_law 447 = .ok (.iconst 2, 1) := by decide +kernel
theorem dL_law_448 : decode cL_law 448 = .ok (.iadd, 1) := by decide +kernel
theorem dL_law_449 : decode cL_law 449 = .ok (.iaload, 1) := by decide +kernel
theorem dL_law_450 : decode cL_law 450 = .ok (.invokevirtual 46, 3) := by decide +kernel
theorem dL_law_453 : decode cL_law 453 = .ok (.aload_n 2, 1) := by decide +kernel
theorem dL_law_454 : decode cL_law 454 = .ok (.aload_n 0, 1) := by decide +kernel
theorem dL_law_455 : decode cL_law 455 = .ok (.iload_n 3, 1) := by decide +kernel
theorem dL_law_456 : decode cL_law 456 = .ok (.iconst 1, 1) := by decide +kernel
theorem dL_law_457 : decode cL_law 457 = .ok (.iadd, 1) := by decide +kernel
theorem dL_law_458 : decode cL_law 458 = .ok (.iaload, 1) := by decide +kernel
theorem dL_law_459 : decode cL_law 459 = .ok (.aload_n 0, 1) := by decide +kernel
theorem dL_law_460 : decode cL_law 460 = .ok (.iload_n 3, 1) := by decide +kernel
theorem dL_law_461 : decode cL_law 461 = .ok (.iconst 2, 1) := by decide +kernel
theorem dL_law_462 : decode cL_law 462 = .ok (.iadd, 1) := by decide +kernel
theorem dL_law_463 : decode cL_law 463 = .ok (.iaload, 1) := by decide +kernel
theorem dL_law_464 : decode cL_law 464 = .ok (.invokevirtual 49, 3) := by decide +kernel
theorem dL_law_467 : decode cL_law 467 = .ok (.if_icmp .eq 272, 3) := by decide +kernel
theorem dL_law_470 : decode cL_law 470 = .ok (.iconst 0, 1) := by decide +kernel
theorem dL_law_471 : decode cL_law 471 = .ok (.ireturn, 1) := by decide +kernel
theorem dL_law_472 : decode cL_law 472 = .ok (.aload_n 1, 1) := by decide +kernel
theorem dL_law_473 : decode cL_law 473 = .ok (.invokevirtual 50, 3) := by decide +kernel
theorem dL_law_476 : decode cL_law 476 = .ok (.aload_n 2, 1) := by decide +kernel
theorem dL_law_477 : decode cL_law 477 = .ok (.invokevirtual 54, 3) := by decide +kernel
theorem dL_law_480 : decode cL_law 480 = .ok (.if_icmp .eq 259, 3) := by decide +kernel
theorem dL_law_483 : decode cL_law 483 = .ok (.iconst 0, 1) := by decide +kernel
theorem dL_law_484 : decode cL_law 484 = .ok (.ireturn, 1) := by decide +kernel
theorem dL_law_485 : decode cL_law 485 = .ok (.aload_n 1, 1) := by decide +kernel
theorem dL_law_486 : decode cL_law 486 = .ok (.invokevirtual 55, 3) := by decide +kernel
theorem dL_law_489 : decode cL_law 489 = .ok (.aload_n 2, 1) := by decide +kernel
theorem dL_law_490 : decode cL_law 490 = .ok (.invokevirtual 58, 3) := by decide +kernel
theorem dL_law_493 : decode cL_law 493 = .ok (.if_icmp .eq 246, 3) := by decide +kernel
theorem dL_law_496 : decode cL_law 496 = .ok (.iconst 0, 1) := by decide +kernel
theorem dL_law_497 : decode cL_law 497 = .ok (.ireturn, 1) := by decide +kernel
theorem dL_law_498 : decode cL_law 498 = .ok (.aload_n 1, 1) := by decide +kernel
theorem dL_law_499 : decode cL_law 499 = .ok (.aload_n 0, 1) := by decide +kernel
theorem dL_law_500 : decode cL_law 500 = .ok (.iload_n 3, 1) := by decide +kernel
theorem dL_law_501 : decode cL_law 501 = .ok (.iconst 1, 1) := by decide +kernel
theorem dL_law_502 : decode cL_law 502 = .ok (.iadd, 1) := by decide +kernel
theorem dL_law_503 : decode cL_law 503 = .ok (.iaload, 1) := by decide +kernel
theorem dL_law_504 : decode cL_law 504 = .ok (.invokevirtual 59, 3) := by decide +kernel
theorem dL_law_507 : decode cL_law 507 = .ok (.aload_n 2, 1) := by decide +kernel
theorem dL_law_508 : decode cL_law 508 = .ok (.aload_n 0, 1) := by decide +kernel
theorem dL_law_509 : decode cL_law 509 = .ok (.iload_n 3, 1) := by decide +kernel
theorem dL_law_510 : decode cL_law 510 = .ok (.iconst 1, 1) := by decide +kernel
theorem dL_law_511 : decode cL_law 511 = .ok (.iadd, 1) := by decide +kernel
theorem dL_law_512 : decode cL_law 512 = .ok (.iaload, 1) := by decide +kernel
theorem dL_law_513 : decode cL_law 513 = .ok (.invokevirtual 62, 3) := by decide +kernel
theorem dL_law_516 : decode cL_law 516 = .ok (.if_icmp .eq 223, 3) := by decide +kernel
theorem dL_law_519 : decode cL_law 519 = .ok (.iconst 0, 1) := by decide +kernel
theorem dL_law_520 : decode cL_law 520 = .ok (.ireturn, 1) := by decide +kernel
theorem dL_law_521 : decode cL_law 521 = .ok (.aload_n 1, 1) := by decide +kernel
theorem dL_law_522 : decode cL_law 522 = .ok (.invokevirtual 63, 3) := by decide +kernel
theorem dL_law_525 : decode cL_law 525 = .ok (.aload_n 2, 1) := by decide +kernel
theorem dL_law_526 : decode cL_law 526 = .ok (.invokevirtual 66, 3) := by decide +kernel
theorem dL_law_529 : decode cL_law 529 = .ok (.if_icmp .eq 210, 3) := by decide +kernel
theorem dL_law_532 : decode cL_law 532 = .ok (.iconst 0, 1) := by decide +kernel
theorem dL_law_533 : decode cL_law 533 = .ok (.ireturn, 1) := by decide +kernel
theorem dL_law_534 : decode cL_law 534 = .ok (.aload_n 1, 1) := by decide +kernel
theorem dL_law_535 : decode cL_law 535 = .ok (.aload_n 0, 1) := by decide +kernel
theorem dL_law_536 : decode cL_law 536 = .ok (.iload_n 3, 1) := by decide +kernel
theorem dL_law_537 : decode cL_law 537 = .ok (.iconst 1, 1) := by decide +kernel
theorem dL_law_538 : decode cL_law 538 = .ok (.iadd, 1) := by decide +kernel
theorem dL_law_539 : decode cL_law 539 = .ok (.iaload, 1) := by decide +kernel
theorem dL_law_540 : decode cL_law 540 = .ok (.aload_n 0, 1) := by decide +kernel
theorem dL_law_541 : decode cL_law 541 = .ok (.iload_n 3, 1) := by decide +kernel
theorem dL_law_542 : decode cL_law 542 = .ok (.iconst 2, 1) := by decide +kernel
theorem dL_law_543 : decode cL_law 543 = .ok (.iadd, 1) := by decide +kernel
theorem dL_law_544 : decode cL_law 544 = .ok (.iaload, 1) := by decide +kernel
theorem dL_law_545 : decode cL_law 545 = .ok (.invokevirtual 67, 3) := by decide +kernel
theorem dL_law_548 : decode cL_law 548 = .ok (.aload_n 2, 1) := by decide +kernel
theorem dL_law_549 : decode cL_law 549 = .ok (.aload_n 0, 1) := by decide +kernel
theorem dL_law_550 : decode cL_law 550 = .ok (.iload_n 3, 1) := by decide +kernel
theorem dL_law_551 : decode cL_law 551 = .ok (.iconst 1, 1) := by decide +kernel
theorem dL_law_552 : decode cL_law 552 = .ok (.iadd, 1) := by decide +kernel
theorem dL_law_553 : decode cL_law 553 = .ok (.iaload, 1) := by decide +kernel
theorem dL_law_554 : decode cL_law 554 = .ok (.aload_n 0, 1) := by decide +kernel
theorem dL_law_555 : decode cL_law 555 = .ok (.iload_n 3, 1) := by decide +kernel
theorem dL_law_556 : decode cL_law 556 = .ok (.iconst 2, 1) := by decide +kernel
theorem dL_law_557 : decode cL_law 557 = .ok (.iadd, 1) := by decide +kernel
theorem dL_law_558 : decode cL_law 558 = .ok (.iaload, 1) := by decide +kernel
theorem dL_law_559 : decode cL_law 559 = .ok (.invokevirtual 71, 3) := by decide +kernel
theorem dL_law_562 : decode cL_law 562 = .ok (.if_icmp .eq 177, 3) := by decide +kernel
theorem dL_law_565 : decode cL_law 565 = .ok (.iconst 0, 1) := by decide +kernel
theorem dL_law_566 : decode cL_law 566 = .ok (.ireturn, 1) := by decide +kernel
theorem dL_law_567 : decode cL_law 567 = .ok (.aload_n 1, 1) := by decide +kernel
theorem dL_law_568 : decode cL_law 568 = .ok (.invokevirtual 72, 3) := by decide +kernel
theorem dL_law_571 : decode cL_law 571 = .ok (.aload_n 2, 1) := by decide +kernel
theorem dL_law_572 : decode cL_law 572 = .ok (.invokevirtual 75, 3) := by decide +kernel
theorem dL_law_575 : decode cL_law 575 = .ok (.if_icmp .eq 164, 3) := by decide +kernel
theorem dL_law_578 : decode cL_law 578 = .ok (.iconst 0, 1) := by decide +kernel
theorem dL_law_579 : decode cL_law 579 = .ok (.ireturn, 1) := by decide +kernel
theorem dL_law_580 : decode cL_law 580 = .ok (.aload_n 1, 1) := by decide +kernel
theorem dL_law_581 : decode cL_law 581 = .ok (.invokevirtual 76, 3) := by decide +kernel
theorem dL_law_584 : decode cL_law 584 = .ok (.aload_n 2, 1) := by decide +kernel
theorem dL_law_585 : decode cL_law 585 = .ok (.invokevirtual 79, 3) := by decide +kernel
theorem dL_law_588 : decode cL_law 588 = .ok (.if_icmp .eq 151, 3) := by decide +kernel
theorem dL_law_591 : decode cL_law 591 = .ok (.iconst 0, 1) := by decide +kernel
theorem dL_law_592 : decode cL_law 592 = .ok (.ireturn, 1) := by decide +kernel
theorem dL_law_593 : decode cL_law 593 = .ok (.aload_n 1, 1) := by decide +kernel
theorem dL_law_594 : decode cL_law 594 = .ok (.aload_n 0, 1) := by decide +kernel
theorem dL_law_595 : decode cL_law 595 = .ok (.iload_n 3, 1) := by decide +kernel
theorem dL_law_596 : decode cL_law 596 = .ok (.iconst 1, 1) := by decide +kernel
theorem dL_law_597 : decode cL_law 597 = .ok (.iadd, 1) := by decide +kernel
theorem dL_law_598 : decode cL_law 598 = .ok (.iaload, 1) := by decide +kernel
theorem dL_law_599 : decode cL_law 599 = .ok (.invokevirtual 80, 3) := by decide +kernel
theorem dL_law_602 : decode cL_law 602 = .ok (.aload_n 2, 1) := by decide +kernel
theorem dL_law_603 : decode cL_law 603 = .ok (.aload_n 0, 1) := by decide +kernel
theorem dL_law_604 : decode cL_law 604 = .ok (.iload_n 3, 1) := by decide +kernel
theorem dL_law_605 : decode cL_law 605 = .ok (.iconst 1, 1) := by decide +kernel
theorem dL_law_606 : decode cL_law 606 = .ok (.iadd, 1) := by decide +kernel
theorem dL_law_607 : decode cL_law 607 = .ok (.iaload, 1) := by decide +kernel
theorem dL_law_608 : decode cL_law 608 = .ok (.invokevirtual 84, 3) := by decide +kernel
theorem dL_law_611 : decode cL_law 611 = .ok (.lcmp, 1) := by decide +kernel
theorem dL_law_612 : decode cL_law 612 = .ok (.ifCond .eq 127, 3) := by decide +kernel
theorem dL_law_615 : decode cL_law 615 = .ok (.iconst 0, 1) := by decide +kernel
theorem dL_law_616 : decode cL_law 616 = .ok (.ireturn, 1) := by decide +kernel
theorem dL_law_617 : decode cL_law 617 = .ok (.aload_n 1, 1) := by decide +kernel
theorem dL_law_618 : decode cL_law 618 = .ok (.aload_n 0, 1) := by decide +kernel
theorem dL_law_619 : decode cL_law 619 = .ok (.iload_n 3, 1) := by decide +kernel
theorem dL_law_620 : decode cL_law 620 = .ok (.iconst 1, 1) := by decide +kernel
theorem dL_law_621 : decode cL_law 621 = .ok (.iadd, 1) := by decide +kernel
theorem dL_law_622 : decode cL_law 622 = .ok (.iaload, 1) := by decide +kernel
theorem dL_law_623 : decode cL_law 623 = .ok (.aload_n 0, 1) := by decide +kernel
theorem dL_law_624 : decode cL_law 624 = .ok (.iload_n 3, 1) := by decide +kernel
theorem dL_law_625 : decode cL_law 625 = .ok (.iconst 2, 1) := by decide +kernel
theorem dL_law_626 : decode cL_law 626 = .ok (.iadd, 1) := by decide +kernel
theorem dL_law_627 : decode cL_law 627 = .ok (.iaload, 1) := by decide +kernel
theorem dL_law_628 : decode cL_law 628 = .ok (.invokevirtual 85, 3) := by decide +kernel
theorem dL_law_631 : decode cL_law 631 = .ok (.aload_n 2, 1) := by decide +kernel
theorem dL_law_632 : decode cL_law 632 = .ok (.aload_n 0, 1) := by decide +kernel
theorem dL_law_633 : decode cL_law 633 = .ok (.iload_n 3, 1) := by decide +kernel
theorem dL_law_634 : decode cL_law 634 = .ok (.iconst 1, 1) := by decide +kernel
theorem dL_law_635 : decode cL_law 635 = .ok (.iadd, 1) := by decide +kernel
theorem dL_law_636 : decode cL_law 636 = .ok (.iaload, 1) := by decide +kernel
theorem dL_law_637 : decode cL_law 637 = .ok (.aload_n 0, 1) := by decide +kernel
theorem dL_law_638 : decode cL_law 638 = .ok (.iload_n 3, 1) := by decide +kernel
theorem dL_law_639 : decode cL_law 639 = .ok (.iconst 2, 1) := by decide +kernel
theorem dL_law_640 : decode cL_law 640 = .ok (.iadd, 1) := by decide +kernel
theorem dL_law_641 : decode cL_law 641 = .ok (.iaload, 1) := by decide +kernel
theorem dL_law_642 : decode cL_law 642 = .ok (.invokevirtual 88, 3) := by decide +kernel
theorem dL_law_645 : decode cL_law 645 = .ok (.if_icmp .eq 94, 3) := by decide +kernel
theorem dL_law_648 : decode cL_law 648 = .ok (.iconst 0, 1) := by decide +kernel
theorem dL_law_649 : decode cL_law 649 = .ok (.ireturn, 1) := by decide +kernel
theorem dL_law_650 : decode cL_law 650 = .ok (.aload_n 1, 1) := by decide +kernel
theorem dL_law_651 : decode cL_law 651 = .ok (.aload_n 0, 1) := by decide +kernel
theorem dL_law_652 : decode cL_law 652 = .ok (.iload_n 3, 1) := by decide +kernel
theorem dL_law_653 : decode cL_law 653 = .ok (.iconst 1, 1) := by decide +kernel
theorem dL_law_654 : decode cL_law 654 = .ok (.iadd, 1) := by decide +kernel
theorem dL_law_655 : decode cL_law 655 = .ok (.iaload, 1) := by decide +kernel
theorem dL_law_656 : decode cL_law 656 = .ok (.aload_n 0, 1) := by decide +kernel
theorem dL_law_657 : decode cL_law 657 = .ok (.iload_n 3, 1) := by decide +kernel
theorem dL_law_658 : decode cL_law 658 = .ok (.iconst 2, 1) := by decide +kernel
theorem dL_law_659 : decode cL_law 659 = .ok (.iadd, 1) := by decide +kernel
theorem dL_law_660 : decode cL_law 660 = .ok (.iaload, 1) := by decide +kernel
theorem dL_law_661 : decode cL_law 661 = .ok (.invokevirtual 89, 3) := by decide +kernel
theorem dL_law_664 : decode cL_law 664 = .ok (.aload_n 2, 1) := by decide +kernel
theorem dL_law_665 : decode cL_law 665 = .ok (.aload_n 0, 1) := by decide +kernel
theorem dL_law_666 : decode cL_law 666 = .ok (.iload_n 3, 1) := by decide +kernel
theorem dL_law_667 : decode cL_law 667 = .ok (.iconst 1, 1) := by decide +kernel
theorem dL_law_668 : decode cL_law 668 = .ok (.iadd, 1) := by decide +kernel
theorem dL_law_669 : decode cL_law 669 = .ok (.iaload, 1) := by decide +kernel
theorem dL_law_670 : decode cL_law 670 = .ok (.aload_n 0, 1) := by decide +kernel
theorem dL_law_671 : decode cL_law 671 = .ok (.iload_n 3, 1) := by decide +kernel
theorem dL_law_672 : decode cL_law 672 = .ok (.iconst 2, 1) := by decide +kernel
theorem dL_law_673 : decode cL_law 673 = .ok (.iadd, 1) := by decide +kernel
theorem dL_law_674 : decode cL_law 674 = .ok (.iaload, 1) := by decide +kernel
theorem dL_law_675 : decode cL_law 675 = .ok (.invokevirtual 92, 3) := by decide +kernel
theorem dL_law_678 : decode cL_law 678 = .ok (.if_icmp .eq 61, 3) := by decide +kernel
theorem dL_law_681 : decode cL_law 681 = .ok (.iconst 0, 1) := by decide +kernel
theorem dL_law_682 : decode cL_law 682 = .ok (.ireturn, 1) := by decide +kernel
theorem dL_law_683 : decode cL_law 683 = .ok (.aload_n 1, 1) := by decide +kernel
theorem dL_law_684 : decode cL_law 684 = .ok (.aload_n 0, 1) := by decide +kernel
theorem dL_law_685 : decode cL_law 685 = .ok (.iload_n 3, 1) := by decide +kernel
theorem dL_law_686 : decode cL_law 686 = .ok (.iconst 1, 1) := by decide +kernel
theorem dL_law_687 : decode cL_law 687 = .ok (.iadd, 1) := by decide +kernel
theorem dL_law_688 : decode cL_law 688 = .ok (.iaload, 1) := by decide +kernel
theorem dL_law_689 : decode cL_law 689 = .ok (.aload_n 0, 1) := by decide +kernel
theorem dL_law_690 : decode cL_law 690 = .ok (.iload_n 3, 1) := by decide +kernel
theorem dL_law_691 : decode cL_law 691 = .ok (.iconst 2, 1) := by decide +kernel
theorem dL_law_692 : decode cL_law 692 = .ok (.iadd, 1) := by decide +kernel
theorem dL_law_693 : decode cL_law 693 = .ok (.iaload, 1) := by decide +kernel
theorem dL_law_694 : decode cL_law 694 = .ok (.invokevirtual 93, 3) := by decide +kernel
theorem dL_law_697 : decode cL_law 697 = .ok (.aload_n 2, 1) := by decide +kernel
theorem dL_law_698 : decode cL_law 698 = .ok (.aload_n 0, 1) := by decide +kernel
theorem dL_law_699 : decode cL_law 699 = .ok (.iload_n 3, 1) := by decide +kernel
theorem dL_law_700 : decode cL_law 700 = .ok (.iconst 1, 1) := by decide +kernel
theorem dL_law_701 : decode cL_law 701 = .ok (.iadd, 1) := by decide +kernel
theorem dL_law_702 : decode cL_law 702 = .ok (.iaload, 1) := by decide +kernel
theorem dL_law_703 : decode cL_law 703 = .ok (.aload_n 0, 1) := by decide +kernel
theorem dL_law_704 : decode cL_law 704 = .ok (.iload_n 3, 1) := by decide +kernel
theorem dL_law_705 : decode cL_law 705 = .ok (.iconst 2, 1) := by decide +kernel
theorem dL_law_706 : decode cL_law 706 = .ok (.iadd, 1) := by decide +kernel
theorem dL_law_707 : decode cL_law 707 = .ok (.iaload, 1) := by decide +kernel
theorem dL_law_708 : decode cL_law 708 = .ok (.invokevirtual 96, 3) := by decide +kernel
theorem dL_law_711 : decode cL_law 711 = .ok (.if_icmp .eq 28, 3) := by decide +kernel
theorem dL_law_714 : decode cL_law 714 = .ok (.iconst 0, 1) := by decide +kernel
theorem dL_law_715 : decode cL_law 715 = .ok (.ireturn, 1) := by decide +kernel
theorem dL_law_716 : decode cL_law 716 = .ok (.aload_n 1, 1) := by decide +kernel
theorem dL_law_717 : decode cL_law 717 = .ok (.aload_n 0, 1) := by decide +kernel
theorem dL_law_718 : decode cL_law 718 = .ok (.iload_n 3, 1) := by decide +kernel
theorem dL_law_719 : decode cL_law 719 = .ok (.iconst 1, 1) := by decide +kernel
theorem dL_law_720 : decode cL_law 720 = .ok (.iadd, 1) := by decide +kernel
theorem dL_law_721 : decode cL_law 721 = .ok (.iaload, 1) := by decide +kernel
theorem dL_law_722 : decode cL_law 722 = .ok (.invokevirtual 97, 3) := by decide +kernel
theorem dL_law_725 : decode cL_law 725 = .ok (.aload_n 2, 1) := by decide +kernel
theorem dL_law_726 : decode cL_law 726 = .ok (.aload_n 0, 1) := by decide +kernel
theorem dL_law_727 : decode cL_law 727 = .ok (.iload_n 3, 1) := by decide +kernel
theorem dL_law_728 : decode cL_law 728 = .ok (.iconst 1, 1) := by decide +kernel
theorem dL_law_729 : decode cL_law 729 = .ok (.iadd, 1) := by decide +kernel
theorem dL_law_730 : decode cL_law 730 = .ok (.iaload, 1) := by decide +kernel
theorem dL_law_731 : decode cL_law 731 = .ok (.invokevirtual 100, 3) := by decide +kernel
theorem dL_law_734 : decode cL_law 734 = .ok (.if_icmp .eq 5, 3) := by decide +kernel
theorem dL_law_737 : decode cL_law 737 = .ok (.iconst 0, 1) := by decide +kernel
theorem dL_law_738 : decode cL_law 738 = .ok (.ireturn, 1) := by decide +kernel
theorem dL_law_739 : decode cL_law 739 = .ok (.iinc 3 6, 3) := by decide +kernel
theorem dL_law_742 : decode cL_law 742 = .ok (.goto (-724), 3) := by decide +kernel
theorem dL_law_745 : decode cL_law 745 = .ok (.iconst 1, 1) := by decide +kernel
theorem dL_law_746 : decode cL_law 746 = .ok (.ireturn, 1) := by decide +kernel
end
section
/-! THE PURE HEAP: places (numbers that I choose) for addresses; a cell is an array with a code of its element type, or an object with the number of its class; a reference in a cell, a local or on the stack is a place -/
abbrev gl_C : Type := (Nat × vp_A) ⊕ (Nat × List Value)
abbrev gl_H : Type := Nat → Option gl_C
/-- the array types that the program makes -/
def gl_ty (K : Nat → ClassId) : List (ClassId × FieldType) := [(K 0, .int), (K 1, .long), (K 2, .byte), (K 3, .short), (K 4, .object RX4), (K 5, .object RX0), (K 6, .array .long)]
abbrev gl_cl : List vw_C := [(RX0, TX0, 5), (RX1, TX1, 7), (RX2, TX2, 3), (RX3, TX3, 2), (RX4, TX4, 11), (RX5, TX5, 5), (RX6, TX6, 9), (RX7, TX7, 32)]
/-- the words that every method may use -/
def gl_T : List Cond := lw_tbl.filter goodWord
theorem gl_T_in {w : Cond} (h : w ∈ lw_tbl) (hg : goodWord w = true) : w ∈ gl_T := List.mem_filter.mpr ⟨h, hg⟩
theorem gl_T_good : ∀ w ∈ gl_T, goodWord w = true := fun _ h => (List.mem_filter.mp h).2
def gl_mv (ad : Nat → Nat) : Value → Value
  | .ref p => .ref (ad p)
  | .int x => .int x
  | .long x => .long x
  | .float x => .float x
  | .double x => .double x
  | .null => .null
  | .retAddr x => .retAddr x
def gl_mA (ad : Nat → Nat) (a : vp_A) : vp_A := (a.1, match a.2 with
  | .inl f => .inl f
  | .inr (.inl f) => .inr (.inl f)
  | .inr (.inr (.inl f)) => .inr (.inr (.inl f))
  | .inr (.inr (.inr (.inl f))) => .inr (.inr (.inr (.inl f)))
  | .inr (.inr (.inr (.inr f))) => .inr (.inr (.inr (.inr (fun j => (f j).map ad)))))
def gl_mE (K : Nat → ClassId) (ad : Nat → Nat) : gl_C → va_E
  | .inl (t, a) => .inl (K t, gl_mA ad a)
  | .inr (ci, fs) => .inr (ci, fs.map (gl_mv ad))
/-- r is a place that the cell c names -/
def gl_rf (c : gl_C) (r : Nat) : Prop := match c with
  | .inl (_, a) => (match a.2 with
    | .inr (.inr (.inr (.inr f))) => ∃ j, f j = some r
    | _ => False)
  | .inr (_, fs) => Value.ref r ∈ fs
def gl_wf (S : gl_H) : Prop := ∀ p c, S p = some c → ∀ r, gl_rf c r → S r ≠ none
/-- places of what is read only: the static arrays, the script -/
def gl_xt (p : Nat) : Prop := 1000000 ≤ p
def gl_bd (S : gl_H) (v : Value) : Prop := ∀ r, v = .ref r → S r ≠ none ∨ gl_xt r
def gl_pu (S : gl_H) (p : Nat) (c : gl_C) : gl_H := fun q => if q = p then some c else S q
def gl_aw (ad : Nat → Nat) (p a : Nat) : Nat → Nat := fun q => if q = p then a else ad q
theorem gl_pu_s (S : gl_H) (p : Nat) (c : gl_C) : gl_pu S p c p = some c := if_pos rfl
theorem gl_pu_n (S : gl_H) {p q : Nat} (c : gl_C) (h : q ≠ p) : gl_pu S p c q = S q := if_neg h
def gl_wl (K : Nat → ClassId) (ad : Nat → Nat) (S : gl_H) (L : List Nat) : va_W := L.map (fun p => (ad p, gl_mE K ad ((S p).getD (.inr (0, [])))))
/-- the heap H holds S, each place p at the address ad p -/
def gl_R (D : va_G) (K : Nat → ClassId) (A : Nat → Prop) (ad : Nat → Nat) (S : gl_H) (H : Heap) : Prop := ∃ L : List Nat, (∀ p, S p ≠ none ↔ p ∈ L) ∧ L.Nodup ∧ va_P D gl_cl (gl_wl K ad S L) H ∧ va_D A (gl_wl K ad S L) ∧ gl_wf S ∧ ∀ p, S p ≠ none → ¬ gl_xt p
theorem gl_some {S : gl_H} {p : Nat} {c : gl_C} (h : S p = some c) : S p ≠ none := by rw [h]; exact fun q => by cases q
theorem gl_wl_at {K : Nat → ClassId} {ad : Nat → Nat} {S : gl_H} {L : List Nat} {k p : Nat} {c : gl_C} (hk : L[k]? = some p) (hc : S p = some c) : (gl_wl K ad S L)[k]? = some (ad p, gl_mE K ad c) := by
  unfold gl_wl
  rw [List.getElem?_map, hk]
  show some (ad p, gl_mE K ad ((S p).getD _)) = _
  rw [hc]
  rfl
theorem gl_wl_set {K : Nat → ClassId} {ad : Nat → Nat} {S : gl_H} {L : List Nat} (hn : L.Nodup) {k p : Nat} (hk : L[k]? = some p) (c : gl_C) : (gl_wl K ad S L).set k (ad p, gl_mE K ad c) = gl_wl K ad (gl_pu S p c) L := by
  apply List.ext_getElem?
  intro i
  unfold gl_wl
  rw [List.getElem?_set, List.length_map, List.getElem?_map, List.getElem?_map]
  have hkl : k < L.length := (List.getElem?_eq_some_iff.mp hk).1
  by_cases h : k = i
  · subst h
    rw [if_pos rfl, if_pos hkl, hk]
    show _ = some (ad p, gl_mE K ad ((gl_pu S p c p).getD _))
    rw [gl_pu_s]
    rfl
  · rw [if_neg h]
    cases hi : L[i]? with
    | none => rfl
    | some r =>
      have hr : r ≠ p := fun e => by
        subst e
        exact h ((List.getElem?_inj hkl hn).mp (hk.trans hi.symm))
      show some (ad r, gl_mE K ad ((S r).getD _)) = some (ad r, gl_mE K ad ((gl_pu S p c r).getD _))
      rw [gl_pu_n S c hr]
theorem gl_mv_aw {ad : Nat → Nat} {p a : Nat} {v : Value} (h : v ≠ .ref p) : gl_mv (gl_aw ad p a) v = gl_mv ad v := by
  cases v with
  | ref r =>
    show Value.ref (gl_aw ad p a r) = Value.ref (ad r)
    have : r ≠ p := fun e => h (by rw [e])
    rw [gl_aw, if_neg this]
  | _ => rfl
theorem gl_mE_cong {K : Nat → ClassId} {ad ad' : Nat → Nat} {c : gl_C} (h : ∀ r, gl_rf c r → ad' r = ad r) : gl_mE K ad' c = gl_mE K ad c := by
  match c, h with
  | .inl (t, n, .inl f), _ => rfl
  | .inl (t, n, .inr (.inl f)), _ => rfl
  | .inl (t, n, .inr (.inr (.inl f))), _ => rfl
  | .inl (t, n, .inr (.inr (.inr (.inl f)))), _ => rfl
  | .inl (t, n, .inr (.inr (.inr (.inr f)))), h =>
    have e : (fun j => (f j).map ad') = fun j => (f j).map ad := by
      funext j
      cases hj : f j with
      | none => rfl
      | some r => exact congrArg some (h r ⟨j, hj⟩)
    show (Sum.inl (K t, n, _) : va_E) = Sum.inl (K t, n, _)
    show (Sum.inl (K t, (n, Sum.inr (Sum.inr (Sum.inr (Sum.inr (fun j => (f j).map ad')))))) : va_E) = Sum.inl (K t, (n, Sum.inr (Sum.inr (Sum.inr (Sum.inr (fun j => (f j).map ad))))))
    rw [e]
  | .inr (ci, fs), h =>
    show (Sum.inr (ci, fs.map (gl_mv ad')) : va_E) = Sum.inr (ci, fs.map (gl_mv ad))
    have e : fs.map (gl_mv ad') = fs.map (gl_mv ad) := List.map_congr_left (fun v hv => by
      cases v with
      | ref r => exact congrArg Value.ref (h r hv)
      | _ => rfl)
    rw [e]
/-- one cell changes -/
theorem gl_R.pu {D : va_G} {K : Nat → ClassId} {A : Nat → Prop} {ad : Nat → Nat} {S : gl_H} {L : List Nat} {H1 : Heap} {k p : Nat} {c c' : gl_C} (hL : ∀ p, S p ≠ none ↔ p ∈ L) (hn : L.Nodup) (hwf : gl_wf S) (hx : ∀ p, S p ≠ none → ¬ gl_xt p) (hk : L[k]? = some p) (hc : S p = some c)
    (hr : ∀ r, gl_rf c' r → gl_rf c r ∨ S r ≠ none) (hP : va_P D gl_cl ((gl_wl K ad S L).set k (ad p, gl_mE K ad c')) H1) (hD : va_D A ((gl_wl K ad S L).set k (ad p, gl_mE K ad c'))) : gl_R D K A ad (gl_pu S p c') H1 := by
  have hs : ∀ q, gl_pu S p c' q ≠ none ↔ S q ≠ none := fun q => by
    by_cases e : q = p
    · subst e
      rw [gl_pu_s, hc]
      exact ⟨fun _ z => (by cases z), fun _ z => (by cases z)⟩
    · rw [gl_pu_n S c' e]
  rw [gl_wl_set hn hk] at hP hD
  refine ⟨L, fun q => (hs q).trans (hL q), hn, hP, hD, fun q d hq r hr2 => (hs r).mpr ?_, fun q hq => hx q ((hs q).mp hq)⟩
  by_cases e : q = p
  · subst e
    rw [gl_pu_s] at hq
    cases hq
    rcases hr r hr2 with h | h
    · exact hwf _ _ hc r h
    · exact h
  · rw [gl_pu_n S c' e] at hq
    exact hwf q d hq r hr2
/-- a cell comes -/
theorem gl_R.new {D : va_G} {K : Nat → ClassId} {A : Nat → Prop} {ad : Nat → Nat} {S : gl_H} {L : List Nat} {H1 : Heap} {p a : Nat} {c : gl_C} {e : va_E} (hL : ∀ p, S p ≠ none ↔ p ∈ L) (hn : L.Nodup) (hwf : gl_wf S) (hx : ∀ p, S p ≠ none → ¬ gl_xt p) (hp : S p = none) (hpx : ¬ gl_xt p)
    (hr : ∀ r, gl_rf c r → S r ≠ none) (he : ∀ ad', gl_mE K ad' c = e ∨ ∃ r, gl_rf c r ∧ ad' r ≠ ad r) (hP : va_P D gl_cl (gl_wl K ad S L ++ [(a, e)]) H1) (hD : va_D A (gl_wl K ad S L ++ [(a, e)])) : gl_R D K A (gl_aw ad p a) (gl_pu S p c) H1 := by
  have hpL : p ∉ L := fun h => (hL p).mpr h hp
  have hec : gl_mE K (gl_aw ad p a) c = e := by
    rcases he (gl_aw ad p a) with h | ⟨r, h1, h2⟩
    · exact h
    · refine absurd ?_ h2
      have : r ≠ p := fun z => hr r h1 (by rw [z]; exact hp)
      rw [gl_aw, if_neg this]
  have hw : gl_wl K ad S L ++ [(a, e)] = gl_wl K (gl_aw ad p a) (gl_pu S p c) (L ++ [p]) := by
    unfold gl_wl
    rw [List.map_append]
    congr 1
    · apply List.map_congr_left
      intro q hq
      have hqp : q ≠ p := fun z => hpL (by rw [← z]; exact hq)
      rw [gl_pu_n S c hqp]
      cases hc : S q with
      | none => exact absurd hc ((hL q).mpr hq)
      | some d =>
        show (ad q, gl_mE K ad d) = (gl_aw ad p a q, gl_mE K (gl_aw ad p a) d)
        rw [show gl_aw ad p a q = ad q from if_neg hqp, show gl_mE K (gl_aw ad p a) d = gl_mE K ad d from gl_mE_cong (fun r hr2 => if_neg (fun z => hwf q d hc r hr2 (by rw [z]; exact hp)))]
    · show [(a, e)] = [(gl_aw ad p a p, gl_mE K (gl_aw ad p a) ((gl_pu S p c p).getD _))]
      rw [gl_pu_s, show gl_aw ad p a p = a from if_pos rfl]
      show [(a, e)] = [(a, gl_mE K (gl_aw ad p a) c)]
      rw [hec]
  rw [hw] at hP hD
  have hs : ∀ q, gl_pu S p c q ≠ none ↔ (S q ≠ none ∨ q = p) := fun q => by
    by_cases z : q = p
    · subst z
      rw [gl_pu_s]
      exact ⟨fun _ => Or.inr rfl, fun _ z => by cases z⟩
    · rw [gl_pu_n S c z]
      exact ⟨Or.inl, fun h => h.elim id (fun y => absurd y z)⟩
  refine ⟨L ++ [p], fun q => (hs q).trans ?_, ?_, hP, hD, fun q d hq r hr2 => (hs r).mpr (Or.inl ?_), fun q hq => ?_⟩
  · rw [List.mem_append, List.mem_singleton, hL q]
  · refine List.nodup_append.mpr ⟨hn, by simp, fun x hx y hy z => hpL ?_⟩
    rw [List.mem_singleton] at hy
    rw [← hy, ← z]
    exact hx
  · by_cases z : q = p
    · subst z
      rw [gl_pu_s] at hq
      cases hq
      exact hr r hr2
    · rw [gl_pu_n S c z] at hq
      exact hwf q d hq r hr2
  · rcases (hs q).mp hq with h | h
    · exact hx q h
    · rw [h]; exact hpx
end
section
/-! THE JUDGEMENT GG: a method's activation over the pure heap. M: the method's bytes, its class, its locals, its answer's type, whether it is a constructor, its depth of calls, its cells and slots. -/
abbrev gl_M : Type := ByteArray × String × Nat × Option FieldType × Bool × Nat × Nat × Nat
abbrev gl_X : Type := Program × Launch × Env × Room × State × MethodId × Array Value × List Frame × Method × Code × va_G × (Nat → ClassId) × (Nat → Prop) × (Nat → Nat) × gl_H
def gl_AT (j : Nat) : Int32 := if j = 0 then 60 else if j = 1 then 60 else if j = 2 then 5 else if j = 3 then 20 else if j = 4 then 2000 else if j = 5 then 300 else 2
def gl_LE (j : Nat) : Int32 := if j = 6 then 1 else 0
def gl_MO (j : Nat) : Int32 := if j = 0 then 120 else if j = 1 then 999 else if j = 2 then 99 else if j = 3 then 99 else if j = 4 then 9999 else if j = 5 then 9999 else 9
def gl_LT (j : Nat) : Int32 := if j = 0 then 119 else if j = 1 then 115 else if j = 2 then 100 else if j = 3 then 108 else if j = 4 then 112 else if j = 5 then 113 else 114
/-- what is read only: the static arrays at the places 1000000 .. 1000003; and words of the tables that no list holds -/
def gl_Ext (A : Nat → Prop) (ad : Nat → Nat) (U : State) (H : Heap) : Prop :=
  (va_Z RX2 "AT_FIRST" "[I" (.ref (ad 1000000)) A U H ∧ va_T .int (ad 1000000) 7 (fun j => .int (gl_AT j)) A U H) ∧
  (va_Z RX2 "LEAST" "[I" (.ref (ad 1000001)) A U H ∧ va_T .int (ad 1000001) 7 (fun j => .int (gl_LE j)) A U H) ∧
  (va_Z RX2 "MOST" "[I" (.ref (ad 1000002)) A U H ∧ va_T .int (ad 1000002) 7 (fun j => .int (gl_MO j)) A U H) ∧
  (va_Z RX2 "LETTERS" "[C" (.ref (ad 1000003)) A U H ∧ va_T .char (ad 1000003) 7 (fun j => .int (gl_LT j)) A U H) ∧
  (va_AO RX4 U ∧ va_AO RX0 U ∧ va_AOA .long U) ∧
  (va_Nw (.methodLinkNest RX6 9 yX3_init RX6) U ∧ va_Nw (.methodLinkNest RX6 37 yX5_init RX6) U ∧ va_Nw (.methodLinkNest RX6 44 yX1_init RX6) U ∧ va_Nw (.methodLinkNest RX4 48 yX6_hasBit RX6) U ∧ va_Nw (.methodLinkNest RX1 58 yX6_hasBit RX6) U)
theorem va_AOA.spec {ty : FieldType} {s : State} (h : va_AOA ty s) : ∃ comp c k, s.vm.findClass (FieldType.array ty).toString = some comp ∧ (s.vm.classes.findIdx? fun x => match x.kind with | .array component _ => component == comp | _ => false) = some c ∧ s.vm.classes[c]? = some k ∧ k.kind = .array comp (.array ty) ∧ s.vm.findClass ("[" ++ (FieldType.array ty).toString) = some c := by
  unfold va_AOA Cond.before Cond.holds at h
  simp only [Cond.value, beq_iff_eq] at h
  cases hc : s.vm.findClass (FieldType.array ty).toString with
  | none => simp [hc] at h
  | some comp =>
    simp only [hc, Option.bind_some, Option.bind_eq_some_iff, Option.map_eq_some_iff] at h
    obtain ⟨c, hi, k, hk, hb⟩ := h
    obtain ⟨hlt, hp, -⟩ := Array.findIdx?_eq_some_iff_getElem.mp hi
    have hkk : s.vm.classes[c] = k := (Array.getElem?_eq_some_iff.mp hk).2
    rw [hkk] at hp
    cases hkind : k.kind with
    | array component t =>
      rw [hkind] at hb hp
      simp at hb hp
      exact ⟨comp, c, k, rfl, hi, hk, by rw [hkind, hp, hb.1], hb.2⟩
    | _ => rw [hkind] at hb; simp at hb
theorem va_AOA.moved {ty : FieldType} {u U : State} (hvm : u.vm.Alike U.vm) (h : va_AOA ty u) : va_AOA ty U := by
  obtain ⟨comp, c, k, h1, h2, h3, h4, h5⟩ := va_AOA.spec h
  obtain ⟨k', hk', he⟩ := hvm.2.2 _ _ h3
  have hi : (U.vm.classes.findIdx? fun (x : Class) => match x.kind with | .array component _ => component == comp | _ => false) = some c := by
    refine (va_idx_bare U.vm comp).symm.trans ?_
    have e : U.vm.bare = u.vm.bare := by first | exact hvm.bare_eq | exact hvm.bare_eq.symm
    rw [e]
    exact (va_idx_bare u.vm comp).trans h2
  have hkind : k'.kind = .array comp (.array ty) := by rw [he]; exact h4
  have f1 : U.vm.findClass (FieldType.array ty).toString = some comp := by rw [hvm.findClass]; exact h1
  have f2 : U.vm.findClass ("[" ++ (FieldType.array ty).toString) = some c := by rw [hvm.findClass]; exact h5
  unfold va_AOA Cond.before Cond.holds
  simp only [Cond.value]
  rw [f1, Option.bind_some]
  refine (congrArg (fun o : Option Nat => (o.bind (fun c => (U.vm.classes[c]?).map fun (k : Class) => match k.kind with | .array _ t => decide (t = FieldType.array ty) && decide (U.vm.findClass ("[" ++ (FieldType.array ty).toString) = some c) | _ => false) == some true)) hi).trans ?_
  simp [hk', hkind, f2]
theorem gl_Ext.warm {A B : Nat → Prop} {ad ad' : Nat → Nat} {s U : State} {H H1 : Heap} (h : gl_Ext A ad s H) (hW : s.WarmedH U.vm) (hq : ∀ a : Nat, a < H.size → ¬ A a → H1[a]? = H[a]?) (hB : ∀ q, B q → A q) (hd : ∀ p, gl_xt p → ad' p = ad p) : gl_Ext B ad' U H1 := by
  obtain ⟨⟨a1, a2⟩, ⟨b1, b2⟩, ⟨c1, c2⟩, ⟨d1, d2⟩, ⟨e1, e2, e3⟩, f1, f2, f3, f4, f5⟩ := h
  have g0 := hd 1000000 (by unfold gl_xt; omega)
  have g1 := hd 1000001 (by unfold gl_xt; omega)
  have g2 := hd 1000002 (by unfold gl_xt; omega)
  have g3 := hd 1000003 (by unfold gl_xt; omega)
  unfold gl_Ext
  rw [g0, g1, g2, g3]
  have al := hW.alike
  exact ⟨⟨((a1.moved al).kept hq).narrow hB, ((a2.moved al).kept hq).narrow hB⟩, ⟨((b1.moved al).kept hq).narrow hB, ((b2.moved al).kept hq).narrow hB⟩, ⟨((c1.moved al).kept hq).narrow hB, ((c2.moved al).kept hq).narrow hB⟩, ⟨((d1.moved al).kept hq).narrow hB, ((d2.moved al).kept hq).narrow hB⟩, ⟨e1.moved al, e2.moved al, va_AOA.moved al e3⟩, f1.warmM hW, f2.warmM hW, f3.warmM hW, f4.warmM hW, f5.warmM hW⟩
theorem gl_Ext.same {A : Nat → Prop} {ad : Nat → Nat} {s U : State} {H : Heap} (h : gl_Ext A ad s H) (hv : s.vm = U.vm) : gl_Ext A ad U H := by
  obtain ⟨⟨a1, a2⟩, ⟨b1, b2⟩, ⟨c1, c2⟩, ⟨d1, d2⟩, ⟨e1, e2, e3⟩, f1, f2, f3, f4, f5⟩ := h
  have al : s.vm.Alike U.vm := by rw [← hv]; exact Vm.Alike.refl _
  exact ⟨⟨a1.moved al, a2.moved al⟩, ⟨b1.moved al, b2.moved al⟩, ⟨c1.moved al, c2.moved al⟩, ⟨d1.moved al, d2.moved al⟩, ⟨e1.moved al, e2.moved al, va_AOA.moved al e3⟩, f1.same rfl hv, f2.same rfl hv, f3.same rfl hv, f4.same rfl hv, f5.same rfl hv⟩
/-- since S0 at ad0: no place is lost, none has moved -/
def gl_Ag (S0 : gl_H) (ad0 : Nat → Nat) (S : gl_H) (ad : Nat → Nat) : Prop := ∀ p, (S0 p ≠ none → S p ≠ none) ∧ ((S0 p ≠ none ∨ gl_xt p) → ad p = ad0 p)
/-- the locals: by their places, none where nothing is known -/
def gl_as : Nat → List (Option Value) → List (Nat × Value)
  | _, [] => []
  | n, none :: t => gl_as (n + 1) t
  | n, some v :: t => (n, v) :: gl_as (n + 1) t
def gl_lk : List (Option Value) → Nat → Option Value
  | [], _ => none
  | a :: _, 0 => a
  | _ :: t, i + 1 => gl_lk t i
def gl_cut (a : Option Value) : Option Value := match a with
  | some (.long _) => none
  | some (.double _) => none
  | a => a
/-- a value of one word -/
def gl_s1 : List (Option Value) → Nat → Value → List (Option Value)
  | [], _, _ => []
  | _ :: t, 0, v => some v :: t
  | a :: t, 1, v => gl_cut a :: gl_s1 t 0 v
  | a :: t, i + 2, v => a :: gl_s1 t (i + 1) v
/-- a value of two words -/
def gl_s2 : List (Option Value) → Nat → Value → List (Option Value)
  | [], _, _ => []
  | _ :: [], 0, v => [some v]
  | _ :: _ :: t, 0, v => some v :: none :: t
  | a :: t, 1, v => gl_cut a :: gl_s2 t 0 v
  | a :: t, i + 2, v => a :: gl_s2 t (i + 1) v
def gl_ma (ad : Nat → Nat) (l : List (Nat × Value)) : List (Nat × Value) := l.map (fun q => (q.1, gl_mv ad q.2))
def gl_Ok (M : gl_M) (x : gl_X) : Prop := match x with
  | (p, l, e, R, s, m, args, below, meth, c, D, K, A, ad0, S0) => p.tables.exec = Jvm.exec ∧ c.code = M.1 ∧ c.maxLocals = M.2.2.1 ∧ meth.sig.returnType = M.2.2.2.1 ∧ s.vm.findClass M.2.1 = some m.cls ∧ (∀ w ∈ gl_T, w.before args s = true) ∧ meth.locks = false ∧ (M.2.2.2.2.1 = true → meth.name = "<init>") ∧ (M.2.2.2.2.2.1 ≤ R.frames ∧ 40 * M.2.2.2.2.2.1 ≤ R.locals ∧ R.cells = M.2.2.2.2.2.2.1 ∧ R.slots = M.2.2.2.2.2.2.2) ∧ va_K D gl_cl (gl_ty K) s ∧ (∀ q, s.heap.size ≤ q → A q) ∧ gl_Ext A ad0 s s.heap
def GG (M : gl_M) (x : gl_X) (Z : State → Prop) (pc : Nat) (ls : List (Option Value)) (st : List Value) (S : gl_H) (k : Nat × Nat) : Prop := gl_Ok M x → match x with
  | (p, l, e, R, s, m, args, below, meth, c, D, K, A, ad0, S0) => ∀ (ad : Nat → Nat) (H : Heap) (locs : List Loc) (LS : Array Slot), gl_R D K A ad S H → va_S A s.heap H locs → gl_Ag S0 ad0 S ad → (∀ v ∈ st, gl_bd S v) → (∀ q ∈ gl_as 0 ls, gl_bd S q.2) → lv_has LS M.2.2.1 (gl_ma ad (gl_as 0 ls)) → W p l e R s m args below meth c H locs k.1 k.2 Z (F0 m pc LS (st.map (gl_mv ad)))
theorem gl_lk_as : ∀ {ls : List (Option Value)} {i : Nat} {v : Value} (n : Nat), gl_lk ls i = some v → (n + i, v) ∈ gl_as n ls
  | [], _, _, _, h => by cases h
  | none :: _, 0, _, _, h => by cases h
  | some w :: t, 0, v, n, h => by
    cases h
    exact List.mem_cons_self
  | none :: t, i + 1, v, n, h => by
    have := gl_lk_as (ls := t) (i := i) (n + 1) h
    rw [show n + (i + 1) = n + 1 + i by omega]
    exact this
  | some w :: t, i + 1, v, n, h => by
    have := gl_lk_as (ls := t) (i := i) (n + 1) h
    rw [show n + (i + 1) = n + 1 + i by omega]
    exact List.mem_cons_of_mem _ this
theorem gl_lk_at {ls : List (Option Value)} {LS : Array Slot} {nL i : Nat} {v : Value} {ad : Nat → Nat} (h : lv_has LS nL (gl_ma ad (gl_as 0 ls))) (hv : gl_lk ls i = some v) : LS[i]? = some (.val (gl_mv ad v)) := by
  have := gl_lk_as 0 hv
  rw [Nat.zero_add] at this
  exact h.2.2 (i, gl_mv ad v) (List.mem_map.mpr ⟨(i, v), this, rfl⟩)
theorem gl_as_ge : ∀ {ls : List (Option Value)} {n : Nat} {q : Nat × Value}, q ∈ gl_as n ls → n ≤ q.1
  | [], _, _, h => by cases h
  | none :: t, n, q, h => Nat.le_of_succ_le (gl_as_ge (ls := t) h)
  | some v :: t, n, q, h => by
    rcases List.mem_cons.mp h with e | e
    · rw [e]; exact Nat.le_refl n
    · exact Nat.le_of_succ_le (gl_as_ge (ls := t) e)
theorem gl_cut_in {a : Option Value} {v : Value} (h : gl_cut a = some v) : a = some v ∧ v.category = 1 := by
  match a, h with
  | none, h => cases h
  | some (.int x), h => cases h; exact ⟨rfl, rfl⟩
  | some (.ref x), h => cases h; exact ⟨rfl, rfl⟩
  | some .null, h => cases h; exact ⟨rfl, rfl⟩
  | some (.float x), h => cases h; exact ⟨rfl, rfl⟩
  | some (.retAddr x), h => cases h; exact ⟨rfl, rfl⟩
theorem gl_s1_in : ∀ {ls : List (Option Value)} {i n : Nat} {v : Value} {q : Nat × Value}, q ∈ gl_as n (gl_s1 ls i v) → q = (n + i, v) ∨ (q ∈ gl_as n ls ∧ q.1 ≠ n + i ∧ ¬ (q.1 + 1 = n + i ∧ q.2.category = 2))
  | [], _, _, _, _, h => by cases h
  | a :: t, 0, n, v, q, h => by
    rcases List.mem_cons.mp (show q ∈ (n, v) :: gl_as (n + 1) t from h) with e | e
    · exact Or.inl e
    · have hg := gl_as_ge e
      refine Or.inr ⟨?_, by omega, by omega⟩
      cases a with
      | none => exact e
      | some w => exact List.mem_cons_of_mem _ e
  | a :: t, 1, n, v, q, h => by
    have h' : q ∈ gl_as n (gl_cut a :: gl_s1 t 0 v) := h
    have hh : (∃ w, gl_cut a = some w ∧ q = (n, w)) ∨ q ∈ gl_as (n + 1) (gl_s1 t 0 v) := by
      cases hc : gl_cut a with
      | none => rw [hc] at h'; exact Or.inr h'
      | some w =>
        rw [hc] at h'
        rcases List.mem_cons.mp h' with e | e
        · exact Or.inl ⟨w, rfl, e⟩
        · exact Or.inr e
    rcases hh with ⟨w, hw, e⟩ | e
    · obtain ⟨ha, hcat⟩ := gl_cut_in hw
      refine Or.inr ⟨?_, ?_, ?_⟩
      · rw [ha, e]; exact List.mem_cons_self
      · rw [e]; show n ≠ n + 1; omega
      · rw [e]; show ¬ (n + 1 = n + 1 ∧ w.category = 2); rw [hcat]; exact fun z => by cases z.2
    · rcases gl_s1_in (ls := t) (i := 0) (n := n + 1) e with r | ⟨r1, r2, r3⟩
      · exact Or.inl r
      · refine Or.inr ⟨?_, r2, r3⟩
        cases a with
        | none => exact r1
        | some w => exact List.mem_cons_of_mem _ r1
  | a :: t, i + 2, n, v, q, h => by
    have h' : q ∈ gl_as n (a :: gl_s1 t (i + 1) v) := h
    have hh : (∃ w, a = some w ∧ q = (n, w)) ∨ q ∈ gl_as (n + 1) (gl_s1 t (i + 1) v) := by
      cases a with
      | none => exact Or.inr h'
      | some w =>
        rcases List.mem_cons.mp h' with e | e
        · exact Or.inl ⟨w, rfl, e⟩
        · exact Or.inr e
    rcases hh with ⟨w, hw, e⟩ | e
    · refine Or.inr ⟨?_, ?_, ?_⟩
      · rw [hw, e]; exact List.mem_cons_self
      · rw [e]; show n ≠ _; omega
      · rw [e]; show ¬ (n + 1 = _ ∧ _); omega
    · rcases gl_s1_in (ls := t) (i := i + 1) (n := n + 1) e with r | ⟨r1, r2, r3⟩
      · exact Or.inl (by rw [r]; congr 1; omega)
      · refine Or.inr ⟨?_, by omega, fun z => r3 ⟨by omega, z.2⟩⟩
        cases a with
        | none => exact r1
        | some w => exact List.mem_cons_of_mem _ r1
theorem gl_s2_in : ∀ {ls : List (Option Value)} {i n : Nat} {v : Value} {q : Nat × Value}, q ∈ gl_as n (gl_s2 ls i v) → q = (n + i, v) ∨ (q ∈ gl_as n ls ∧ q.1 ≠ n + i ∧ q.1 ≠ n + i + 1 ∧ ¬ (q.1 + 1 = n + i ∧ q.2.category = 2))
  | [], _, _, _, _, h => by cases h
  | a :: [], 0, n, v, q, h => by
    rcases List.mem_cons.mp (show q ∈ (n, v) :: [] from h) with e | e
    · exact Or.inl e
    · cases e
  | a :: b :: t, 0, n, v, q, h => by
    rcases List.mem_cons.mp (show q ∈ (n, v) :: gl_as (n + 1 + 1) t from h) with e | e
    · exact Or.inl e
    · have hg := gl_as_ge e
      refine Or.inr ⟨?_, by omega, by omega, by omega⟩
      have hb : q ∈ gl_as (n + 1) (b :: t) := by
        cases b with
        | none => exact e
        | some w => exact List.mem_cons_of_mem _ e
      cases a with
      | none => exact hb
      | some w => exact List.mem_cons_of_mem _ hb
  | a :: t, 1, n, v, q, h => by
    have h' : q ∈ gl_as n (gl_cut a :: gl_s2 t 0 v) := by
      cases t <;> exact h
    have hh : (∃ w, gl_cut a = some w ∧ q = (n, w)) ∨ q ∈ gl_as (n + 1) (gl_s2 t 0 v) := by
      cases hc : gl_cut a with
      | none => rw [hc] at h'; exact Or.inr h'
      | some w =>
        rw [hc] at h'
        rcases List.mem_cons.mp h' with e | e
        · exact Or.inl ⟨w, rfl, e⟩
        · exact Or.inr e
    rcases hh with ⟨w, hw, e⟩ | e
    · obtain ⟨ha, hcat⟩ := gl_cut_in hw
      refine Or.inr ⟨?_, ?_, ?_, ?_⟩
      · rw [ha, e]; exact List.mem_cons_self
      · rw [e]; show n ≠ n + 1; omega
      · rw [e]; show n ≠ n + 1 + 1; omega
      · rw [e]; show ¬ (n + 1 = n + 1 ∧ w.category = 2); rw [hcat]; exact fun z => by cases z.2
    · rcases gl_s2_in (ls := t) (i := 0) (n := n + 1) e with r | ⟨r1, r2, r4, r3⟩
      · exact Or.inl r
      · refine Or.inr ⟨?_, r2, r4, r3⟩
        cases a with
        | none => exact r1
        | some w => exact List.mem_cons_of_mem _ r1
  | a :: t, i + 2, n, v, q, h => by
    have h' : q ∈ gl_as n (a :: gl_s2 t (i + 1) v) := by
      cases t <;> exact h
    have hh : (∃ w, a = some w ∧ q = (n, w)) ∨ q ∈ gl_as (n + 1) (gl_s2 t (i + 1) v) := by
      cases a with
      | none => exact Or.inr h'
      | some w =>
        rcases List.mem_cons.mp h' with e | e
        · exact Or.inl ⟨w, rfl, e⟩
        · exact Or.inr e
    rcases hh with ⟨w, hw, e⟩ | e
    · refine Or.inr ⟨?_, ?_, ?_, ?_⟩
      · rw [hw, e]; exact List.mem_cons_self
      · rw [e]; show n ≠ _; omega
      · rw [e]; show n ≠ _; omega
      · rw [e]; show ¬ (n + 1 = _ ∧ _); omega
    · rcases gl_s2_in (ls := t) (i := i + 1) (n := n + 1) e with r | ⟨r1, r2, r4, r3⟩
      · exact Or.inl (by rw [r]; congr 1; omega)
      · refine Or.inr ⟨?_, by omega, by omega, fun z => r3 ⟨by omega, z.2⟩⟩
        cases a with
        | none => exact r1
        | some w => exact List.mem_cons_of_mem _ r1
theorem gl_mv_cat (ad : Nat → Nat) (v : Value) : (gl_mv ad v).category = v.category := by cases v <;> rfl
theorem gl_s1_has {LS : Array Slot} {nL i : Nat} {ls : List (Option Value)} {v : Value} {ad : Nat → Nat} (h : lv_has LS nL ((i, gl_mv ad v) :: (gl_ma ad (gl_as 0 ls)).filter (fun q => !(q.1 == i) && !(q.1 + 1 == i && q.2.category == 2)))) : lv_has LS nL (gl_ma ad (gl_as 0 (gl_s1 ls i v))) := by
  refine ⟨h.1, h.2.1, fun q hq => h.2.2 q ?_⟩
  obtain ⟨r, hr, rfl⟩ := List.mem_map.mp hq
  rcases gl_s1_in hr with e | ⟨e1, e2, e3⟩
  · rw [Nat.zero_add] at e
    rw [e]
    exact List.mem_cons_self
  · refine List.mem_cons_of_mem _ (List.mem_filter.mpr ⟨List.mem_map.mpr ⟨r, e1, rfl⟩, ?_⟩)
    rw [Nat.zero_add] at e2 e3
    show (!(r.1 == i) && !(r.1 + 1 == i && (gl_mv ad r.2).category == 2)) = true
    rw [gl_mv_cat]
    by_cases h1 : r.1 + 1 = i
    · have : ¬ r.2.category = 2 := fun z => e3 ⟨h1, z⟩
      simp [e2, this]
    · simp [e2, h1]
theorem gl_s2_has {LS : Array Slot} {nL i : Nat} {ls : List (Option Value)} {v : Value} {ad : Nat → Nat} (h : lv_has LS nL ((i, gl_mv ad v) :: (gl_ma ad (gl_as 0 ls)).filter (fun q => !(q.1 == i) && (!(q.1 == i + 1) && !(q.1 + 1 == i && q.2.category == 2))))) : lv_has LS nL (gl_ma ad (gl_as 0 (gl_s2 ls i v))) := by
  refine ⟨h.1, h.2.1, fun q hq => h.2.2 q ?_⟩
  obtain ⟨r, hr, rfl⟩ := List.mem_map.mp hq
  rcases gl_s2_in hr with e | ⟨e1, e2, e4, e3⟩
  · rw [Nat.zero_add] at e
    rw [e]
    exact List.mem_cons_self
  · refine List.mem_cons_of_mem _ (List.mem_filter.mpr ⟨List.mem_map.mpr ⟨r, e1, rfl⟩, ?_⟩)
    rw [Nat.zero_add] at e2 e3 e4
    show (!(r.1 == i) && (!(r.1 == i + 1) && !(r.1 + 1 == i && (gl_mv ad r.2).category == 2))) = true
    rw [gl_mv_cat]
    by_cases h1 : r.1 + 1 = i
    · have : ¬ r.2.category = 2 := fun z => e3 ⟨h1, z⟩
      simp [e2, e4, this]
    · simp [e2, e4, h1]
theorem gl_s1_bd {S : gl_H} {i : Nat} {ls : List (Option Value)} {v : Value} (h : ∀ q ∈ gl_as 0 ls, gl_bd S q.2) (hv : gl_bd S v) : ∀ q ∈ gl_as 0 (gl_s1 ls i v), gl_bd S q.2 := fun q hq => by
  rcases gl_s1_in hq with e | ⟨e, -, -⟩
  · rw [e]; exact hv
  · exact h q e
theorem gl_s2_bd {S : gl_H} {i : Nat} {ls : List (Option Value)} {v : Value} (h : ∀ q ∈ gl_as 0 ls, gl_bd S q.2) (hv : gl_bd S v) : ∀ q ∈ gl_as 0 (gl_s2 ls i v), gl_bd S q.2 := fun q hq => by
  rcases gl_s2_in hq with e | ⟨e, -, -, -⟩
  · rw [e]; exact hv
  · exact h q e
theorem gl_bd_i {S : gl_H} {x : Int32} : gl_bd S (.int x) := fun _ h => by cases h
theorem gl_bd_l {S : gl_H} {x : Int64} : gl_bd S (.long x) := fun _ h => by cases h
theorem gl_bd_n {S : gl_H} : gl_bd S .null := fun _ h => by cases h
theorem gl_bd_c {S : gl_H} {v : Value} {st : List Value} (hv : gl_bd S v) (h : ∀ w ∈ st, gl_bd S w) : ∀ w ∈ v :: st, gl_bd S w := fun w hw => by
  rcases List.mem_cons.mp hw with e | e
  · rw [e]; exact hv
  · exact h w e
theorem gl_bd_t {S : gl_H} {v : Value} {st : List Value} (h : ∀ w ∈ v :: st, gl_bd S w) : ∀ w ∈ st, gl_bd S w := fun w hw => h w (List.mem_cons_of_mem _ hw)
theorem gl_bd_h {S : gl_H} {v : Value} {st : List Value} (h : ∀ w ∈ v :: st, gl_bd S w) : gl_bd S v := h v List.mem_cons_self
theorem gl_bd_lk {S : gl_H} {ls : List (Option Value)} {i : Nat} {v : Value} (h : ∀ q ∈ gl_as 0 ls, gl_bd S q.2) (hv : gl_lk ls i = some v) : gl_bd S v := h _ (gl_lk_as 0 hv)
end
section
/-! one instruction, one row: those that touch no cell -/
section GR
variable {M : gl_M} {x : gl_X} {Z : State → Prop} {pc : Nat} {ls : List (Option Value)} {st : List Value} {S : gl_H} {k : Nat × Nat}
theorem gg_iconst {n : Int} {v : Int32} (hd : decode M.1 pc = .ok (.iconst n, 1)) (hv : Int32.ofInt n = v) (K : GG M x Z (pc + 1) ls (.int v :: st) S k) : GG M x Z pc ls (st) S k := by
  obtain ⟨p, l, e, R, s, m, args, below, meth, c, D, Kc, A, ad0, S0⟩ := x
  intro ok ad H locs LS hR hS hAg hst hls hLS
  exact lv_iconst ok.1 ok.2.1 hd hv (K ok ad H locs LS hR hS hAg (gl_bd_c gl_bd_i hst) hls hLS)
theorem gg_bipush {n : Int} {v : Int32} (hd : decode M.1 pc = .ok (.bipush n, 2)) (hv : (Int8.ofInt n).toInt32 = v) (K : GG M x Z (pc + 2) ls (.int v :: st) S k) : GG M x Z pc ls (st) S k := by
  obtain ⟨p, l, e, R, s, m, args, below, meth, c, D, Kc, A, ad0, S0⟩ := x
  intro ok ad H locs LS hR hS hAg hst hls hLS
  exact lv_bipush ok.1 ok.2.1 hd hv (K ok ad H locs LS hR hS hAg (gl_bd_c gl_bd_i hst) hls hLS)
theorem gg_sipush {n : Int} {v : Int32} (hd : decode M.1 pc = .ok (.sipush n, 3)) (hv : (Int16.ofInt n).toInt32 = v) (K : GG M x Z (pc + 3) ls (.int v :: st) S k) : GG M x Z pc ls (st) S k := by
  obtain ⟨p, l, e, R, s, m, args, below, meth, c, D, Kc, A, ad0, S0⟩ := x
  intro ok ad H locs LS hR hS hAg hst hls hLS
  exact lv_sipush ok.1 ok.2.1 hd hv (K ok ad H locs LS hR hS hAg (gl_bd_c gl_bd_i hst) hls hLS)
theorem gg_lconst {n : Fin 2} {v : Int64} (hd : decode M.1 pc = .ok (.lconst n, 1)) (hv : Int64.ofNat (n : Nat) = v) (K : GG M x Z (pc + 1) ls (.long v :: st) S k) : GG M x Z pc ls (st) S k := by
  obtain ⟨p, l, e, R, s, m, args, below, meth, c, D, Kc, A, ad0, S0⟩ := x
  intro ok ad H locs LS hR hS hAg hst hls hLS
  exact lv_lconst ok.1 ok.2.1 hd hv (K ok ad H locs LS hR hS hAg (gl_bd_c gl_bd_l hst) hls hLS)
theorem gg_null  (hd : decode M.1 pc = .ok (.aconst_null, 1)) (K : GG M x Z (pc + 1) ls (.null :: st) S k) : GG M x Z pc ls (st) S k := by
  obtain ⟨p, l, e, R, s, m, args, below, meth, c, D, Kc, A, ad0, S0⟩ := x
  intro ok ad H locs LS hR hS hAg hst hls hLS
  exact lv_null ok.1 ok.2.1 hd (K ok ad H locs LS hR hS hAg (gl_bd_c gl_bd_n hst) hls hLS)
theorem gg_ldc {index : Nat} {v : Int32} (hd : decode M.1 pc = .ok (.ldc index, 2)) (hc : Cond.constant M.2.1 index v ∈ gl_T) (K : GG M x Z (pc + 2) ls (.int v :: st) S k) : GG M x Z pc ls (st) S k := by
  obtain ⟨p, l, e, R, s, m, args, below, meth, c, D, Kc, A, ad0, S0⟩ := x
  intro ok ad H locs LS hR hS hAg hst hls hLS
  exact lv_ldc ok.1 ok.2.1 ok.2.2.2.2.1 (ok.2.2.2.2.2.1 _ hc) hd (K ok ad H locs LS hR hS hAg (gl_bd_c gl_bd_i hst) hls hLS)
theorem gg_ldc_w {index : Nat} {v : Int32} (hd : decode M.1 pc = .ok (.ldc_w index, 3)) (hc : Cond.constant M.2.1 index v ∈ gl_T) (K : GG M x Z (pc + 3) ls (.int v :: st) S k) : GG M x Z pc ls (st) S k := by
  obtain ⟨p, l, e, R, s, m, args, below, meth, c, D, Kc, A, ad0, S0⟩ := x
  intro ok ad H locs LS hR hS hAg hst hls hLS
  exact lv_ldcw ok.1 ok.2.1 ok.2.2.2.2.1 (ok.2.2.2.2.2.1 _ hc) hd (K ok ad H locs LS hR hS hAg (gl_bd_c gl_bd_i hst) hls hLS)
theorem gg_ldc2 {index : Nat} {v : Int64} (hd : decode M.1 pc = .ok (.ldc2_w index, 3)) (hc : Cond.constantLong M.2.1 index v ∈ gl_T) (K : GG M x Z (pc + 3) ls (.long v :: st) S k) : GG M x Z pc ls (st) S k := by
  obtain ⟨p, l, e, R, s, m, args, below, meth, c, D, Kc, A, ad0, S0⟩ := x
  intro ok ad H locs LS hR hS hAg hst hls hLS
  exact lv_ldc2 ok.1 ok.2.1 ok.2.2.2.2.1 (ok.2.2.2.2.2.1 _ hc) hd (K ok ad H locs LS hR hS hAg (gl_bd_c gl_bd_l hst) hls hLS)
theorem gg_iload_n {kf : Fin 4} {i : Nat} {v : Int32} (hd : decode M.1 pc = .ok (.iload_n kf, 1)) (hi : (kf : Nat) = i) (hv : gl_lk ls i = some (.int v)) (K : GG M x Z (pc + 1) ls (.int v :: st) S k) : GG M x Z pc ls (st) S k := by
  obtain ⟨p, l, e, R, s, m, args, below, meth, c, D, Kc, A, ad0, S0⟩ := x
  intro ok ad H locs LS hR hS hAg hst hls hLS
  exact lv_iload_n ok.1 ok.2.1 hd hi (gl_lk_at hLS hv) (K ok ad H locs LS hR hS hAg (gl_bd_c (gl_bd_lk hls hv) hst) hls hLS)
theorem gg_iload {i : Nat} {v : Int32} (hd : decode M.1 pc = .ok (.iload i, 2)) (hv : gl_lk ls i = some (.int v)) (K : GG M x Z (pc + 2) ls (.int v :: st) S k) : GG M x Z pc ls (st) S k := by
  obtain ⟨p, l, e, R, s, m, args, below, meth, c, D, Kc, A, ad0, S0⟩ := x
  intro ok ad H locs LS hR hS hAg hst hls hLS
  exact lv_iload ok.1 ok.2.1 hd (gl_lk_at hLS hv) (K ok ad H locs LS hR hS hAg (gl_bd_c (gl_bd_lk hls hv) hst) hls hLS)
theorem gg_lload_n {kf : Fin 4} {i : Nat} {v : Int64} (hd : decode M.1 pc = .ok (.lload_n kf, 1)) (hi : (kf : Nat) = i) (hv : gl_lk ls i = some (.long v)) (K : GG M x Z (pc + 1) ls (.long v :: st) S k) : GG M x Z pc ls (st) S k := by
  obtain ⟨p, l, e, R, s, m, args, below, meth, c, D, Kc, A, ad0, S0⟩ := x
  intro ok ad H locs LS hR hS hAg hst hls hLS
  exact lv_lload_n ok.1 ok.2.1 hd hi (gl_lk_at hLS hv) (K ok ad H locs LS hR hS hAg (gl_bd_c (gl_bd_lk hls hv) hst) hls hLS)
theorem gg_lload {i : Nat} {v : Int64} (hd : decode M.1 pc = .ok (.lload i, 2)) (hv : gl_lk ls i = some (.long v)) (K : GG M x Z (pc + 2) ls (.long v :: st) S k) : GG M x Z pc ls (st) S k := by
  obtain ⟨p, l, e, R, s, m, args, below, meth, c, D, Kc, A, ad0, S0⟩ := x
  intro ok ad H locs LS hR hS hAg hst hls hLS
  exact lv_lload ok.1 ok.2.1 hd (gl_lk_at hLS hv) (K ok ad H locs LS hR hS hAg (gl_bd_c (gl_bd_lk hls hv) hst) hls hLS)
theorem gg_aload_n {kf : Fin 4} {i : Nat} {v : Nat} (hd : decode M.1 pc = .ok (.aload_n kf, 1)) (hi : (kf : Nat) = i) (hv : gl_lk ls i = some (.ref v)) (K : GG M x Z (pc + 1) ls (.ref v :: st) S k) : GG M x Z pc ls (st) S k := by
  obtain ⟨p, l, e, R, s, m, args, below, meth, c, D, Kc, A, ad0, S0⟩ := x
  intro ok ad H locs LS hR hS hAg hst hls hLS
  exact lv_aload_n ok.1 ok.2.1 hd hi (gl_lk_at hLS hv) (K ok ad H locs LS hR hS hAg (gl_bd_c (gl_bd_lk hls hv) hst) hls hLS)
theorem gg_aload {i : Nat} {v : Nat} (hd : decode M.1 pc = .ok (.aload i, 2)) (hv : gl_lk ls i = some (.ref v)) (K : GG M x Z (pc + 2) ls (.ref v :: st) S k) : GG M x Z pc ls (st) S k := by
  obtain ⟨p, l, e, R, s, m, args, below, meth, c, D, Kc, A, ad0, S0⟩ := x
  intro ok ad H locs LS hR hS hAg hst hls hLS
  exact lv_aload ok.1 ok.2.1 hd (gl_lk_at hLS hv) (K ok ad H locs LS hR hS hAg (gl_bd_c (gl_bd_lk hls hv) hst) hls hLS)
theorem gg_aload_nN {kf : Fin 4} {i : Nat} (hd : decode M.1 pc = .ok (.aload_n kf, 1)) (hi : (kf : Nat) = i) (hv : gl_lk ls i = some .null) (K : GG M x Z (pc + 1) ls (.null :: st) S k) : GG M x Z pc ls (st) S k := by
  obtain ⟨p, l, e, R, s, m, args, below, meth, c, D, Kc, A, ad0, S0⟩ := x
  intro ok ad H locs LS hR hS hAg hst hls hLS
  exact lv_aload_nN ok.1 ok.2.1 hd hi (gl_lk_at hLS hv) (K ok ad H locs LS hR hS hAg (gl_bd_c gl_bd_n hst) hls hLS)
theorem gg_aloadN {i : Nat} (hd : decode M.1 pc = .ok (.aload i, 2)) (hv : gl_lk ls i = some .null) (K : GG M x Z (pc + 2) ls (.null :: st) S k) : GG M x Z pc ls (st) S k := by
  obtain ⟨p, l, e, R, s, m, args, below, meth, c, D, Kc, A, ad0, S0⟩ := x
  intro ok ad H locs LS hR hS hAg hst hls hLS
  exact lv_aloadN ok.1 ok.2.1 hd (gl_lk_at hLS hv) (K ok ad H locs LS hR hS hAg (gl_bd_c gl_bd_n hst) hls hLS)
theorem gg_istore_n {kf : Fin 4} {i : Nat} {v : Int32} {ls2 : List (Option Value)} (hd : decode M.1 pc = .ok (.istore_n kf, 1)) (hi : (kf : Nat) = i) (hn : i < M.2.2.1) (hl : gl_s1 ls i (.int v) = ls2) (K : GG M x Z (pc + 1) ls2 st S k) : GG M x Z pc ls (.int v :: st) S k := by
  obtain ⟨p, l, e, R, s, m, args, below, meth, c, D, Kc, A, ad0, S0⟩ := x
  intro ok ad H locs LS hR hS hAg hst hls hLS
  subst hl
  exact lv_istore_n ok.1 ok.2.1 hd hi hLS hn rfl (fun LS2 h2 => K ok ad H locs LS2 hR hS hAg (gl_bd_t hst) (gl_s1_bd hls (gl_bd_h hst)) (gl_s1_has h2))
theorem gg_istore {i : Nat} {v : Int32} {ls2 : List (Option Value)} (hd : decode M.1 pc = .ok (.istore i, 2)) (hn : i < M.2.2.1) (hl : gl_s1 ls i (.int v) = ls2) (K : GG M x Z (pc + 2) ls2 st S k) : GG M x Z pc ls (.int v :: st) S k := by
  obtain ⟨p, l, e, R, s, m, args, below, meth, c, D, Kc, A, ad0, S0⟩ := x
  intro ok ad H locs LS hR hS hAg hst hls hLS
  subst hl
  exact lv_istore ok.1 ok.2.1 hd hLS hn rfl (fun LS2 h2 => K ok ad H locs LS2 hR hS hAg (gl_bd_t hst) (gl_s1_bd hls (gl_bd_h hst)) (gl_s1_has h2))
theorem gg_astore_n {kf : Fin 4} {i : Nat} {v : Nat} {ls2 : List (Option Value)} (hd : decode M.1 pc = .ok (.astore_n kf, 1)) (hi : (kf : Nat) = i) (hn : i < M.2.2.1) (hl : gl_s1 ls i (.ref v) = ls2) (K : GG M x Z (pc + 1) ls2 st S k) : GG M x Z pc ls (.ref v :: st) S k := by
  obtain ⟨p, l, e, R, s, m, args, below, meth, c, D, Kc, A, ad0, S0⟩ := x
  intro ok ad H locs LS hR hS hAg hst hls hLS
  subst hl
  exact lv_astore_n ok.1 ok.2.1 hd hi hLS hn rfl (fun LS2 h2 => K ok ad H locs LS2 hR hS hAg (gl_bd_t hst) (gl_s1_bd hls (gl_bd_h hst)) (gl_s1_has h2))
theorem gg_astore {i : Nat} {v : Nat} {ls2 : List (Option Value)} (hd : decode M.1 pc = .ok (.astore i, 2)) (hn : i < M.2.2.1) (hl : gl_s1 ls i (.ref v) = ls2) (K : GG M x Z (pc + 2) ls2 st S k) : GG M x Z pc ls (.ref v :: st) S k := by
  obtain ⟨p, l, e, R, s, m, args, below, meth, c, D, Kc, A, ad0, S0⟩ := x
  intro ok ad H locs LS hR hS hAg hst hls hLS
  subst hl
  exact lv_astore ok.1 ok.2.1 hd hLS hn rfl (fun LS2 h2 => K ok ad H locs LS2 hR hS hAg (gl_bd_t hst) (gl_s1_bd hls (gl_bd_h hst)) (gl_s1_has h2))
theorem gg_lstore_n {kf : Fin 4} {i : Nat} {v : Int64} {ls2 : List (Option Value)} (hd : decode M.1 pc = .ok (.lstore_n kf, 1)) (hi : (kf : Nat) = i) (hn : i + 1 < M.2.2.1) (hl : gl_s2 ls i (.long v) = ls2) (K : GG M x Z (pc + 1) ls2 st S k) : GG M x Z pc ls (.long v :: st) S k := by
  obtain ⟨p, l, e, R, s, m, args, below, meth, c, D, Kc, A, ad0, S0⟩ := x
  intro ok ad H locs LS hR hS hAg hst hls hLS
  subst hl
  exact lv_lstore_n ok.1 ok.2.1 hd hi hLS hn rfl (fun LS2 h2 => K ok ad H locs LS2 hR hS hAg (gl_bd_t hst) (gl_s2_bd hls (gl_bd_h hst)) (gl_s2_has h2))
theorem gg_lstore {i : Nat} {v : Int64} {ls2 : List (Option Value)} (hd : decode M.1 pc = .ok (.lstore i, 2)) (hn : i + 1 < M.2.2.1) (hl : gl_s2 ls i (.long v) = ls2) (K : GG M x Z (pc + 2) ls2 st S k) : GG M x Z pc ls (.long v :: st) S k := by
  obtain ⟨p, l, e, R, s, m, args, below, meth, c, D, Kc, A, ad0, S0⟩ := x
  intro ok ad H locs LS hR hS hAg hst hls hLS
  subst hl
  exact lv_lstore ok.1 ok.2.1 hd hLS hn rfl (fun LS2 h2 => K ok ad H locs LS2 hR hS hAg (gl_bd_t hst) (gl_s2_bd hls (gl_bd_h hst)) (gl_s2_has h2))
theorem gg_astore_nN {kf : Fin 4} {i : Nat} {ls2 : List (Option Value)} (hd : decode M.1 pc = .ok (.astore_n kf, 1)) (hi : (kf : Nat) = i) (hn : i < M.2.2.1) (hl : gl_s1 ls i (.null) = ls2) (K : GG M x Z (pc + 1) ls2 st S k) : GG M x Z pc ls (.null :: st) S k := by
  obtain ⟨p, l, e, R, s, m, args, below, meth, c, D, Kc, A, ad0, S0⟩ := x
  intro ok ad H locs LS hR hS hAg hst hls hLS
  subst hl
  exact lv_astore_nN ok.1 ok.2.1 hd hi hLS hn rfl (fun LS2 h2 => K ok ad H locs LS2 hR hS hAg (gl_bd_t hst) (gl_s1_bd hls (gl_bd_h hst)) (gl_s1_has h2))
theorem gg_astoreN {i : Nat} {ls2 : List (Option Value)} (hd : decode M.1 pc = .ok (.astore i, 2)) (hn : i < M.2.2.1) (hl : gl_s1 ls i (.null) = ls2) (K : GG M x Z (pc + 2) ls2 st S k) : GG M x Z pc ls (.null :: st) S k := by
  obtain ⟨p, l, e, R, s, m, args, below, meth, c, D, Kc, A, ad0, S0⟩ := x
  intro ok ad H locs LS hR hS hAg hst hls hLS
  subst hl
  exact lv_astoreN ok.1 ok.2.1 hd hLS hn rfl (fun LS2 h2 => K ok ad H locs LS2 hR hS hAg (gl_bd_t hst) (gl_s1_bd hls (gl_bd_h hst)) (gl_s1_has h2))
theorem gl_lk_place {ls : List (Option Value)} {ad : Nat → Nat} {i : Nat} {v : Value} (hv : gl_lk ls i = some v) : ∃ k : Nat, (gl_ma ad (gl_as 0 ls))[k]? = some (i, gl_mv ad v) := by
  have h := gl_lk_as 0 hv
  rw [Nat.zero_add] at h
  exact List.getElem?_of_mem (List.mem_map.mpr ⟨(i, v), h, rfl⟩)
theorem gg_iinc {i : Nat} {n : Int} {v w : Int32} {ls2 : List (Option Value)} (hd : decode M.1 pc = .ok (.iinc i n, 3)) (hv : gl_lk ls i = some (.int v)) (hw : v + Int32.ofInt n = w) (hn : i < M.2.2.1) (hl : gl_s1 ls i (.int w) = ls2) (K : GG M x Z (pc + 3) ls2 st S k) : GG M x Z pc ls st S k := by
  obtain ⟨p, l, e, R, s, m, args, below, meth, c, D, Kc, A, ad0, S0⟩ := x
  intro ok ad H locs LS hR hS hAg hst hls hLS
  subst hl
  obtain ⟨k9, hk9⟩ := gl_lk_place (ad := ad) hv
  exact lv_iinc ok.1 ok.2.1 hd hLS hk9 hw hn rfl (fun LS2 h2 => K ok ad H locs LS2 hR hS hAg hst (gl_s1_bd hls gl_bd_i) (gl_s1_has h2))
theorem gg_iadd {a b : Int32} (hd : decode M.1 pc = .ok (.iadd, 1)) (K : GG M x Z (pc + 1) ls (.int (a + b) :: st) S k) : GG M x Z pc ls (.int b :: .int a :: st) S k := by
  obtain ⟨p, l, e, R, s, m, args, below, meth, c, D, Kc, A, ad0, S0⟩ := x
  intro ok ad H locs LS hR hS hAg hst hls hLS
  exact lv_iadd ok.1 ok.2.1 hd (K ok ad H locs LS hR hS hAg (gl_bd_c gl_bd_i (gl_bd_t (gl_bd_t hst))) hls hLS)
theorem gg_isub {a b : Int32} (hd : decode M.1 pc = .ok (.isub, 1)) (K : GG M x Z (pc + 1) ls (.int (a - b) :: st) S k) : GG M x Z pc ls (.int b :: .int a :: st) S k := by
  obtain ⟨p, l, e, R, s, m, args, below, meth, c, D, Kc, A, ad0, S0⟩ := x
  intro ok ad H locs LS hR hS hAg hst hls hLS
  exact lv_isub ok.1 ok.2.1 hd (K ok ad H locs LS hR hS hAg (gl_bd_c gl_bd_i (gl_bd_t (gl_bd_t hst))) hls hLS)
theorem gg_imul {a b : Int32} (hd : decode M.1 pc = .ok (.imul, 1)) (K : GG M x Z (pc + 1) ls (.int (a * b) :: st) S k) : GG M x Z pc ls (.int b :: .int a :: st) S k := by
  obtain ⟨p, l, e, R, s, m, args, below, meth, c, D, Kc, A, ad0, S0⟩ := x
  intro ok ad H locs LS hR hS hAg hst hls hLS
  exact lv_imul ok.1 ok.2.1 hd (K ok ad H locs LS hR hS hAg (gl_bd_c gl_bd_i (gl_bd_t (gl_bd_t hst))) hls hLS)
theorem gg_iand {a b : Int32} (hd : decode M.1 pc = .ok (.iand, 1)) (K : GG M x Z (pc + 1) ls (.int (a &&& b) :: st) S k) : GG M x Z pc ls (.int b :: .int a :: st) S k := by
  obtain ⟨p, l, e, R, s, m, args, below, meth, c, D, Kc, A, ad0, S0⟩ := x
  intro ok ad H locs LS hR hS hAg hst hls hLS
  exact lv_iand ok.1 ok.2.1 hd (K ok ad H locs LS hR hS hAg (gl_bd_c gl_bd_i (gl_bd_t (gl_bd_t hst))) hls hLS)
theorem gg_ior {a b : Int32} (hd : decode M.1 pc = .ok (.ior, 1)) (K : GG M x Z (pc + 1) ls (.int (a ||| b) :: st) S k) : GG M x Z pc ls (.int b :: .int a :: st) S k := by
  obtain ⟨p, l, e, R, s, m, args, below, meth, c, D, Kc, A, ad0, S0⟩ := x
  intro ok ad H locs LS hR hS hAg hst hls hLS
  exact lv_ior ok.1 ok.2.1 hd (K ok ad H locs LS hR hS hAg (gl_bd_c gl_bd_i (gl_bd_t (gl_bd_t hst))) hls hLS)
theorem gg_ixor {a b : Int32} (hd : decode M.1 pc = .ok (.ixor, 1)) (K : GG M x Z (pc + 1) ls (.int (a ^^^ b) :: st) S k) : GG M x Z pc ls (.int b :: .int a :: st) S k := by
  obtain ⟨p, l, e, R, s, m, args, below, meth, c, D, Kc, A, ad0, S0⟩ := x
  intro ok ad H locs LS hR hS hAg hst hls hLS
  exact lv_ixor ok.1 ok.2.1 hd (K ok ad H locs LS hR hS hAg (gl_bd_c gl_bd_i (gl_bd_t (gl_bd_t hst))) hls hLS)
theorem gg_ishl {a b : Int32} (hd : decode M.1 pc = .ok (.ishl, 1)) (K : GG M x Z (pc + 1) ls (.int (a <<< (b &&& 31)) :: st) S k) : GG M x Z pc ls (.int b :: .int a :: st) S k := by
  obtain ⟨p, l, e, R, s, m, args, below, meth, c, D, Kc, A, ad0, S0⟩ := x
  intro ok ad H locs LS hR hS hAg hst hls hLS
  exact lv_ishl ok.1 ok.2.1 hd (K ok ad H locs LS hR hS hAg (gl_bd_c gl_bd_i (gl_bd_t (gl_bd_t hst))) hls hLS)
theorem gg_ishr {a b : Int32} (hd : decode M.1 pc = .ok (.ishr, 1)) (K : GG M x Z (pc + 1) ls (.int (a >>> (b &&& 31)) :: st) S k) : GG M x Z pc ls (.int b :: .int a :: st) S k := by
  obtain ⟨p, l, e, R, s, m, args, below, meth, c, D, Kc, A, ad0, S0⟩ := x
  intro ok ad H locs LS hR hS hAg hst hls hLS
  exact lv_ishr ok.1 ok.2.1 hd (K ok ad H locs LS hR hS hAg (gl_bd_c gl_bd_i (gl_bd_t (gl_bd_t hst))) hls hLS)
theorem gg_iushr {a b : Int32} (hd : decode M.1 pc = .ok (.iushr, 1)) (K : GG M x Z (pc + 1) ls (.int (a.toUInt32 >>> (b.toUInt32 &&& Int32.toUInt32 31)).toInt32 :: st) S k) : GG M x Z pc ls (.int b :: .int a :: st) S k := by
  obtain ⟨p, l, e, R, s, m, args, below, meth, c, D, Kc, A, ad0, S0⟩ := x
  intro ok ad H locs LS hR hS hAg hst hls hLS
  exact lv_iushr ok.1 ok.2.1 hd rfl (K ok ad H locs LS hR hS hAg (gl_bd_c gl_bd_i (gl_bd_t (gl_bd_t hst))) hls hLS)
theorem gg_irem {a b : Int32} (hd : decode M.1 pc = .ok (.irem, 1)) (hne : ¬ b = 0) (K : GG M x Z (pc + 1) ls (.int (a - a / b * b) :: st) S k) : GG M x Z pc ls (.int b :: .int a :: st) S k := by
  obtain ⟨p, l, e, R, s, m, args, below, meth, c, D, Kc, A, ad0, S0⟩ := x
  intro ok ad H locs LS hR hS hAg hst hls hLS
  exact lv_irem ok.1 ok.2.1 hd hne (K ok ad H locs LS hR hS hAg (gl_bd_c gl_bd_i (gl_bd_t (gl_bd_t hst))) hls hLS)
theorem gg_ladd {a b : Int64} (hd : decode M.1 pc = .ok (.ladd, 1)) (K : GG M x Z (pc + 1) ls (.long (a + b) :: st) S k) : GG M x Z pc ls (.long b :: .long a :: st) S k := by
  obtain ⟨p, l, e, R, s, m, args, below, meth, c, D, Kc, A, ad0, S0⟩ := x
  intro ok ad H locs LS hR hS hAg hst hls hLS
  exact lv_ladd ok.1 ok.2.1 hd (K ok ad H locs LS hR hS hAg (gl_bd_c gl_bd_l (gl_bd_t (gl_bd_t hst))) hls hLS)
theorem gg_lsub {a b : Int64} (hd : decode M.1 pc = .ok (.lsub, 1)) (K : GG M x Z (pc + 1) ls (.long (a - b) :: st) S k) : GG M x Z pc ls (.long b :: .long a :: st) S k := by
  obtain ⟨p, l, e, R, s, m, args, below, meth, c, D, Kc, A, ad0, S0⟩ := x
  intro ok ad H locs LS hR hS hAg hst hls hLS
  exact lv_lsub ok.1 ok.2.1 hd (K ok ad H locs LS hR hS hAg (gl_bd_c gl_bd_l (gl_bd_t (gl_bd_t hst))) hls hLS)
theorem gg_lmul {a b : Int64} (hd : decode M.1 pc = .ok (.lmul, 1)) (K : GG M x Z (pc + 1) ls (.long (a * b) :: st) S k) : GG M x Z pc ls (.long b :: .long a :: st) S k := by
  obtain ⟨p, l, e, R, s, m, args, below, meth, c, D, Kc, A, ad0, S0⟩ := x
  intro ok ad H locs LS hR hS hAg hst hls hLS
  exact lv_lmul ok.1 ok.2.1 hd (K ok ad H locs LS hR hS hAg (gl_bd_c gl_bd_l (gl_bd_t (gl_bd_t hst))) hls hLS)
theorem gg_lshl {a : Int64} {b : Int32} (hd : decode M.1 pc = .ok (.lshl, 1)) (K : GG M x Z (pc + 1) ls (.long (a <<< (b.toInt64 &&& 63)) :: st) S k) : GG M x Z pc ls (.int b :: .long a :: st) S k := by
  obtain ⟨p, l, e, R, s, m, args, below, meth, c, D, Kc, A, ad0, S0⟩ := x
  intro ok ad H locs LS hR hS hAg hst hls hLS
  exact lv_lshl ok.1 ok.2.1 hd rfl (K ok ad H locs LS hR hS hAg (gl_bd_c gl_bd_l (gl_bd_t (gl_bd_t hst))) hls hLS)
theorem gg_lshr {a : Int64} {b : Int32} (hd : decode M.1 pc = .ok (.lshr, 1)) (K : GG M x Z (pc + 1) ls (.long (a >>> (b.toInt64 &&& 63)) :: st) S k) : GG M x Z pc ls (.int b :: .long a :: st) S k := by
  obtain ⟨p, l, e, R, s, m, args, below, meth, c, D, Kc, A, ad0, S0⟩ := x
  intro ok ad H locs LS hR hS hAg hst hls hLS
  exact lv_lshr ok.1 ok.2.1 hd rfl (K ok ad H locs LS hR hS hAg (gl_bd_c gl_bd_l (gl_bd_t (gl_bd_t hst))) hls hLS)
theorem gg_lcmp {a b : Int64} (hd : decode M.1 pc = .ok (.lcmp, 1)) (K : GG M x Z (pc + 1) ls (.int (lg_cmp a b) :: st) S k) : GG M x Z pc ls (.long b :: .long a :: st) S k := by
  obtain ⟨p, l, e, R, s, m, args, below, meth, c, D, Kc, A, ad0, S0⟩ := x
  intro ok ad H locs LS hR hS hAg hst hls hLS
  exact W.lcmp ok.1 ok.2.1 hd (K ok ad H locs LS hR hS hAg (gl_bd_c gl_bd_i (gl_bd_t (gl_bd_t hst))) hls hLS)
theorem gg_i2l {a : Int32} (hd : decode M.1 pc = .ok (.i2l, 1)) (K : GG M x Z (pc + 1) ls (.long a.toInt64 :: st) S k) : GG M x Z pc ls (.int a :: st) S k := by
  obtain ⟨p, l, e, R, s, m, args, below, meth, c, D, Kc, A, ad0, S0⟩ := x
  intro ok ad H locs LS hR hS hAg hst hls hLS
  exact lv_i2l ok.1 ok.2.1 hd rfl (K ok ad H locs LS hR hS hAg (gl_bd_c gl_bd_l (gl_bd_t hst)) hls hLS)
theorem gg_l2i {a : Int64} (hd : decode M.1 pc = .ok (.l2i, 1)) (K : GG M x Z (pc + 1) ls (.int a.toInt32 :: st) S k) : GG M x Z pc ls (.long a :: st) S k := by
  obtain ⟨p, l, e, R, s, m, args, below, meth, c, D, Kc, A, ad0, S0⟩ := x
  intro ok ad H locs LS hR hS hAg hst hls hLS
  exact lv_l2i ok.1 ok.2.1 hd rfl (K ok ad H locs LS hR hS hAg (gl_bd_c gl_bd_i (gl_bd_t hst)) hls hLS)
theorem gg_i2b {a : Int32} (hd : decode M.1 pc = .ok (.i2b, 1)) (K : GG M x Z (pc + 1) ls (.int a.toInt8.toInt32 :: st) S k) : GG M x Z pc ls (.int a :: st) S k := by
  obtain ⟨p, l, e, R, s, m, args, below, meth, c, D, Kc, A, ad0, S0⟩ := x
  intro ok ad H locs LS hR hS hAg hst hls hLS
  exact lv_i2b ok.1 ok.2.1 hd rfl (K ok ad H locs LS hR hS hAg (gl_bd_c gl_bd_i (gl_bd_t hst)) hls hLS)
theorem gg_i2s {a : Int32} (hd : decode M.1 pc = .ok (.i2s, 1)) (K : GG M x Z (pc + 1) ls (.int a.toInt16.toInt32 :: st) S k) : GG M x Z pc ls (.int a :: st) S k := by
  obtain ⟨p, l, e, R, s, m, args, below, meth, c, D, Kc, A, ad0, S0⟩ := x
  intro ok ad H locs LS hR hS hAg hst hls hLS
  exact lv_i2s ok.1 ok.2.1 hd rfl (K ok ad H locs LS hR hS hAg (gl_bd_c gl_bd_i (gl_bd_t hst)) hls hLS)
theorem gg_dup {v : Value} (hd : decode M.1 pc = .ok (.dup, 1)) (hv : v.category = 1) (K : GG M x Z (pc + 1) ls (v :: v :: st) S k) : GG M x Z pc ls (v :: st) S k := by
  obtain ⟨p, l, e, R, s, m, args, below, meth, c, D, Kc, A, ad0, S0⟩ := x
  intro ok ad H locs LS hR hS hAg hst hls hLS
  exact lv_dup ok.1 ok.2.1 hd ((gl_mv_cat ad v).trans hv) (K ok ad H locs LS hR hS hAg (gl_bd_c (gl_bd_h hst) hst) hls hLS)
theorem gg_dup2 {v w : Value} (hd : decode M.1 pc = .ok (.dup2, 1)) (hv : v.category = 1) (hw : w.category = 1) (K : GG M x Z (pc + 1) ls (v :: w :: v :: w :: st) S k) : GG M x Z pc ls (v :: w :: st) S k := by
  obtain ⟨p, l, e, R, s, m, args, below, meth, c, D, Kc, A, ad0, S0⟩ := x
  intro ok ad H locs LS hR hS hAg hst hls hLS
  exact lv_dup2_11 ok.1 ok.2.1 hd ((gl_mv_cat ad v).trans hv) ((gl_mv_cat ad w).trans hw) (K ok ad H locs LS hR hS hAg (gl_bd_c (gl_bd_h hst) (gl_bd_c (gl_bd_h (gl_bd_t hst)) hst)) hls hLS)
theorem gg_goto {off : Int} {tgt : Nat} (hd : decode M.1 pc = .ok (.goto off, 3)) (ht : (pc : Int) + off = (tgt : Int)) (K : GG M x Z tgt ls (st) S k) : GG M x Z pc ls (st) S k := by
  obtain ⟨p, l, e, R, s, m, args, below, meth, c, D, Kc, A, ad0, S0⟩ := x
  intro ok ad H locs LS hR hS hAg hst hls hLS
  exact lv_goto ok.1 ok.2.1 hd ht (K ok ad H locs LS hR hS hAg (hst) hls hLS)
theorem gg_if_eq {a : Int32} {off : Int} {tgt : Nat} (hd : decode M.1 pc = .ok (.ifCond .eq off, 3)) (ht : (pc : Int) + off = (tgt : Int)) (kt : a = 0 → GG M x Z tgt ls st S k) (kf : ¬ (a = 0) → GG M x Z (pc + 3) ls st S k) : GG M x Z pc ls (.int a :: st) S k := by
  obtain ⟨p, l, e, R, s, m, args, below, meth, c, D, Kc, A, ad0, S0⟩ := x
  intro ok ad H locs LS hR hS hAg hst hls hLS
  exact lv_if_eq ok.1 ok.2.1 hd ht (fun h => kt h ok ad H locs LS hR hS hAg (gl_bd_t hst) hls hLS) (fun h => kf h ok ad H locs LS hR hS hAg (gl_bd_t hst) hls hLS)
theorem gg_icmp_eq {a b : Int32} {off : Int} {tgt : Nat} (hd : decode M.1 pc = .ok (.if_icmp .eq off, 3)) (ht : (pc : Int) + off = (tgt : Int)) (kt : a = b → GG M x Z tgt ls st S k) (kf : ¬ (a = b) → GG M x Z (pc + 3) ls st S k) : GG M x Z pc ls (.int b :: .int a :: st) S k := by
  obtain ⟨p, l, e, R, s, m, args, below, meth, c, D, Kc, A, ad0, S0⟩ := x
  intro ok ad H locs LS hR hS hAg hst hls hLS
  exact lv_icmp_eq ok.1 ok.2.1 hd ht (fun h => kt h ok ad H locs LS hR hS hAg (gl_bd_t (gl_bd_t hst)) hls hLS) (fun h => kf h ok ad H locs LS hR hS hAg (gl_bd_t (gl_bd_t hst)) hls hLS)
theorem gg_if_ne {a : Int32} {off : Int} {tgt : Nat} (hd : decode M.1 pc = .ok (.ifCond .ne off, 3)) (ht : (pc : Int) + off = (tgt : Int)) (kt : ¬ a = 0 → GG M x Z tgt ls st S k) (kf : a = 0 → GG M x Z (pc + 3) ls st S k) : GG M x Z pc ls (.int a :: st) S k := by
  obtain ⟨p, l, e, R, s, m, args, below, meth, c, D, Kc, A, ad0, S0⟩ := x
  intro ok ad H locs LS hR hS hAg hst hls hLS
  exact lv_if_ne ok.1 ok.2.1 hd ht (fun h => kt h ok ad H locs LS hR hS hAg (gl_bd_t hst) hls hLS) (fun h => kf h ok ad H locs LS hR hS hAg (gl_bd_t hst) hls hLS)
theorem gg_icmp_ne {a b : Int32} {off : Int} {tgt : Nat} (hd : decode M.1 pc = .ok (.if_icmp .ne off, 3)) (ht : (pc : Int) + off = (tgt : Int)) (kt : ¬ a = b → GG M x Z tgt ls st S k) (kf : a = b → GG M x Z (pc + 3) ls st S k) : GG M x Z pc ls (.int b :: .int a :: st) S k := by
  obtain ⟨p, l, e, R, s, m, args, below, meth, c, D, Kc, A, ad0, S0⟩ := x
  intro ok ad H locs LS hR hS hAg hst hls hLS
  exact lv_icmp_ne ok.1 ok.2.1 hd ht (fun h => kt h ok ad H locs LS hR hS hAg (gl_bd_t (gl_bd_t hst)) hls hLS) (fun h => kf h ok ad H locs LS hR hS hAg (gl_bd_t (gl_bd_t hst)) hls hLS)
theorem gg_if_lt {a : Int32} {off : Int} {tgt : Nat} (hd : decode M.1 pc = .ok (.ifCond .lt off, 3)) (ht : (pc : Int) + off = (tgt : Int)) (kt : a < 0 → GG M x Z tgt ls st S k) (kf : ¬ (a < 0) → GG M x Z (pc + 3) ls st S k) : GG M x Z pc ls (.int a :: st) S k := by
  obtain ⟨p, l, e, R, s, m, args, below, meth, c, D, Kc, A, ad0, S0⟩ := x
  intro ok ad H locs LS hR hS hAg hst hls hLS
  exact lv_if_lt ok.1 ok.2.1 hd ht (fun h => kt h ok ad H locs LS hR hS hAg (gl_bd_t hst) hls hLS) (fun h => kf h ok ad H locs LS hR hS hAg (gl_bd_t hst) hls hLS)
theorem gg_icmp_lt {a b : Int32} {off : Int} {tgt : Nat} (hd : decode M.1 pc = .ok (.if_icmp .lt off, 3)) (ht : (pc : Int) + off = (tgt : Int)) (kt : a < b → GG M x Z tgt ls st S k) (kf : ¬ (a < b) → GG M x Z (pc + 3) ls st S k) : GG M x Z pc ls (.int b :: .int a :: st) S k := by
  obtain ⟨p, l, e, R, s, m, args, below, meth, c, D, Kc, A, ad0, S0⟩ := x
  intro ok ad H locs LS hR hS hAg hst hls hLS
  exact lv_icmp_lt ok.1 ok.2.1 hd ht (fun h => kt h ok ad H locs LS hR hS hAg (gl_bd_t (gl_bd_t hst)) hls hLS) (fun h => kf h ok ad H locs LS hR hS hAg (gl_bd_t (gl_bd_t hst)) hls hLS)
theorem gg_if_ge {a : Int32} {off : Int} {tgt : Nat} (hd : decode M.1 pc = .ok (.ifCond .ge off, 3)) (ht : (pc : Int) + off = (tgt : Int)) (kt : 0 ≤ a → GG M x Z tgt ls st S k) (kf : ¬ (0 ≤ a) → GG M x Z (pc + 3) ls st S k) : GG M x Z pc ls (.int a :: st) S k := by
  obtain ⟨p, l, e, R, s, m, args, below, meth, c, D, Kc, A, ad0, S0⟩ := x
  intro ok ad H locs LS hR hS hAg hst hls hLS
  exact lv_if_ge ok.1 ok.2.1 hd ht (fun h => kt h ok ad H locs LS hR hS hAg (gl_bd_t hst) hls hLS) (fun h => kf h ok ad H locs LS hR hS hAg (gl_bd_t hst) hls hLS)
theorem gg_icmp_ge {a b : Int32} {off : Int} {tgt : Nat} (hd : decode M.1 pc = .ok (.if_icmp .ge off, 3)) (ht : (pc : Int) + off = (tgt : Int)) (kt : b ≤ a → GG M x Z tgt ls st S k) (kf : ¬ (b ≤ a) → GG M x Z (pc + 3) ls st S k) : GG M x Z pc ls (.int b :: .int a :: st) S k := by
  obtain ⟨p, l, e, R, s, m, args, below, meth, c, D, Kc, A, ad0, S0⟩ := x
  intro ok ad H locs LS hR hS hAg hst hls hLS
  exact lv_icmp_ge ok.1 ok.2.1 hd ht (fun h => kt h ok ad H locs LS hR hS hAg (gl_bd_t (gl_bd_t hst)) hls hLS) (fun h => kf h ok ad H locs LS hR hS hAg (gl_bd_t (gl_bd_t hst)) hls hLS)
theorem gg_if_gt {a : Int32} {off : Int} {tgt : Nat} (hd : decode M.1 pc = .ok (.ifCond .gt off, 3)) (ht : (pc : Int) + off = (tgt : Int)) (kt : 0 < a → GG M x Z tgt ls st S k) (kf : ¬ (0 < a) → GG M x Z (pc + 3) ls st S k) : GG M x Z pc ls (.int a :: st) S k := by
  obtain ⟨p, l, e, R, s, m, args, below, meth, c, D, Kc, A, ad0, S0⟩ := x
  intro ok ad H locs LS hR hS hAg hst hls hLS
  exact lv_if_gt ok.1 ok.2.1 hd ht (fun h => kt h ok ad H locs LS hR hS hAg (gl_bd_t hst) hls hLS) (fun h => kf h ok ad H locs LS hR hS hAg (gl_bd_t hst) hls hLS)
theorem gg_icmp_gt {a b : Int32} {off : Int} {tgt : Nat} (hd : decode M.1 pc = .ok (.if_icmp .gt off, 3)) (ht : (pc : Int) + off = (tgt : Int)) (kt : b < a → GG M x Z tgt ls st S k) (kf : ¬ (b < a) → GG M x Z (pc + 3) ls st S k) : GG M x Z pc ls (.int b :: .int a :: st) S k := by
  obtain ⟨p, l, e, R, s, m, args, below, meth, c, D, Kc, A, ad0, S0⟩ := x
  intro ok ad H locs LS hR hS hAg hst hls hLS
  exact lv_icmp_gt ok.1 ok.2.1 hd ht (fun h => kt h ok ad H locs LS hR hS hAg (gl_bd_t (gl_bd_t hst)) hls hLS) (fun h => kf h ok ad H locs LS hR hS hAg (gl_bd_t (gl_bd_t hst)) hls hLS)
theorem gg_if_le {a : Int32} {off : Int} {tgt : Nat} (hd : decode M.1 pc = .ok (.ifCond .le off, 3)) (ht : (pc : Int) + off = (tgt : Int)) (kt : a ≤ 0 → GG M x Z tgt ls st S k) (kf : ¬ (a ≤ 0) → GG M x Z (pc + 3) ls st S k) : GG M x Z pc ls (.int a :: st) S k := by
  obtain ⟨p, l, e, R, s, m, args, below, meth, c, D, Kc, A, ad0, S0⟩ := x
  intro ok ad H locs LS hR hS hAg hst hls hLS
  exact lv_if_le ok.1 ok.2.1 hd ht (fun h => kt h ok ad H locs LS hR hS hAg (gl_bd_t hst) hls hLS) (fun h => kf h ok ad H locs LS hR hS hAg (gl_bd_t hst) hls hLS)
theorem gg_icmp_le {a b : Int32} {off : Int} {tgt : Nat} (hd : decode M.1 pc = .ok (.if_icmp .le off, 3)) (ht : (pc : Int) + off = (tgt : Int)) (kt : a ≤ b → GG M x Z tgt ls st S k) (kf : ¬ (a ≤ b) → GG M x Z (pc + 3) ls st S k) : GG M x Z pc ls (.int b :: .int a :: st) S k := by
  obtain ⟨p, l, e, R, s, m, args, below, meth, c, D, Kc, A, ad0, S0⟩ := x
  intro ok ad H locs LS hR hS hAg hst hls hLS
  exact lv_icmp_le ok.1 ok.2.1 hd ht (fun h => kt h ok ad H locs LS hR hS hAg (gl_bd_t (gl_bd_t hst)) hls hLS) (fun h => kf h ok ad H locs LS hR hS hAg (gl_bd_t (gl_bd_t hst)) hls hLS)
theorem gg_ifnull {r : Nat} {off : Int} (hd : decode M.1 pc = .ok (.ifnull off, 3)) (K : GG M x Z (pc + 3) ls (st) S k) : GG M x Z pc ls (.ref r :: st) S k := by
  obtain ⟨p, l, e, R, s, m, args, below, meth, c, D, Kc, A, ad0, S0⟩ := x
  intro ok ad H locs LS hR hS hAg hst hls hLS
  exact lv_ifnull ok.1 ok.2.1 hd (K ok ad H locs LS hR hS hAg (gl_bd_t hst) hls hLS)
theorem gg_ifnullN {off : Int} {tgt : Nat} (hd : decode M.1 pc = .ok (.ifnull off, 3)) (ht : (pc : Int) + off = (tgt : Int)) (K : GG M x Z tgt ls (st) S k) : GG M x Z pc ls (.null :: st) S k := by
  obtain ⟨p, l, e, R, s, m, args, below, meth, c, D, Kc, A, ad0, S0⟩ := x
  intro ok ad H locs LS hR hS hAg hst hls hLS
  exact lv_ifnullN ok.1 ok.2.1 hd ht (K ok ad H locs LS hR hS hAg (gl_bd_t hst) hls hLS)
theorem gg_ifnonnull {r : Nat} {off : Int} {tgt : Nat} (hd : decode M.1 pc = .ok (.ifnonnull off, 3)) (ht : (pc : Int) + off = (tgt : Int)) (K : GG M x Z tgt ls (st) S k) : GG M x Z pc ls (.ref r :: st) S k := by
  obtain ⟨p, l, e, R, s, m, args, below, meth, c, D, Kc, A, ad0, S0⟩ := x
  intro ok ad H locs LS hR hS hAg hst hls hLS
  exact lv_ifnonnull ok.1 ok.2.1 hd ht (K ok ad H locs LS hR hS hAg (gl_bd_t hst) hls hLS)
theorem gg_ifnonnullN {off : Int} (hd : decode M.1 pc = .ok (.ifnonnull off, 3)) (K : GG M x Z (pc + 3) ls (st) S k) : GG M x Z pc ls (.null :: st) S k := by
  obtain ⟨p, l, e, R, s, m, args, below, meth, c, D, Kc, A, ad0, S0⟩ := x
  intro ok ad H locs LS hR hS hAg hst hls hLS
  exact lv_ifnonnullN ok.1 ok.2.1 hd (K ok ad H locs LS hR hS hAg (gl_bd_t hst) hls hLS)
theorem gg_tabIn {dflt lo hi : Int} {offs : Array Int} {len : Nat} {a : Int32} {off : Int} {tgt : Nat} (hd : decode M.1 pc = .ok (.tableswitch dflt lo hi offs, len)) (h1 : ¬ a.toInt < lo) (h2 : ¬ hi < a.toInt) (ho : offs[(a.toInt - lo).toNat]? = some off) (ht : (pc : Int) + off = (tgt : Int)) (K : GG M x Z tgt ls (st) S k) : GG M x Z pc ls (.int a :: st) S k := by
  obtain ⟨p, l, e, R, s, m, args, below, meth, c, D, Kc, A, ad0, S0⟩ := x
  intro ok ad H locs LS hR hS hAg hst hls hLS
  exact lv_tableIn ok.1 ok.2.1 hd h1 h2 ho ht (K ok ad H locs LS hR hS hAg (gl_bd_t hst) hls hLS)
theorem gg_tabOut {dflt lo hi : Int} {offs : Array Int} {len : Nat} {a : Int32} {tgt : Nat} (hd : decode M.1 pc = .ok (.tableswitch dflt lo hi offs, len)) (h : a.toInt < lo ∨ hi < a.toInt) (ht : (pc : Int) + dflt = (tgt : Int)) (K : GG M x Z tgt ls (st) S k) : GG M x Z pc ls (.int a :: st) S k := by
  obtain ⟨p, l, e, R, s, m, args, below, meth, c, D, Kc, A, ad0, S0⟩ := x
  intro ok ad H locs LS hR hS hAg hst hls hLS
  exact lv_tableOut ok.1 ok.2.1 hd h ht (K ok ad H locs LS hR hS hAg (gl_bd_t hst) hls hLS)
end GR
end
section
/-! rows that touch cells -/
section GC
variable {M : gl_M} {x : gl_X} {Z : State → Prop} {pc : Nat} {ls : List (Option Value)} {st : List Value} {S : gl_H} {k : Nat × Nat}
theorem gl_at {D : va_G} {K : Nat → ClassId} {A : Nat → Prop} {ad : Nat → Nat} {H : Heap} {pl : Nat} {c : gl_C} (hR : gl_R D K A ad S H) (hS : S pl = some c) : ∃ (L : List Nat) (j : Nat), (∀ p, S p ≠ none ↔ p ∈ L) ∧ L.Nodup ∧ va_P D gl_cl (gl_wl K ad S L) H ∧ va_D A (gl_wl K ad S L) ∧ gl_wf S ∧ (∀ p, S p ≠ none → ¬ gl_xt p) ∧ L[j]? = some pl ∧ (gl_wl K ad S L)[j]? = some (ad pl, gl_mE K ad c) := by
  obtain ⟨L, h1, h2, h3, h4, h5, h6⟩ := hR
  obtain ⟨j, hj⟩ := List.getElem?_of_mem ((h1 pl).mp (gl_some hS))
  exact ⟨L, j, h1, h2, h3, h4, h5, h6, hj, gl_wl_at hj hS⟩
theorem gl_Ag.pu {S0 : gl_H} {ad0 ad : Nat → Nat} {pl : Nat} {c : gl_C} (h : gl_Ag S0 ad0 S ad) : gl_Ag S0 ad0 (gl_pu S pl c) ad := fun p => ⟨fun q => by
  by_cases e : p = pl
  · rw [e, gl_pu_s]; exact fun z => by cases z
  · rw [gl_pu_n S c e]; exact (h p).1 q, (h p).2⟩
theorem gl_bd.pu {v : Value} {pl : Nat} {c : gl_C} (h : gl_bd S v) : gl_bd (gl_pu S pl c) v := fun r e => by
  rcases h r e with q | q
  · refine Or.inl ?_
    by_cases z : r = pl
    · rw [z, gl_pu_s]; exact fun y => by cases y
    · rw [gl_pu_n S c z]; exact q
  · exact Or.inr q
theorem gl_bds.pu {pl : Nat} {c : gl_C} (h : ∀ v ∈ st, gl_bd S v) : ∀ v ∈ st, gl_bd (gl_pu S pl c) v := fun v hv => (h v hv).pu
theorem gl_bdq.pu {pl : Nat} {c : gl_C} {l : List (Nat × Value)} (h : ∀ q ∈ l, gl_bd S q.2) : ∀ q ∈ l, gl_bd (gl_pu S pl c) q.2 := fun v hv => (h v hv).pu
theorem gl_fs {ad : Nat → Nat} {fs : List Value} {i : Nat} {v : Value} (h : fs[i]? = some v) : (fs.map (gl_mv ad))[i]? = some (gl_mv ad v) := by rw [List.getElem?_map, h]; rfl
theorem gg_get {C ref : String} {T : u_T} {N ci idx pl : Nat} {fs : List Value} {v : Value} (f : Nat) (hd : decode M.1 pc = .ok (.getfield idx, 3)) (hin : ∀ w ∈ u_ws C T N, w ∈ gl_T) (hc : gl_cl[ci]? = some (C, T, N)) (hf : f < N) (hl : Cond.fieldLink M.2.1 idx ref (T f).2.1 (T f).2.2.1 ∈ gl_T) (hr : ref = (T f).1) (hS : S pl = some (.inr (ci, fs))) (hv : fs[f]? = some v) (K : GG M x Z (pc + 3) ls (v :: st) S k) : GG M x Z pc ls (.ref pl :: st) S k := by
  obtain ⟨p, l, e, R, s, m, args, below, meth, c, D, Kc, A, ad0, S0⟩ := x
  intro ok ad H locs LS hR hSS hAg hst hls hLS
  subst hr
  obtain ⟨L, j, h1, h2, h3, h4, h5, h6, h7, h8⟩ := gl_at hR hS
  have hbv : gl_bd S v := fun r e => Or.inl (h5 pl _ hS r (by rw [e] at hv; exact List.mem_of_getElem? hv))
  exact va_get ok.1 ok.2.1 ok.2.2.2.2.2.1 hin ok.2.2.2.2.1 ok.2.2.2.2.2.2.2.2.2.1 h3 j h8 hc f hf (ok.2.2.2.2.2.1 _ hl) (fun _ h => h) (gl_fs hv) hd (K ok ad H locs LS hR hSS hAg (gl_bd_c hbv (gl_bd_t hst)) hls hLS)
theorem gg_put {C ref : String} {T : u_T} {ty0 : Nat → FieldType} {N ci idx pl : Nat} {fs : List Value} {v : Value} {ty : FieldType} (f : Nat) (hd : decode M.1 pc = .ok (.putfield idx, 3)) (hin : ∀ w ∈ u_ws C T N, w ∈ gl_T) (hty : ∀ k, k < N → parseFieldDescriptor (T k).2.2.1 = some (ty0 k)) (hnm : ∀ a, a < N → ∀ b, b < N → a ≠ b → (T a).2.1 ≠ (T b).2.1) (hc : gl_cl[ci]? = some (C, T, N)) (hf : f < N) (hl : Cond.fieldLink M.2.1 idx ref (T f).2.1 (T f).2.2.1 ∈ gl_T) (hr : ref = (T f).1) (hfin : (T f).2.2.2 = false) (htd : parseFieldDescriptor (T f).2.2.1 = some ty)
    (hS : S pl = some (.inr (ci, fs))) (hlen : f < fs.length) (hn : narrow ty v = v) (hfit : fits ty v = true) (hnr : ∀ r, v ≠ .ref r) (K : GG M x Z (pc + 3) ls st (gl_pu S pl (.inr (ci, fs.set f v))) k) : GG M x Z pc ls (v :: .ref pl :: st) S k := by
  obtain ⟨p, l, e, R, s, m, args, below, meth, c, D, Kc, A, ad0, S0⟩ := x
  intro ok ad H locs LS hR hSS hAg hst hls hLS
  subst hr
  obtain ⟨L, j, h1, h2, h3, h4, h5, h6, h7, h8⟩ := gl_at hR hS
  have hmv : gl_mv ad v = v := by
    cases v with
    | ref r => exact absurd rfl (hnr r)
    | _ => rfl
  have hset : (fs.map (gl_mv ad)).set f v = (fs.set f v).map (gl_mv ad) := by rw [List.map_set, hmv]
  show W p l e R s m args below meth c H locs k.1 k.2 Z (F0 m pc LS (gl_mv ad v :: .ref (ad pl) :: st.map (gl_mv ad)))
  rw [hmv]
  refine va_put ok.1 ok.2.1 ok.2.2.2.2.2.1 hin ty0 hty hnm ok.2.2.2.2.1 ok.2.2.2.2.2.2.2.2.2.1 h3 h4 hSS j h8 hc f hf (ok.2.2.2.2.2.1 _ hl) (fun _ h => h) hfin htd hn hfit (by rw [List.length_map]; exact hlen) hd (fun H1 locs1 q1 q2 q3 => ?_)
  rw [hset] at q1 q2
  refine K ok ad H1 locs1 LS (gl_R.pu (c' := .inr (ci, fs.set f v)) h1 h2 h5 h6 h7 hS (fun r hr => Or.inl ?_) q1 q2) q3 hAg.pu (gl_bds.pu (gl_bd_t (gl_bd_t hst))) (gl_bdq.pu hls) hLS
  rcases List.mem_or_eq_of_mem_set (show Value.ref r ∈ fs.set f v from hr) with h | h
  · exact h
  · exact absurd h.symm (hnr r)
/-- a reference, in a constructor's final field -/
theorem gg_putF {C ref : String} {T : u_T} {ty0 : Nat → FieldType} {N ci idx pl rv : Nat} {fs : List Value} {ty : FieldType} (f : Nat) (hd : decode M.1 pc = .ok (.putfield idx, 3)) (hin : ∀ w ∈ u_ws C T N, w ∈ gl_T) (hty : ∀ k, k < N → parseFieldDescriptor (T k).2.2.1 = some (ty0 k)) (hnm : ∀ a, a < N → ∀ b, b < N → a ≠ b → (T a).2.1 ≠ (T b).2.1) (hc : gl_cl[ci]? = some (C, T, N)) (hf : f < N) (hl : Cond.fieldLink M.2.1 idx ref (T f).2.1 (T f).2.2.1 ∈ gl_T) (hr : ref = (T f).1) (hfin : (T f).2.2.2 = true) (hi : M.2.2.2.2.1 = true) (ho : (T f).1 = M.2.1) (htd : parseFieldDescriptor (T f).2.2.1 = some ty)
    (hS : S pl = some (.inr (ci, fs))) (hlen : f < fs.length) (hn : ∀ a : Nat, narrow ty (.ref a) = .ref a ∧ fits ty (.ref a) = true) (hrv : S rv ≠ none) (K : GG M x Z (pc + 3) ls st (gl_pu S pl (.inr (ci, fs.set f (.ref rv)))) k) : GG M x Z pc ls (.ref rv :: .ref pl :: st) S k := by
  obtain ⟨p, l, e, R, s, m, args, below, meth, c, D, Kc, A, ad0, S0⟩ := x
  intro ok ad H locs LS hR hSS hAg hst hls hLS
  subst hr
  obtain ⟨L, j, h1, h2, h3, h4, h5, h6, h7, h8⟩ := gl_at hR hS
  have hset : (fs.map (gl_mv ad)).set f (gl_mv ad (.ref rv)) = (fs.set f (.ref rv)).map (gl_mv ad) := by rw [List.map_set]
  refine va_putF ok.1 ok.2.1 ok.2.2.2.2.2.1 hin ty0 hty hnm ok.2.2.2.2.1 ok.2.2.2.2.2.2.2.2.2.1 h3 h4 hSS j h8 hc f hf (ok.2.2.2.2.2.1 _ hl) (fun _ h => h) hfin (ok.2.2.2.2.2.2.2.1 hi) ho htd (hn (ad rv)).1 (hn (ad rv)).2 (by rw [List.length_map]; exact hlen) hd (fun H1 locs1 q1 q2 q3 => ?_)
  rw [hset] at q1 q2
  refine K ok ad H1 locs1 LS (gl_R.pu (c' := .inr (ci, fs.set f (.ref rv))) h1 h2 h5 h6 h7 hS (fun r hr => ?_) q1 q2) q3 hAg.pu (gl_bds.pu (gl_bd_t (gl_bd_t hst))) (gl_bdq.pu hls) hLS
  rcases List.mem_or_eq_of_mem_set (show Value.ref r ∈ fs.set f (.ref rv) from hr) with h | h
  · exact Or.inl h
  · cases h; exact Or.inr hrv
/-- a number, in a constructor's final field -/
theorem gg_putFi {C ref : String} {T : u_T} {ty0 : Nat → FieldType} {N ci idx pl : Nat} {fs : List Value} {a : Int32} (f : Nat) (hd : decode M.1 pc = .ok (.putfield idx, 3)) (hin : ∀ w ∈ u_ws C T N, w ∈ gl_T) (hty : ∀ k, k < N → parseFieldDescriptor (T k).2.2.1 = some (ty0 k)) (hnm : ∀ a, a < N → ∀ b, b < N → a ≠ b → (T a).2.1 ≠ (T b).2.1) (hc : gl_cl[ci]? = some (C, T, N)) (hf : f < N) (hl : Cond.fieldLink M.2.1 idx ref (T f).2.1 (T f).2.2.1 ∈ gl_T) (hr : ref = (T f).1) (hfin : (T f).2.2.2 = true) (hi : M.2.2.2.2.1 = true) (ho : (T f).1 = M.2.1) (htd : parseFieldDescriptor (T f).2.2.1 = some .int)
    (hS : S pl = some (.inr (ci, fs))) (hlen : f < fs.length) (K : GG M x Z (pc + 3) ls st (gl_pu S pl (.inr (ci, fs.set f (.int a)))) k) : GG M x Z pc ls (.int a :: .ref pl :: st) S k := by
  obtain ⟨p, l, e, R, s, m, args, below, meth, c, D, Kc, A, ad0, S0⟩ := x
  intro ok ad H locs LS hR hSS hAg hst hls hLS
  subst hr
  obtain ⟨L, j, h1, h2, h3, h4, h5, h6, h7, h8⟩ := gl_at hR hS
  have hset : (fs.map (gl_mv ad)).set f (gl_mv ad (.int a)) = (fs.set f (.int a)).map (gl_mv ad) := by rw [List.map_set]
  refine va_putF ok.1 ok.2.1 ok.2.2.2.2.2.1 hin ty0 hty hnm ok.2.2.2.2.1 ok.2.2.2.2.2.2.2.2.2.1 h3 h4 hSS j h8 hc f hf (ok.2.2.2.2.2.1 _ hl) (fun _ h => h) hfin (ok.2.2.2.2.2.2.2.1 hi) ho htd rfl rfl (by rw [List.length_map]; exact hlen) hd (fun H1 locs1 q1 q2 q3 => ?_)
  rw [hset] at q1 q2
  refine K ok ad H1 locs1 LS (gl_R.pu (c' := .inr (ci, fs.set f (.int a))) h1 h2 h5 h6 h7 hS (fun r hr => Or.inl ?_) q1 q2) q3 hAg.pu (gl_bds.pu (gl_bd_t (gl_bd_t hst))) (gl_bdq.pu hls) hLS
  rcases List.mem_or_eq_of_mem_set (show Value.ref r ∈ fs.set f (.int a) from hr) with h | h
  · exact h
  · cases h
theorem gg_ald_i {n pl : Nat} {f : Nat → Int32} {i : Int32} (j : Nat) (hd : decode M.1 pc = .ok (.iaload, 1)) (hS : S pl = some (.inl (0, n, .inl f))) (hi : i = nI j) (hj : j < n) (hn : n < 2 ^ 31) (K : GG M x Z (pc + 1) ls (.int (f j) :: st) S k) : GG M x Z pc ls (.int i :: .ref pl :: st) S k := by
  obtain ⟨p, l, e, R, s, m, args, below, meth, c, D, Kc, A, ad0, S0⟩ := x
  intro ok ad H locs LS hR hSS hAg hst hls hLS
  subst hi
  obtain ⟨L, q, h1, h2, h3, h4, h5, h6, h7, h8⟩ := gl_at hR hS
  refine va_iald ok.1 ok.2.1 ok.2.2.2.2.2.2.2.2.2.1 h3 q 0 h8 rfl (vp_in_nI hj hn) hd ?_
  rw [nI_clamp (by omega)]
  exact K ok ad H locs LS hR hSS hAg (gl_bd_c gl_bd_i (gl_bd_t (gl_bd_t hst))) hls hLS
theorem gg_ald_l {n pl : Nat} {f : Nat → Int64} {i : Int32} (j : Nat) (hd : decode M.1 pc = .ok (.laload, 1)) (hS : S pl = some (.inl (1, n, .inr (.inl f)))) (hi : i = nI j) (hj : j < n) (hn : n < 2 ^ 31) (K : GG M x Z (pc + 1) ls (.long (f j) :: st) S k) : GG M x Z pc ls (.int i :: .ref pl :: st) S k := by
  obtain ⟨p, l, e, R, s, m, args, below, meth, c, D, Kc, A, ad0, S0⟩ := x
  intro ok ad H locs LS hR hSS hAg hst hls hLS
  subst hi
  obtain ⟨L, q, h1, h2, h3, h4, h5, h6, h7, h8⟩ := gl_at hR hS
  refine va_lald ok.1 ok.2.1 ok.2.2.2.2.2.2.2.2.2.1 h3 q 1 h8 rfl (vp_in_nI hj hn) hd ?_
  rw [nI_clamp (by omega)]
  exact K ok ad H locs LS hR hSS hAg (gl_bd_c gl_bd_l (gl_bd_t (gl_bd_t hst))) hls hLS
theorem gg_ald_b {n pl : Nat} {f : Nat → Int32} {i : Int32} (j : Nat) (hd : decode M.1 pc = .ok (.baload, 1)) (hS : S pl = some (.inl (2, n, .inl f))) (hi : i = nI j) (hj : j < n) (hn : n < 2 ^ 31) (K : GG M x Z (pc + 1) ls (.int (f j) :: st) S k) : GG M x Z pc ls (.int i :: .ref pl :: st) S k := by
  obtain ⟨p, l, e, R, s, m, args, below, meth, c, D, Kc, A, ad0, S0⟩ := x
  intro ok ad H locs LS hR hSS hAg hst hls hLS
  subst hi
  obtain ⟨L, q, h1, h2, h3, h4, h5, h6, h7, h8⟩ := gl_at hR hS
  refine va_bald ok.1 ok.2.1 ok.2.2.2.2.2.2.2.2.2.1 h3 q 2 h8 rfl (vp_in_nI hj hn) hd ?_
  rw [nI_clamp (by omega)]
  exact K ok ad H locs LS hR hSS hAg (gl_bd_c gl_bd_i (gl_bd_t (gl_bd_t hst))) hls hLS
theorem gg_ald_s {n pl : Nat} {f : Nat → Int32} {i : Int32} (j : Nat) (hd : decode M.1 pc = .ok (.saload, 1)) (hS : S pl = some (.inl (3, n, .inl f))) (hi : i = nI j) (hj : j < n) (hn : n < 2 ^ 31) (K : GG M x Z (pc + 1) ls (.int (f j) :: st) S k) : GG M x Z pc ls (.int i :: .ref pl :: st) S k := by
  obtain ⟨p, l, e, R, s, m, args, below, meth, c, D, Kc, A, ad0, S0⟩ := x
  intro ok ad H locs LS hR hSS hAg hst hls hLS
  subst hi
  obtain ⟨L, q, h1, h2, h3, h4, h5, h6, h7, h8⟩ := gl_at hR hS
  refine va_sald ok.1 ok.2.1 ok.2.2.2.2.2.2.2.2.2.1 h3 q 3 h8 rfl (vp_in_nI hj hn) hd ?_
  rw [nI_clamp (by omega)]
  exact K ok ad H locs LS hR hSS hAg (gl_bd_c gl_bd_i (gl_bd_t (gl_bd_t hst))) hls hLS
theorem gg_ast_i {n pl : Nat} {f : Nat → Int32} {i a : Int32} (j : Nat) (hd : decode M.1 pc = .ok (.iastore, 1)) (hS : S pl = some (.inl (0, n, .inl f))) (hi : i = nI j) (hj : j < n) (hn : n < 2 ^ 31) (K : GG M x Z (pc + 1) ls st (gl_pu S pl (.inl (0, n, .inl (upd f j a)))) k) : GG M x Z pc ls (.int a :: .int i :: .ref pl :: st) S k := by
  obtain ⟨p, l, e, R, s, m, args, below, meth, c, D, Kc, A, ad0, S0⟩ := x
  intro ok ad H locs LS hR hSS hAg hst hls hLS
  subst hi
  obtain ⟨L, q, h1, h2, h3, h4, h5, h6, h7, h8⟩ := gl_at hR hS
  refine va_iast ok.1 ok.2.1 ok.2.2.2.2.2.2.2.2.2.1 h3 h4 hSS q 0 h8 rfl (vp_in_nI hj hn) hd (fun H1 locs1 q1 q2 q3 => ?_)
  rw [nI_clamp (by omega)] at q1 q2
  exact K ok ad H1 locs1 LS (gl_R.pu (c' := .inl (0, n, .inl (upd f j a))) h1 h2 h5 h6 h7 hS (fun r hr => hr.elim) q1 q2) q3 hAg.pu (gl_bds.pu (gl_bd_t (gl_bd_t (gl_bd_t hst)))) (gl_bdq.pu hls) hLS
theorem gg_ast_l {n pl : Nat} {f : Nat → Int64} {i : Int32} {a : Int64} (j : Nat) (hd : decode M.1 pc = .ok (.lastore, 1)) (hS : S pl = some (.inl (1, n, .inr (.inl f)))) (hi : i = nI j) (hj : j < n) (hn : n < 2 ^ 31) (K : GG M x Z (pc + 1) ls st (gl_pu S pl (.inl (1, n, .inr (.inl (vp_updL f j a))))) k) : GG M x Z pc ls (.long a :: .int i :: .ref pl :: st) S k := by
  obtain ⟨p, l, e, R, s, m, args, below, meth, c, D, Kc, A, ad0, S0⟩ := x
  intro ok ad H locs LS hR hSS hAg hst hls hLS
  subst hi
  obtain ⟨L, q, h1, h2, h3, h4, h5, h6, h7, h8⟩ := gl_at hR hS
  refine va_last ok.1 ok.2.1 ok.2.2.2.2.2.2.2.2.2.1 h3 h4 hSS q 1 h8 rfl (vp_in_nI hj hn) hd (fun H1 locs1 q1 q2 q3 => ?_)
  rw [nI_clamp (by omega)] at q1 q2
  exact K ok ad H1 locs1 LS (gl_R.pu (c' := .inl (1, n, .inr (.inl (vp_updL f j a)))) h1 h2 h5 h6 h7 hS (fun r hr => hr.elim) q1 q2) q3 hAg.pu (gl_bds.pu (gl_bd_t (gl_bd_t (gl_bd_t hst)))) (gl_bdq.pu hls) hLS
theorem gg_ast_b {n pl : Nat} {f : Nat → Int32} {i a : Int32} (j : Nat) (hd : decode M.1 pc = .ok (.bastore, 1)) (hS : S pl = some (.inl (2, n, .inl f))) (hi : i = nI j) (hj : j < n) (hn : n < 2 ^ 31) (K : GG M x Z (pc + 1) ls st (gl_pu S pl (.inl (2, n, .inl (upd f j (vp_nar .byte a))))) k) : GG M x Z pc ls (.int a :: .int i :: .ref pl :: st) S k := by
  obtain ⟨p, l, e, R, s, m, args, below, meth, c, D, Kc, A, ad0, S0⟩ := x
  intro ok ad H locs LS hR hSS hAg hst hls hLS
  subst hi
  obtain ⟨L, q, h1, h2, h3, h4, h5, h6, h7, h8⟩ := gl_at hR hS
  refine va_bast ok.1 ok.2.1 ok.2.2.2.2.2.2.2.2.2.1 h3 h4 hSS q 2 h8 rfl (vp_in_nI hj hn) hd (fun H1 locs1 q1 q2 q3 => ?_)
  rw [nI_clamp (by omega)] at q1 q2
  exact K ok ad H1 locs1 LS (gl_R.pu (c' := .inl (2, n, .inl (upd f j (vp_nar .byte a)))) h1 h2 h5 h6 h7 hS (fun r hr => hr.elim) q1 q2) q3 hAg.pu (gl_bds.pu (gl_bd_t (gl_bd_t (gl_bd_t hst)))) (gl_bdq.pu hls) hLS
theorem gg_ast_s {n pl : Nat} {f : Nat → Int32} {i a : Int32} (j : Nat) (hd : decode M.1 pc = .ok (.sastore, 1)) (hS : S pl = some (.inl (3, n, .inl f))) (hi : i = nI j) (hj : j < n) (hn : n < 2 ^ 31) (K : GG M x Z (pc + 1) ls st (gl_pu S pl (.inl (3, n, .inl (upd f j (vp_nar .short a))))) k) : GG M x Z pc ls (.int a :: .int i :: .ref pl :: st) S k := by
  obtain ⟨p, l, e, R, s, m, args, below, meth, c, D, Kc, A, ad0, S0⟩ := x
  intro ok ad H locs LS hR hSS hAg hst hls hLS
  subst hi
  obtain ⟨L, q, h1, h2, h3, h4, h5, h6, h7, h8⟩ := gl_at hR hS
  refine va_sast ok.1 ok.2.1 ok.2.2.2.2.2.2.2.2.2.1 h3 h4 hSS q 3 h8 rfl (vp_in_nI hj hn) hd (fun H1 locs1 q1 q2 q3 => ?_)
  rw [nI_clamp (by omega)] at q1 q2
  exact K ok ad H1 locs1 LS (gl_R.pu (c' := .inl (3, n, .inl (upd f j (vp_nar .short a)))) h1 h2 h5 h6 h7 hS (fun r hr => hr.elim) q1 q2) q3 hAg.pu (gl_bds.pu (gl_bd_t (gl_bd_t (gl_bd_t hst)))) (gl_bdq.pu hls) hLS
/-- an array of objects: what it holds at j -/
theorem gg_ald_q {n pl : Nat} {f : Nat → Option Nat} {i : Int32} (t : Nat) (C : String) (ht : ∀ K, (gl_ty K)[t]? = some (K t, .object C)) (j : Nat) (hd : decode M.1 pc = .ok (.aaload, 1)) (hS : S pl = some (.inl (t, n, .inr (.inr (.inr (.inr f)))))) (hi : i = nI j) (hj : j < n) (hn : n < 2 ^ 31) {r : Nat} (hr : f j = some r) (K : GG M x Z (pc + 1) ls (.ref r :: st) S k) : GG M x Z pc ls (.int i :: .ref pl :: st) S k := by
  obtain ⟨p, l, e, R, s, m, args, below, meth, c, D, Kc, A, ad0, S0⟩ := x
  intro ok ad H locs LS hR hSS hAg hst hls hLS
  subst hi
  obtain ⟨L, q, h1, h2, h3, h4, h5, h6, h7, h8⟩ := gl_at hR hS
  refine va_aldq ok.1 ok.2.1 ok.2.2.2.2.2.2.2.2.2.1 h3 q t h8 (ht Kc) (vp_in_nI hj hn) hd ?_
  rw [nI_clamp (by omega), hr]
  have hb : gl_bd S (.ref r) := fun r2 e2 => by cases e2; exact Or.inl (h5 pl _ hS r ⟨j, hr⟩)
  exact K ok ad H locs LS hR hSS hAg (gl_bd_c hb (gl_bd_t (gl_bd_t hst))) hls hLS
/-- an array of rows of longs: its row at j -/
theorem gg_ald_r {n pl : Nat} {f : Nat → Option Nat} {i : Int32} (j : Nat) (hd : decode M.1 pc = .ok (.aaload, 1)) (hS : S pl = some (.inl (6, n, .inr (.inr (.inr (.inr f)))))) (hi : i = nI j) (hj : j < n) (hn : n < 2 ^ 31) {r : Nat} (hr : f j = some r) (K : GG M x Z (pc + 1) ls (.ref r :: st) S k) : GG M x Z pc ls (.int i :: .ref pl :: st) S k := by
  obtain ⟨p, l, e, R, s, m, args, below, meth, c, D, Kc, A, ad0, S0⟩ := x
  intro ok ad H locs LS hR hSS hAg hst hls hLS
  subst hi
  obtain ⟨L, q, h1, h2, h3, h4, h5, h6, h7, h8⟩ := gl_at hR hS
  have hlt : (nI j).toNatClampNeg < n := by rw [nI_clamp (by omega)]; exact hj
  have hcell : H[ad pl]? = some (arrV (Kc 6) n (fun j => va_rf ((f j).map ad))) := h3 q _ h8
  refine W.aald (v := va_rf ((f (nI j).toNatClampNeg).map ad)) (ty := .array .long) ok.1 ok.2.1 hcell ((ok.2.2.2.2.2.2.2.2.2.1.2 6 (Kc 6, .array .long) rfl).1 n (fun j => va_rf ((f j).map ad))) rfl (fun q => by cases q) (by rw [arrV_size]; exact vp_in_nI hj hn) (by rw [arrV_read _ _ hlt]) rfl rfl hd ?_
  show W p l e R s m args below meth c H locs k.1 k.2 Z (F0 m (pc + 1) LS (va_rf ((f (nI j).toNatClampNeg).map ad) :: st.map (gl_mv ad)))
  rw [nI_clamp (by omega), hr]
  have hb : gl_bd S (.ref r) := fun r2 e2 => by cases e2; exact Or.inl (h5 pl _ hS r ⟨j, hr⟩)
  exact K ok ad H locs LS hR hSS hAg (gl_bd_c hb (gl_bd_t (gl_bd_t hst))) hls hLS
/-- an object comes into an array of its class -/
theorem gg_ast_q {n pl v ci : Nat} {vs : List Value} {q0 : vw_C} {f : Nat → Option Nat} {i : Int32} (t : Nat) (ht : ∀ K, (gl_ty K)[t]? = some (K t, .object q0.1)) (hc : gl_cl[ci]? = some q0) (j : Nat) (hd : decode M.1 pc = .ok (.aastore, 1)) (hS : S pl = some (.inl (t, n, .inr (.inr (.inr (.inr f)))))) (hv : S v = some (.inr (ci, vs))) (hi : i = nI j) (hj : j < n) (hn : n < 2 ^ 31) (K : GG M x Z (pc + 1) ls st (gl_pu S pl (.inl (t, n, .inr (.inr (.inr (.inr (va_up f j (some v)))))))) k) : GG M x Z pc ls (.ref v :: .int i :: .ref pl :: st) S k := by
  obtain ⟨p, l, e, R, s, m, args, below, meth, c, D, Kc, A, ad0, S0⟩ := x
  intro ok ad H locs LS hR hSS hAg hst hls hLS
  subst hi
  obtain ⟨L, q, h1, h2, h3, h4, h5, h6, h7, h8⟩ := gl_at hR hS
  obtain ⟨q9, h9⟩ := List.getElem?_of_mem ((h1 v).mp (gl_some hv))
  have e9 : (fun z => ((va_up f j (some v)) z).map ad) = va_up (fun z => (f z).map ad) j (some (ad v)) := by
    funext z
    by_cases h : z = j
    · simp [va_up, h]
    · simp [va_up, h]
  refine va_astq ok.1 ok.2.1 ok.2.2.2.2.2.2.2.2.2.1 h3 h4 hSS q t q9 ci h8 (ht Kc) (gl_wl_at h9 hv) hc (vp_in_nI hj hn) hd (fun H1 locs1 q1 q2 q3 => ?_)
  rw [nI_clamp (by omega), ← e9] at q1 q2
  refine K ok ad H1 locs1 LS (gl_R.pu (c' := .inl (t, n, .inr (.inr (.inr (.inr (va_up f j (some v))))))) h1 h2 h5 h6 h7 hS (fun r hr => ?_) q1 q2) q3 hAg.pu (gl_bds.pu (gl_bd_t (gl_bd_t (gl_bd_t hst)))) (gl_bdq.pu hls) hLS
  obtain ⟨z, hz⟩ := hr
  by_cases h : z = j
  · simp [va_up, h] at hz
    rw [← hz]
    exact Or.inr (gl_some hv)
  · simp [va_up, h] at hz
    exact Or.inl ⟨z, hz⟩
theorem gg_alen {n pl t : Nat} {a : vp_A} {ty : FieldType} {v : Int32} (hd : decode M.1 pc = .ok (.arraylength, 1)) (ht : ∀ K, (gl_ty K)[t]? = some (K t, ty)) (hS : S pl = some (.inl (t, a))) (hv : Int32.ofNat a.1 = v) (K : GG M x Z (pc + 1) ls (.int v :: st) S k) : GG M x Z pc ls (.ref pl :: st) S k := by
  obtain ⟨p, l, e, R, s, m, args, below, meth, c, D, Kc, A, ad0, S0⟩ := x
  intro ok ad H locs LS hR hSS hAg hst hls hLS
  obtain ⟨L, q, h1, h2, h3, h4, h5, h6, h7, h8⟩ := gl_at hR hS
  exact va_alen ok.1 ok.2.1 ok.2.2.2.2.2.2.2.2.2.1 h3 q t h8 (ht Kc) hv hd (K ok ad H locs LS hR hSS hAg (gl_bd_c gl_bd_i (gl_bd_t hst)) hls hLS)
end GC
end
section
/-! contracts over the pure heap, ends, calls -/
def gl_rm (M : gl_M) : Room := { frames := M.2.2.2.2.2.1, cells := M.2.2.2.2.2.2.1, slots := M.2.2.2.2.2.2.2, locals := 40 * M.2.2.2.2.2.1 }
def gl_A (ad : Nat → Nat) (S : gl_H) (sz : Nat) : Nat → Prop := fun q => (∃ p, S p ≠ none ∧ q = ad p) ∨ sz ≤ q
def gl_Q (D : va_G) (K : Nat → ClassId) (A : Nat → Prop) (ad0 : Nat → Nat) (S0 : gl_H) (Q : Option Value → gl_H → Prop) : Array Value → State → Outcome → State → Prop := fun _ st o t => (∃ (r : Option Value) (S1 : gl_H) (ad1 : Nat → Nat), o = .returned (r.map (gl_mv ad1)) ∧ Q r S1 ∧ gl_R D K A ad1 S1 t.heap ∧ gl_Ag S0 ad0 S1 ad1 ∧ ∀ v, r = some v → gl_bd S1 v) ∧ va_F A st t
def gl_Z (M : gl_M) (x : gl_X) (Q : Option Value → gl_H → Prop) : State → Prop := match x with
  | (p, l, e, R, s, m, args, below, meth, c, D, K, A, ad0, S0) => MQ below (gl_Q D K A ad0 S0 Q) args s M.2.2.2.2.2.2.1 M.2.2.2.2.2.2.2 A
/-- THE CONTRACT of a method over the pure heap S with the arguments av: it returns, and Q of its answer and the heap behind it -/
def Sp (M : gl_M) (y : MethodName) (av : List Value) (S : gl_H) (Q : Option Value → gl_H → Prop) : Prop := ∀ (l : Launch) (D : va_G) (K : Nat → ClassId) (ad : Nat → Nat) (sz : Nat), (∀ v ∈ av, gl_bd S v) → Met l y (.code y M.1 M.2.2.1 M.2.2.2.1 :: gl_T) (gl_rm M) (va_Pc (av.map (gl_mv ad)) (fun U => U.heap.size = sz ∧ gl_R D K (gl_A ad S sz) ad S U.heap ∧ va_K D gl_cl (gl_ty K) U ∧ gl_Ext (gl_A ad S sz) ad U U.heap)) (gl_Q D K (gl_A ad S sz) ad S Q) M.2.2.2.2.2.2.1 M.2.2.2.2.2.2.2 (gl_A ad S sz)
def gl_en : List Value → List (Option Value)
  | [] => []
  | .long x :: t => some (.long x) :: none :: gl_en t
  | .double x :: t => some (.double x) :: none :: gl_en t
  | .int x :: t => some (.int x) :: gl_en t
  | .float x :: t => some (.float x) :: gl_en t
  | .ref x :: t => some (.ref x) :: gl_en t
  | .null :: t => some .null :: gl_en t
  | .retAddr x :: t => some (.retAddr x) :: gl_en t
theorem gl_as_rep : ∀ (n j : Nat), gl_as n (List.replicate j none) = []
  | _, 0 => rfl
  | n, j + 1 => gl_as_rep (n + 1) j
theorem gl_en_in {ad : Nat → Nat} {j : Nat} : ∀ (av : List Value) (n : Nat), gl_ma ad (gl_as n (gl_en av ++ List.replicate j none)) = lv_args n (av.map (gl_mv ad))
  | [], n => by
    show gl_ma ad (gl_as n (List.replicate j none)) = []
    rw [gl_as_rep]
    rfl
  | .long x :: t, n => congrArg ((n, Value.long x) :: ·) (gl_en_in t (n + 1 + 1))
  | .double x :: t, n => congrArg ((n, Value.double x) :: ·) (gl_en_in t (n + 1 + 1))
  | .int x :: t, n => congrArg ((n, Value.int x) :: ·) (gl_en_in t (n + 1))
  | .float x :: t, n => congrArg ((n, Value.float x) :: ·) (gl_en_in t (n + 1))
  | .ref x :: t, n => congrArg ((n, Value.ref (ad x)) :: ·) (gl_en_in t (n + 1))
  | .null :: t, n => congrArg ((n, Value.null) :: ·) (gl_en_in t (n + 1))
  | .retAddr x :: t, n => congrArg ((n, Value.retAddr x) :: ·) (gl_en_in t (n + 1))
theorem gl_en_v {j : Nat} : ∀ (av : List Value) (n : Nat) (q : Nat × Value), q ∈ gl_as n (gl_en av ++ List.replicate j none) → q.2 ∈ av
  | [], n, q, h => by
    have h' : q ∈ gl_as n (List.replicate j none) := h
    rw [gl_as_rep] at h'
    cases h'
  | .long x :: t, n, q, h => by
    rcases List.mem_cons.mp (show q ∈ (n, Value.long x) :: gl_as (n + 1 + 1) (gl_en t ++ List.replicate j none) from h) with e | e
    · rw [e]; exact List.mem_cons_self
    · exact List.mem_cons_of_mem _ (gl_en_v t _ q e)
  | .double x :: t, n, q, h => by
    rcases List.mem_cons.mp (show q ∈ (n, Value.double x) :: gl_as (n + 1 + 1) (gl_en t ++ List.replicate j none) from h) with e | e
    · rw [e]; exact List.mem_cons_self
    · exact List.mem_cons_of_mem _ (gl_en_v t _ q e)
  | .int x :: t, n, q, h => by
    rcases List.mem_cons.mp (show q ∈ (n, Value.int x) :: gl_as (n + 1) (gl_en t ++ List.replicate j none) from h) with e | e
    · rw [e]; exact List.mem_cons_self
    · exact List.mem_cons_of_mem _ (gl_en_v t _ q e)
  | .float x :: t, n, q, h => by
    rcases List.mem_cons.mp (show q ∈ (n, Value.float x) :: gl_as (n + 1) (gl_en t ++ List.replicate j none) from h) with e | e
    · rw [e]; exact List.mem_cons_self
    · exact List.mem_cons_of_mem _ (gl_en_v t _ q e)
  | .ref x :: t, n, q, h => by
    rcases List.mem_cons.mp (show q ∈ (n, Value.ref x) :: gl_as (n + 1) (gl_en t ++ List.replicate j none) from h) with e | e
    · rw [e]; exact List.mem_cons_self
    · exact List.mem_cons_of_mem _ (gl_en_v t _ q e)
  | .null :: t, n, q, h => by
    rcases List.mem_cons.mp (show q ∈ (n, Value.null) :: gl_as (n + 1) (gl_en t ++ List.replicate j none) from h) with e | e
    · rw [e]; exact List.mem_cons_self
    · exact List.mem_cons_of_mem _ (gl_en_v t _ q e)
  | .retAddr x :: t, n, q, h => by
    rcases List.mem_cons.mp (show q ∈ (n, Value.retAddr x) :: gl_as (n + 1) (gl_en t ++ List.replicate j none) from h) with e | e
    · rw [e]; exact List.mem_cons_self
    · exact List.mem_cons_of_mem _ (gl_en_v t _ q e)
def gl_w (v : Value) : Nat := v.category
theorem lg_sl_len (ad : Nat → Nat) : ∀ (av : List Value), (lg_sl (av.map (gl_mv ad))).length = (av.map gl_w).sum
  | [] => rfl
  | v :: t => by
    have ih := lg_sl_len ad t
    unfold lg_sl at ih ⊢
    rw [List.map_cons, List.flatMap_cons, List.length_append, ih, List.map_cons, List.sum_cons]
    rw [gl_mv_cat]
    show _ = gl_w v + _
    unfold gl_w
    rcases lv_cat v with h | h
    · rw [h, if_neg (by decide)]; rfl
    · rw [h, if_pos rfl]; rfl
theorem gl_Ag.rf {S : gl_H} {ad : Nat → Nat} : gl_Ag S ad S ad := fun _ => ⟨id, fun _ => rfl⟩
theorem gl_R.mono {D : va_G} {K : Nat → ClassId} {A B : Nat → Prop} {ad : Nat → Nat} {S : gl_H} {H : Heap} (h : gl_R D K A ad S H) (hB : ∀ q, A q → B q) : gl_R D K B ad S H := by
  obtain ⟨L, h1, h2, h3, h4, h5, h6⟩ := h
  exact ⟨L, h1, h2, h3, h4.weaken (fun k q _ z => hB _ z), h5, h6⟩
theorem gl_R.self {D : va_G} {K : Nat → ClassId} {A : Nat → Prop} {ad : Nat → Nat} {S : gl_H} {H : Heap} (h : gl_R D K A ad S H) (sz : Nat) : gl_R D K (gl_A ad S sz) ad S H := by
  obtain ⟨L, h1, h2, h3, h4, h5, h6⟩ := h
  refine ⟨L, h1, h2, h3, ⟨h4.1, fun k q hq => ?_⟩, h5, h6⟩
  obtain ⟨p, hp, rfl⟩ := List.mem_map.mp (List.mem_of_getElem? hq)
  exact Or.inl ⟨p, (h1 p).mpr hp, rfl⟩
theorem gl_R.inA {D : va_G} {K : Nat → ClassId} {A : Nat → Prop} {ad : Nat → Nat} {S : gl_H} {H : Heap} (h : gl_R D K A ad S H) {p : Nat} (hp : S p ≠ none) : A (ad p) := by
  obtain ⟨L, h1, h2, h3, h4, h5, h6⟩ := h
  obtain ⟨j, hj⟩ := List.getElem?_of_mem ((h1 p).mp hp)
  cases hc : S p with
  | none => exact absurd hc hp
  | some c => exact h4.2 j _ (gl_wl_at hj hc)
/-- a method's entry -/
theorem gl_enter {M : gl_M} {y : MethodName} {av : List Value} {S : gl_H} {Q : Option Value → gl_H → Prop} {j : Nat} {ls : List (Option Value)} (hy : plainName y.cls = true) (ho : y.cls = M.2.1) (hi : M.2.2.2.2.1 = true → y.name = "<init>") (hw : (av.map gl_w).sum ≤ M.2.2.1) (hls : gl_en av ++ List.replicate j none = ls) (h : ∀ x, GG M x (gl_Z M x Q) 0 ls [] S (0, 0)) : Sp M y av S Q := by
  intro l D K ad sz hbd
  refine Met.ofW (cc := M.1) (maxL := M.2.2.1) (ret := M.2.2.2.1) hy rfl ?_
  intro p e s m args below meth c s₁ B hml hv
  obtain ⟨rfl, hsz, hR, hK, hE⟩ := hv
  subst hsz
  have hts := atoms_spec (ws := .code y M.1 M.2.2.1 M.2.2.2.1 :: gl_T) B.pre
  have hown : s.vm.findClass y.cls = some m.cls := findClass_of_methodNamed B.named
  have ok : gl_Ok M (p, l, e, gl_rm M, s, m, (av.map (gl_mv ad)).toArray, below, meth, c, D, K, gl_A ad S s.heap.size, ad, S) := ⟨B.exec, B.bytes, hml, B.returns, by rw [← ho]; exact hown, fun w hw => hts w (List.mem_cons_of_mem _ hw), B.notSynchronized, fun z => (name_of_methodNamed B.named B.method).1.trans (hi z), ⟨Nat.le_refl _, Nat.le_refl _, rfl, rfl⟩, hK, fun q hq => Or.inr hq, hE⟩
  have hl := lv_entry (av.map (gl_mv ad)) (n := M.2.2.1) (by rw [lg_sl_len]; exact hw)
  rw [lg_entry_eq]
  generalize (lg_sl (av.map (gl_mv ad)) ++ List.replicate (M.2.2.1 - (lg_sl (av.map (gl_mv ad))).length) Slot.unset).toArray = LS at hl ⊢
  subst hls
  rw [← gl_en_in (j := j) av 0] at hl
  exact h _ ok ad s.heap [] LS hR va_S.rf gl_Ag.rf (fun v hv => by cases hv) (fun q hq => hbd _ (gl_en_v av 0 q hq)) hl
section GE
variable {M : gl_M} {x : gl_X} {Q : Option Value → gl_H → Prop} {pc : Nat} {ls : List (Option Value)} {S : gl_H} {k : Nat × Nat}
theorem gg_ireturn {a : Int32} (hd : decode M.1 pc = .ok (.ireturn, 1)) {ty : FieldType} (hr : M.2.2.2.1 = some ty) (hn : narrow ty (.int a) = .int a) (hk : k.1 ≤ M.2.2.2.2.2.2.1 ∧ k.2 ≤ M.2.2.2.2.2.2.2) (h : Q (some (.int a)) S) : GG M x (gl_Z M x Q) pc ls [.int a] S k := by
  obtain ⟨p, l, e, R, s, m, args, below, meth, c, D, Kc, A, ad0, S0⟩ := x
  intro ok ad H locs LS hR hSS hAg hst hls hLS
  refine W.widen hk.1 hk.2 ?_
  exact W.zret ok.1 ok.2.1 (ok.2.2.2.1.trans hr) hn (fun t ht hW => ⟨⟨some (.int a), S, ad, rfl, h, by rw [ht]; exact hR, hAg, fun v e => by cases e; exact gl_bd_i⟩, hSS.F ht⟩) hSS.2.2 hd ok.2.2.2.2.2.2.1
theorem gg_lreturn {a : Int64} (hd : decode M.1 pc = .ok (.lreturn, 1)) (hr : M.2.2.2.1 = some .long) (hk : k.1 ≤ M.2.2.2.2.2.2.1 ∧ k.2 ≤ M.2.2.2.2.2.2.2) (h : Q (some (.long a)) S) : GG M x (gl_Z M x Q) pc ls [.long a] S k := by
  obtain ⟨p, l, e, R, s, m, args, below, meth, c, D, Kc, A, ad0, S0⟩ := x
  intro ok ad H locs LS hR hSS hAg hst hls hLS
  refine W.widen hk.1 hk.2 ?_
  exact W.lret ok.1 ok.2.1 (ok.2.2.2.1.trans hr) (fun t ht hW => ⟨⟨some (.long a), S, ad, rfl, h, by rw [ht]; exact hR, hAg, fun v e => by cases e; exact gl_bd_l⟩, hSS.F ht⟩) hSS.2.2 hd ok.2.2.2.2.2.2.1
theorem gg_return (hd : decode M.1 pc = .ok (.return_, 1)) (hr : M.2.2.2.1 = none) (hk : k.1 ≤ M.2.2.2.2.2.2.1 ∧ k.2 ≤ M.2.2.2.2.2.2.2) (h : Q none S) : GG M x (gl_Z M x Q) pc ls [] S k := by
  obtain ⟨p, l, e, R, s, m, args, below, meth, c, D, Kc, A, ad0, S0⟩ := x
  intro ok ad H locs LS hR hSS hAg hst hls hLS
  refine W.widen hk.1 hk.2 ?_
  exact W.vret ok.1 ok.2.1 (ok.2.2.2.1.trans hr) (fun t ht hW => ⟨⟨none, S, ad, rfl, h, by rw [ht]; exact hR, hAg, fun v e => by cases e⟩, hSS.F ht⟩) hSS.2.2 hd ok.2.2.2.2.2.2.1
theorem gg_areturn {v : Value} {C : String} (hd : decode M.1 pc = .ok (.areturn, 1)) (hr : M.2.2.2.1 = some (.object C)) (hv : v = .null ∨ ∃ a, v = .ref a) (hk : k.1 ≤ M.2.2.2.2.2.2.1 ∧ k.2 ≤ M.2.2.2.2.2.2.2) (h : Q (some v) S) : GG M x (gl_Z M x Q) pc ls [v] S k := by
  obtain ⟨p, l, e, R, s, m, args, below, meth, c, D, Kc, A, ad0, S0⟩ := x
  intro ok ad H locs LS hR hSS hAg hst hls hLS
  refine W.widen hk.1 hk.2 ?_
  exact W.aret (v := gl_mv ad v) ok.1 ok.2.1 (ok.2.2.2.1.trans hr) (Or.inl ⟨C, rfl⟩) (by rcases hv with rfl | ⟨a, rfl⟩; exact Or.inl rfl; exact Or.inr ⟨ad a, rfl⟩) (fun t ht hW => ⟨⟨some v, S, ad, rfl, h, by rw [ht]; exact hR, hAg, fun w e => by cases e; exact gl_bd_h hst⟩, hSS.F ht⟩) hSS.2.2 hd ok.2.2.2.2.2.2.1
end GE
section GL
variable {M N : gl_M} {x : gl_X} {Z : State → Prop} {Q : Option Value → gl_H → Prop} {pc idx : Nat} {ls : List (Option Value)} {S : gl_H} {k : Nat × Nat} {y : MethodName} {As rest : List Value}
theorem gl_good (hc : Cond.code y N.1 N.2.2.1 N.2.2.2.1 ∈ gl_T) : GoodIn gl_T (.code y N.1 N.2.2.1 N.2.2.2.1 :: gl_T) := fun w hw => by
  have h : w ∈ gl_T := by
    rcases List.mem_cons.mp hw with e | e
    · rw [e]; exact hc
    · exact e
  exact ⟨h, good_of_word (gl_T_good w h)⟩
theorem gl_fits {R : Room} (hR : M.2.2.2.2.2.1 ≤ R.frames ∧ 40 * M.2.2.2.2.2.1 ≤ R.locals) (hd : N.2.2.2.2.2.1 + 1 ≤ M.2.2.2.2.2.1) (hl : N.2.2.1 ≤ 21) : (gl_rm N).frames + 1 ≤ R.frames ∧ 8 + (N.2.2.1 + 11) + (gl_rm N).locals ≤ R.locals := by
  refine ⟨Nat.le_trans hd hR.1, ?_⟩
  show 8 + (N.2.2.1 + 11) + 40 * N.2.2.2.2.2.1 ≤ R.locals
  have := hR.2
  omega
/-- what a call's link says -/
def gl_Lk (y : MethodName) (n : Nat) : Prop := y.cls ≠ "java/lang/invoke/MethodHandle" ∧ y.cls ≠ "java/lang/invoke/VarHandle" ∧ (parseMethodDescriptor y.desc).map (fun d => d.parameters.length) = some n
theorem gl_blind {D : va_G} {K : Nat → ClassId} {A : Nat → Prop} {ad : Nat → Nat} {sz : Nat} {av : List Value} : FrameBlind (va_Pc av (fun U => U.heap.size = sz ∧ gl_R D K A ad S U.heap ∧ va_K D gl_cl (gl_ty K) U ∧ gl_Ext A ad U U.heap)) := fun a U g mk q => by
  obtain ⟨q0, q1, q2, q3, q4⟩ := q
  exact ⟨q0, q1, q2, va_K.moved (u := U) (U := U.calling g mk a) (Vm.Alike.refl U.vm) q3, q4.same rfl⟩
theorem gl_mv_ag {S1 : gl_H} {ad ad1 : Nat → Nat} (h : gl_Ag S ad S1 ad1) {v : Value} (hv : gl_bd S v) : gl_mv ad1 v = gl_mv ad v := by
  cases v with
  | ref r => exact congrArg Value.ref ((h r).2 (hv r rfl))
  | _ => rfl
theorem gl_bd_ag {S1 : gl_H} {ad ad1 : Nat → Nat} (h : gl_Ag S ad S1 ad1) {v : Value} (hv : gl_bd S v) : gl_bd S1 v := fun r e => (hv r e).elim (fun q => Or.inl ((h r).1 q)) Or.inr
/-- what stands behind a call -/
theorem gl_behind {p : Program} {l : Launch} {e : Env} {R : Room} {s : State} {m : MethodId} {args : Array Value} {below : List Frame} {meth : Method} {c : Code} {D : va_G} {Kc : Nat → ClassId} {A : Nat → Prop} {ad0 : Nat → Nat} {S0 : gl_H} {H : Heap} {locs : List Loc} {LS : Array Slot} {ad : Nat → Nat} {av : List Value} {st0 : List Value} {mc ms : Nat}
    (ok : gl_Ok M (p, l, e, R, s, m, args, below, meth, c, D, Kc, A, ad0, S0)) (hR : gl_R D Kc A ad S H) (hSS : va_S A s.heap H locs) (hAg : gl_Ag S0 ad0 S ad) (hrest : ∀ v ∈ rest, gl_bd S v) (hls : ∀ q ∈ gl_as 0 ls, gl_bd S q.2) (hLS : lv_has LS M.2.2.1 (gl_ma ad (gl_as 0 ls)))
    (hr : va_Run p l e R s m args below meth c H locs k.1 k.2 mc ms (F0 m pc LS st0) (rest.map (gl_mv ad)) (gl_Q D Kc (gl_A ad S H.size) ad S Q av.toArray) (gl_A ad S H.size))
    (K : ∀ r S1, Q r S1 → GG M (p, l, e, R, s, m, args, below, meth, c, D, Kc, A, ad0, S0) Z (pc + 3) ls (r.toList ++ rest) S1 (k.1 + mc, k.2 + ms)) : W p l e R s m args below meth c H locs k.1 k.2 Z (F0 m pc LS st0) := by
  have hsub : ∀ q, gl_A ad S H.size q → A q := fun q h => by
    rcases h with ⟨p1, h1, h2⟩ | h
    · rw [h2]; exact hR.inA h1
    · exact ok.2.2.2.2.2.2.2.2.2.2.1 q (Nat.le_trans hSS.1 h)
  intro T hT X
  obtain ⟨v, st₀, t, T', L, h0, X', hL, e1, e2, ⟨⟨r, S1, ad1, hv, hq, hR1, hAg1, hbr⟩, hz, hk⟩, st⟩ := hr T hT X
  cases hv
  rw [h0] at hz hk
  have hS1 : va_S A s.heap T'.heap (locs ++ L) := ⟨Nat.le_trans hSS.1 (by rw [e1]; exact hz), fun q h1 h2 => by rw [e1, hk q (Nat.lt_of_lt_of_le h1 hSS.1) (fun z => h2 (hsub q z))]; exact hSS.2.1 q h1 h2, fun q hq => by
    rcases List.mem_append.mp hq with h | h
    · exact hSS.2.2 q h
    · exact hsub _ (hL q h)⟩
  have hR2 : gl_R D Kc A ad1 S1 T'.heap := by rw [e1]; exact hR1.mono hsub
  have hAg2 : gl_Ag S0 ad0 S1 ad1 := fun p1 => ⟨fun h => (hAg1 p1).1 ((hAg p1).1 h), fun h => by
    rw [(hAg1 p1).2 (h.elim (fun z => Or.inl ((hAg p1).1 z)) Or.inr)]
    exact (hAg p1).2 h⟩
  have hm : gl_ma ad1 (gl_as 0 ls) = gl_ma ad (gl_as 0 ls) := List.map_congr_left (fun q hq => by rw [gl_mv_ag hAg1 (hls q hq)])
  have hmr : rest.map (gl_mv ad1) = rest.map (gl_mv ad) := List.map_congr_left (fun v hv => gl_mv_ag hAg1 (hrest v hv))
  have hb2 : ∀ v ∈ r.toList ++ rest, gl_bd S1 v := fun v hv => by
    rcases List.mem_append.mp hv with h | h
    · cases hr9 : r with
      | none => rw [hr9] at h; cases h
      | some w =>
        rw [hr9] at h
        rcases List.mem_cons.mp (show v ∈ w :: [] from h) with e9 | e9
        · rw [e9]; exact hbr w hr9
        · cases e9
    · exact gl_bd_ag hAg1 (hrest v h)
  obtain ⟨t2, a1, b1⟩ := K r S1 hq ok ad1 T'.heap (locs ++ L) LS hR2 hS1 hAg2 hb2 (fun q hq => gl_bd_ag hAg1 (hls q hq)) (by rw [hm]; exact hLS) T' rfl X'
  refine ⟨t2, st t2 ?_, b1⟩
  have ee : (r.toList ++ rest).map (gl_mv ad1) = (r.map (gl_mv ad1)).toList ++ rest.map (gl_mv ad) := by
    rw [List.map_append, hmr]
    cases r <;> rfl
  rw [ee] at a1
  exact a1
theorem gg_callV {C : String} {T : u_T} {n nn ci b : Nat} {fs : List Value} {st : List Value} (hsp : Sp N y (.ref b :: As) S Q) (hd : decode M.1 pc = .ok (.invokevirtual idx, 3)) (hw : Cond.methodLink M.2.1 idx y ∈ gl_T ∧ Cond.instanceMethod y ∈ gl_T ∧ Cond.selects C y y ∈ gl_T ∧ Cond.initialized y.cls ∈ gl_T ∧ Cond.code y N.1 N.2.2.1 N.2.2.2.1 ∈ gl_T ∧ gl_Lk y n) (hc : gl_cl[ci]? = some (C, T, nn)) (hS : S b = some (.inr (ci, fs)))
    (hst : As.reverse ++ .ref b :: rest = st) (hn : As.length = n) (hdep : N.2.2.2.2.2.1 + 1 ≤ M.2.2.2.2.2.1) (hl : N.2.2.1 ≤ 21) (hcat : (rest.map gl_w).sum ≤ 8) (hk : k.1 + N.2.2.2.2.2.2.1 ≤ M.2.2.2.2.2.2.1 ∧ k.2 + N.2.2.2.2.2.2.2 ≤ M.2.2.2.2.2.2.2)
    (K : ∀ r S1, Q r S1 → GG M x Z (pc + 3) ls (r.toList ++ rest) S1 (k.1 + N.2.2.2.2.2.2.1, k.2 + N.2.2.2.2.2.2.2)) : GG M x Z pc ls st S k := by
  obtain ⟨p, l, e, R, s, m, args, below, meth, c, D, Kc, A, ad0, S0⟩ := x
  intro ok ad H locs LS hR hSS hAg hbs hls hLS
  subst hst
  have hb2 : ∀ v ∈ Value.ref b :: As, gl_bd S v := fun v hv => by
    rcases List.mem_cons.mp hv with h | h
    · exact hbs v (List.mem_append_right _ (by rw [h]; exact List.mem_cons_self))
    · exact hbs v (List.mem_append_left _ (List.mem_reverse.mpr h))
  have hts := ok.2.2.2.2.2.1
  have hrest : ∀ v ∈ rest, gl_bd S v := fun v hv => hbs v (List.mem_append_right _ (List.mem_cons_of_mem _ hv))
  have hcat2 : ((rest.map (gl_mv ad)).map fun v => v.category).sum ≤ 8 := by
    rw [List.map_map, show (fun v : Value => v.category) ∘ gl_mv ad = gl_w from funext (fun v => gl_mv_cat ad v)]
    exact hcat
  obtain ⟨L, j, h1, h2, h3, h4, h5, h6, h7, h8⟩ := gl_at hR hS
  have hbi : ∀ q, gl_A ad S H.size q → A q := fun q h => by
    rcases h with ⟨p1, g1, g2⟩ | h
    · rw [g2]; exact hR.inA g1
    · exact ok.2.2.2.2.2.2.2.2.2.2.1 q (Nat.le_trans hSS.1 h)
  refine gl_behind (av := (.ref (ad b)) :: As.map (gl_mv ad)) ok hR hSS hAg hrest hls hLS (va_runV (As := As.map (gl_mv ad)) ⟨ok.1, ok.2.1, ok.2.2.1, ok.2.2.2.2.1, hts⟩ (hsp l D Kc ad H.size hb2) ⟨callB_of n hts (gl_good hw.2.2.2.2.1) rfl rfl rfl (hts _ hw.2.2.2.1) (hts _ hw.1) hw.2.2.2.2.2 (gl_fits ⟨ok.2.2.2.2.2.2.2.2.1.1, ok.2.2.2.2.2.2.2.2.1.2.1⟩ hdep hl), hts _ hw.2.1, hts _ hw.2.2.1⟩ ⟨gl_blind, va_recv ok.2.2.2.2.2.2.2.2.2.1 h3 hc h8, fun U hU hW => ⟨rfl, by rw [hU], by rw [hU]; exact hR.self _, va_K.moved hW.alike ok.2.2.2.2.2.2.2.2.2.1, by rw [hU]; exact ok.2.2.2.2.2.2.2.2.2.2.2.warm hW (fun a h9 h10 => hSS.2.1 a h9 h10) hbi (fun p9 h9 => (hAg p9).2 (Or.inr h9))⟩⟩ rfl (by rw [List.length_map]; exact hn) hLS.1 (by show List.map _ _ = _; rw [List.map_append, List.map_reverse]; rfl) (lv_room hcat2) hd (by rw [ok.2.2.2.2.2.2.2.2.1.2.2.1, ok.2.2.2.2.2.2.2.2.1.2.2.2]; exact hk)) K
theorem gg_callS {n : Nat} {st : List Value} (hsp : Sp N y As S Q) (hd : decode M.1 pc = .ok (.invokestatic idx, 3)) (hw : Cond.methodLink M.2.1 idx y ∈ gl_T ∧ Cond.static y ∈ gl_T ∧ Cond.initialized y.cls ∈ gl_T ∧ Cond.code y N.1 N.2.2.1 N.2.2.2.1 ∈ gl_T ∧ gl_Lk y n)
    (hst : As.reverse ++ rest = st) (hn : As.length = n) (hdep : N.2.2.2.2.2.1 + 1 ≤ M.2.2.2.2.2.1) (hl : N.2.2.1 ≤ 21) (hcat : (rest.map gl_w).sum ≤ 8) (hk : k.1 + N.2.2.2.2.2.2.1 ≤ M.2.2.2.2.2.2.1 ∧ k.2 + N.2.2.2.2.2.2.2 ≤ M.2.2.2.2.2.2.2)
    (K : ∀ r S1, Q r S1 → GG M x Z (pc + 3) ls (r.toList ++ rest) S1 (k.1 + N.2.2.2.2.2.2.1, k.2 + N.2.2.2.2.2.2.2)) : GG M x Z pc ls st S k := by
  obtain ⟨p, l, e, R, s, m, args, below, meth, c, D, Kc, A, ad0, S0⟩ := x
  intro ok ad H locs LS hR hSS hAg hbs hls hLS
  subst hst
  have hb2 : ∀ v ∈ As, gl_bd S v := fun v h => hbs v (List.mem_append_left _ (List.mem_reverse.mpr h))
  have hts := ok.2.2.2.2.2.1
  have hrest : ∀ v ∈ rest, gl_bd S v := fun v hv => hbs v (List.mem_append_right _ hv)
  have hcat2 : ((rest.map (gl_mv ad)).map fun v => v.category).sum ≤ 8 := by
    rw [List.map_map, show (fun v : Value => v.category) ∘ gl_mv ad = gl_w from funext (fun v => gl_mv_cat ad v)]
    exact hcat
  have hbi : ∀ q, gl_A ad S H.size q → A q := fun q h => by
    rcases h with ⟨p1, g1, g2⟩ | h
    · rw [g2]; exact hR.inA g1
    · exact ok.2.2.2.2.2.2.2.2.2.2.1 q (Nat.le_trans hSS.1 h)
  refine gl_behind (av := As.map (gl_mv ad)) ok hR hSS hAg hrest hls hLS (va_runS (As := As.map (gl_mv ad)) ⟨ok.1, ok.2.1, ok.2.2.1, ok.2.2.2.2.1, hts⟩ (hsp l D Kc ad H.size hb2) ⟨callB_of n hts (gl_good hw.2.2.2.1) rfl rfl rfl (hts _ hw.2.2.1) (hts _ hw.1) hw.2.2.2.2 (gl_fits ⟨ok.2.2.2.2.2.2.2.2.1.1, ok.2.2.2.2.2.2.2.2.1.2.1⟩ hdep hl), hts _ hw.2.1⟩ ⟨gl_blind, fun U hU hW => ⟨rfl, by rw [hU], by rw [hU]; exact hR.self _, va_K.moved hW.alike ok.2.2.2.2.2.2.2.2.2.1, by rw [hU]; exact ok.2.2.2.2.2.2.2.2.2.2.2.warm hW (fun a h9 h10 => hSS.2.1 a h9 h10) hbi (fun p9 h9 => (hAg p9).2 (Or.inr h9))⟩⟩ rfl (by rw [List.length_map]; exact hn) hLS.1 (by show List.map _ _ = _; rw [List.map_append, List.map_reverse]) (lv_room hcat2) hd (by rw [ok.2.2.2.2.2.2.2.2.1.2.2.1, ok.2.2.2.2.2.2.2.2.1.2.2.2]; exact hk)) K
theorem gg_callI {n b : Nat} {st : List Value} (hsp : Sp N y (.ref b :: As) S Q) (hd : decode M.1 pc = .ok (.invokespecial idx, 3)) (hw : Cond.methodLink M.2.1 idx y ∈ gl_T ∧ Cond.instanceMethod y ∈ gl_T ∧ Cond.initialized y.cls ∈ gl_T ∧ Cond.code y N.1 N.2.2.1 N.2.2.2.1 ∈ gl_T ∧ gl_Lk y n) (hi : y.name = "<init>") (hrt : N.2.2.2.1 = none)
    (hst : As.reverse ++ .ref b :: rest = st) (hn : As.length = n) (hdep : N.2.2.2.2.2.1 + 1 ≤ M.2.2.2.2.2.1) (hl : N.2.2.1 ≤ 21) (hcat : (rest.map gl_w).sum ≤ 8) (hk : k.1 + N.2.2.2.2.2.2.1 ≤ M.2.2.2.2.2.2.1 ∧ k.2 + N.2.2.2.2.2.2.2 ≤ M.2.2.2.2.2.2.2)
    (K : ∀ r S1, Q r S1 → GG M x Z (pc + 3) ls (r.toList ++ rest) S1 (k.1 + N.2.2.2.2.2.2.1, k.2 + N.2.2.2.2.2.2.2)) : GG M x Z pc ls st S k := by
  obtain ⟨p, l, e, R, s, m, args, below, meth, c, D, Kc, A, ad0, S0⟩ := x
  obtain ⟨nb, no, nl, nr, ni⟩ := N
  intro ok ad H locs LS hR hSS hAg hbs hls hLS
  have hrt' : nr = none := hrt
  subst hrt'
  subst hst
  have hb2 : ∀ v ∈ Value.ref b :: As, gl_bd S v := fun v hv => by
    rcases List.mem_cons.mp hv with h | h
    · exact hbs v (List.mem_append_right _ (by rw [h]; exact List.mem_cons_self))
    · exact hbs v (List.mem_append_left _ (List.mem_reverse.mpr h))
  have hts := ok.2.2.2.2.2.1
  have hrest : ∀ v ∈ rest, gl_bd S v := fun v hv => hbs v (List.mem_append_right _ (List.mem_cons_of_mem _ hv))
  have hcat2 : ((rest.map (gl_mv ad)).map fun v => v.category).sum ≤ 8 := by
    rw [List.map_map, show (fun v : Value => v.category) ∘ gl_mv ad = gl_w from funext (fun v => gl_mv_cat ad v)]
    exact hcat
  have hbi : ∀ q, gl_A ad S H.size q → A q := fun q h => by
    rcases h with ⟨p1, g1, g2⟩ | h
    · rw [g2]; exact hR.inA g1
    · exact ok.2.2.2.2.2.2.2.2.2.2.1 q (Nat.le_trans hSS.1 h)
  refine gl_behind (av := (.ref (ad b)) :: As.map (gl_mv ad)) ok hR hSS hAg hrest hls hLS (va_runI (As := As.map (gl_mv ad)) ⟨ok.1, ok.2.1, ok.2.2.1, ok.2.2.2.2.1, hts⟩ (hsp l D Kc ad H.size hb2) ⟨callB_of n hts (gl_good (N := (nb, no, nl, none, ni)) hw.2.2.2.1) rfl rfl rfl (hts _ hw.2.2.1) (hts _ hw.1) hw.2.2.2.2 (gl_fits ⟨ok.2.2.2.2.2.2.2.2.1.1, ok.2.2.2.2.2.2.2.2.1.2.1⟩ hdep hl), hi, hts _ hw.2.1⟩ ⟨gl_blind, fun U hU hW => ⟨rfl, by rw [hU], by rw [hU]; exact hR.self _, va_K.moved hW.alike ok.2.2.2.2.2.2.2.2.2.1, by rw [hU]; exact ok.2.2.2.2.2.2.2.2.2.2.2.warm hW (fun a h9 h10 => hSS.2.1 a h9 h10) hbi (fun p9 h9 => (hAg p9).2 (Or.inr h9))⟩⟩ rfl (by rw [List.length_map]; exact hn) hLS.1 (by show List.map _ _ = _; rw [List.map_append, List.map_reverse]; rfl) (lv_room hcat2) hd (by rw [ok.2.2.2.2.2.2.2.2.1.2.2.1, ok.2.2.2.2.2.2.2.2.1.2.2.2]; exact hk)) K
end GL
end
section
/-! new cells, statics, copies, the library's small methods, calls of nest mates, the script -/
section GN
variable {M N : gl_M} {x : gl_X} {Z : State → Prop} {Q : Option Value → gl_H → Prop} {pc idx : Nat} {ls : List (Option Value)} {st rest As : List Value} {S : gl_H} {k : Nat × Nat} {y : MethodName}
theorem gl_mv_new {ad : Nat → Nat} {pl q : Nat} {v : Value} (hp : S pl = none) (hx : pl < 1000000) (hb : gl_bd S v) : gl_mv (gl_aw ad pl q) v = gl_mv ad v := gl_mv_aw (fun e => by
  rcases hb pl e with h | h
  · exact h hp
  · exact absurd h (by unfold gl_xt; omega))
theorem gl_Ag.new {S0 : gl_H} {ad0 ad : Nat → Nat} {pl q : Nat} {c : gl_C} (h : gl_Ag S0 ad0 S ad) (hp : S pl = none) (hx : pl < 1000000) : gl_Ag S0 ad0 (gl_pu S pl c) (gl_aw ad pl q) := fun p => ⟨fun z => by
  by_cases e : p = pl
  · rw [e, gl_pu_s]; exact fun y => by cases y
  · rw [gl_pu_n S c e]; exact (h p).1 z, fun z => by
  have e : p ≠ pl := fun e => by
    subst e
    rcases z with z | z
    · exact (h p).1 z hp
    · exact absurd z (by unfold gl_xt; omega)
  rw [gl_aw, if_neg e]
  exact (h p).2 z⟩
theorem gl_came {p : Program} {l : Launch} {e : Env} {R : Room} {s : State} {m : MethodId} {args : Array Value} {below : List Frame} {meth : Method} {c : Code} {D : va_G} {Kc : Nat → ClassId} {A : Nat → Prop} {ad0 : Nat → Nat} {S0 : gl_H} {H1 : Heap} {locs : List Loc} {LS : Array Slot} {ad : Nat → Nat} {L : List Nat} {pl q pc2 : Nat} {cn : gl_C} {en : va_E} {k2 : Nat × Nat}
    (ok : gl_Ok M (p, l, e, R, s, m, args, below, meth, c, D, Kc, A, ad0, S0)) (hAg : gl_Ag S0 ad0 S ad) (hst : ∀ v ∈ st, gl_bd S v) (hls : ∀ q ∈ gl_as 0 ls, gl_bd S q.2) (hLS : lv_has LS M.2.2.1 (gl_ma ad (gl_as 0 ls))) (h1 : ∀ p, S p ≠ none ↔ p ∈ L) (h2 : L.Nodup) (h5 : gl_wf S) (h6 : ∀ p, S p ≠ none → ¬ gl_xt p) (hp : S pl = none) (hx : pl < 1000000) (hr : ∀ r, ¬ gl_rf cn r) (he : ∀ ad', gl_mE Kc ad' cn = en)
    (hP : va_P D gl_cl (gl_wl Kc ad S L ++ [(q, en)]) H1) (hD : va_D A (gl_wl Kc ad S L ++ [(q, en)])) (hS1 : va_S A s.heap H1 locs) (K : GG M (p, l, e, R, s, m, args, below, meth, c, D, Kc, A, ad0, S0) Z pc2 ls (.ref pl :: st) (gl_pu S pl cn) k2) : W p l e R s m args below meth c H1 locs k2.1 k2.2 Z (F0 m pc2 LS (.ref q :: st.map (gl_mv ad))) := by
  have hR : gl_R D Kc A (gl_aw ad pl q) (gl_pu S pl cn) H1 := gl_R.new (c := cn) h1 h2 h5 h6 hp (by unfold gl_xt; omega) (fun r z => absurd z (hr r)) (fun ad' => Or.inl (he ad')) hP hD
  have hm : gl_ma (gl_aw ad pl q) (gl_as 0 ls) = gl_ma ad (gl_as 0 ls) := List.map_congr_left (fun z hz => by rw [gl_mv_new hp hx (hls z hz)])
  have hmr : st.map (gl_mv (gl_aw ad pl q)) = st.map (gl_mv ad) := List.map_congr_left (fun v hv => gl_mv_new hp hx (hst v hv))
  have hb : gl_bd (gl_pu S pl cn) (.ref pl) := fun r e9 => by cases e9; exact Or.inl (by rw [gl_pu_s]; exact fun z => by cases z)
  have hw := K ok (gl_aw ad pl q) H1 locs LS hR hS1 (hAg.new hp hx) (gl_bd_c hb (gl_bds.pu hst)) (gl_bdq.pu hls) (by rw [hm]; exact hLS)
  have ee : (Value.ref pl :: st).map (gl_mv (gl_aw ad pl q)) = Value.ref q :: st.map (gl_mv ad) := by
    rw [List.map_cons, hmr]
    show Value.ref (gl_aw ad pl q pl) :: _ = _
    rw [gl_aw, if_pos rfl]
  rw [ee] at hw
  exact hw
theorem gg_new {C : String} {T : u_T} {ty : Nat → FieldType} {n ci : Nat} {fs : List Value} (pl : Nat) (hd : decode M.1 pc = .ok (.new idx, 3)) (hin : ∀ w ∈ u_ws C T n, w ∈ gl_T) (hty : ∀ k, k < n → parseFieldDescriptor (T k).2.2.1 = some (ty k)) (hw : Cond.classLink M.2.1 idx C ∈ gl_T ∧ Cond.instantiable C n ∈ gl_T ∧ Cond.initialized C ∈ gl_T) (hc : gl_cl[ci]? = some (C, T, n)) (hfs : ∀ j, j < n → defaultValue (ty j) = vp_V fs j) (hnr : ∀ v ∈ fs, ∀ r, v ≠ .ref r) (hp : S pl = none) (hx : pl < 1000000) (hk : k.1 + 1 ≤ M.2.2.2.2.2.2.1 ∧ k.2 + n ≤ M.2.2.2.2.2.2.2)
    (K : GG M x Z (pc + 3) ls (.ref pl :: st) (gl_pu S pl (.inr (ci, fs))) (k.1 + 1, k.2 + n)) : GG M x Z pc ls st S k := by
  obtain ⟨p, l, e, R, s, m, args, below, meth, c, D, Kc, A, ad0, S0⟩ := x
  intro ok ad H locs LS hR hSS hAg hst hls hLS
  obtain ⟨L, h1, h2, h3, h4, h5, h6⟩ := hR
  have hts := ok.2.2.2.2.2.1
  refine va_new (ci := ci) (fs := fs) ok.1 ok.2.1 hts hin ty hty ok.2.2.2.2.1 (hts _ hw.1) (hts _ hw.2.1) (hts _ hw.2.2) ok.2.2.2.2.2.2.2.2.2.1 h3 h4 hSS ok.2.2.2.2.2.2.2.2.2.2.1 hc hfs (by rw [ok.2.2.2.2.2.2.2.2.1.2.2.1]; exact hk.1) (by rw [ok.2.2.2.2.2.2.2.2.1.2.2.2]; exact hk.2) hd (fun q H1 q1 q2 q3 => ?_)
  refine gl_came (k2 := (k.1 + 1, k.2 + n)) (cn := .inr (ci, fs)) ok hAg hst hls hLS h1 h2 h5 h6 hp hx (fun r z => hnr _ (show Value.ref r ∈ fs from z) r rfl) (fun ad' => ?_) q1 q2 q3 K
  show (Sum.inr (ci, fs.map (gl_mv ad')) : va_E) = _
  rw [show fs.map (gl_mv ad') = fs from (List.map_congr_left (g := id) (fun v hv => by
    cases v with
    | ref r => exact absurd rfl (hnr _ hv r)
    | _ => rfl)).trans (List.map_id fs)]
/-- a new array of numbers; t: the code of its type -/
theorem gg_newa {at9 : ArrayType} {ty : FieldType} {n : Int32} {n' : Nat} {a0 : vp_A} (pl t : Nat) (hd : decode M.1 pc = .ok (.newarray at9, 2)) (hty : newarray.typeOf at9 = ty) (ht : ∀ K, (gl_ty K)[t]? = some (K t, ty)) (hu : ∀ (U : State) (c c' : ClassId), va_RA U c ty → va_RA U c' ty → c = c') (hw : Cond.arrayClass ty ∈ gl_T) (ha : ∀ cA : ClassId, vp_cell cA a0 = arrV cA n' (fun _ => defaultValue ty)) (hma : ∀ ad, gl_mA ad a0 = a0) (hnr : ∀ r, ¬ gl_rf (.inl (t, a0)) r) (hn : ¬ n < 0) (hN : n.toNatClampNeg = n') (hby : n' * componentBytes ty ≤ 536870912) (hp : S pl = none) (hx : pl < 1000000) (hk : k.1 + 1 ≤ M.2.2.2.2.2.2.1 ∧ k.2 + n' ≤ M.2.2.2.2.2.2.2)
    (K : GG M x Z (pc + 2) ls (.ref pl :: st) (gl_pu S pl (.inl (t, a0))) (k.1 + 1, k.2 + n')) : GG M x Z pc ls (.int n :: st) S k := by
  obtain ⟨p, l, e, R, s, m, args, below, meth, c, D, Kc, A, ad0, S0⟩ := x
  intro ok ad H locs LS hR hSS hAg hst hls hLS
  obtain ⟨L, h1, h2, h3, h4, h5, h6⟩ := hR
  have hts := ok.2.2.2.2.2.1
  refine va_newa (ty := ty) (a0 := a0) ok.1 ok.2.1 (by rw [hty]; exact hts _ hw) hty ok.2.2.2.2.2.2.2.2.2.1 h3 h4 hSS ok.2.2.2.2.2.2.2.2.2.2.1 ha hn hN hby (by rw [ok.2.2.2.2.2.2.2.2.1.2.2.1]; exact hk.1) (by rw [ok.2.2.2.2.2.2.2.2.1.2.2.2]; exact hk.2) hd (fun q cA H1 q0 q1 q2 q3 => ?_)
  have e1 := (q0.2 7 (cA, ty) rfl).2
  have e2 := (ok.2.2.2.2.2.2.2.2.2.1.2 t _ (ht Kc)).2
  have e3 : cA = Kc t := hu s _ _ e1 e2
  rw [e3] at q1 q2
  refine gl_came (k2 := (k.1 + 1, k.2 + n')) (cn := .inl (t, a0)) ok hAg (gl_bd_t hst) hls hLS h1 h2 h5 h6 hp hx hnr (fun ad' => ?_) q1 q2 q3 K
  show (Sum.inl (Kc t, gl_mA ad' a0) : va_E) = _
  rw [hma]
/-- a new array of objects -/
theorem gg_newq {C : String} {n : Int32} {n' : Nat} (pl t : Nat) (hd : decode M.1 pc = .ok (.anewarray idx, 3)) (ht : ∀ K, (gl_ty K)[t]? = some (K t, .object C)) (ho : ∀ A ad U H, gl_Ext A ad U H → va_AO C U) (hw : Cond.classLink M.2.1 idx C ∈ gl_T) (hn : ¬ n < 0) (hN : n.toNatClampNeg = n') (hby : n' * 4 ≤ 536870912) (hp : S pl = none) (hx : pl < 1000000) (hk : k.1 + 1 ≤ M.2.2.2.2.2.2.1 ∧ k.2 + n' ≤ M.2.2.2.2.2.2.2)
    (K : GG M x Z (pc + 3) ls (.ref pl :: st) (gl_pu S pl (.inl (t, n', .inr (.inr (.inr (.inr (fun _ => none))))))) (k.1 + 1, k.2 + n')) : GG M x Z pc ls (.int n :: st) S k := by
  obtain ⟨p, l, e, R, s, m, args, below, meth, c, D, Kc, A, ad0, S0⟩ := x
  intro ok ad H locs LS hR hSS hAg hst hls hLS
  obtain ⟨L, h1, h2, h3, h4, h5, h6⟩ := hR
  have hts := ok.2.2.2.2.2.1
  refine va_newq ok.1 ok.2.1 ok.2.2.2.2.1 (hts _ hw) (ho _ _ _ _ ok.2.2.2.2.2.2.2.2.2.2.2) ok.2.2.2.2.2.2.2.2.2.1 h3 h4 hSS ok.2.2.2.2.2.2.2.2.2.2.1 hn hN hby (by rw [ok.2.2.2.2.2.2.2.2.1.2.2.1]; exact hk.1) (by rw [ok.2.2.2.2.2.2.2.2.1.2.2.2]; exact hk.2) hd (fun q cA H1 q0 q1 q2 q3 => ?_)
  obtain ⟨_, _, _, _, _, e1⟩ := (q0.2 7 (cA, .object C) rfl).2
  obtain ⟨_, _, _, _, _, e2⟩ := (ok.2.2.2.2.2.2.2.2.2.1.2 t _ (ht Kc)).2
  have e3 : cA = Kc t := Option.some.inj (e1.symm.trans e2)
  rw [e3] at q1 q2
  exact gl_came (k2 := (k.1 + 1, k.2 + n')) (cn := .inl (t, n', .inr (.inr (.inr (.inr (fun _ => none)))))) ok hAg (gl_bd_t hst) hls hLS h1 h2 h5 h6 hp hx (fun r z => by obtain ⟨j, hj⟩ := z; cases hj) (fun ad' => rfl) q1 q2 q3 K
theorem gg_objInit {b : Nat} (hd : decode M.1 pc = .ok (.invokespecial idx, 3)) (hw : Cond.methodLink M.2.1 idx Lib.objectInit ∈ gl_T ∧ Cond.instanceMethod Lib.objectInit ∈ gl_T ∧ Cond.code Lib.objectInit ⟨#[0xb1]⟩ 1 none ∈ gl_T) (hdep : 1 ≤ M.2.2.2.2.2.1) (hcat : (st.map gl_w).sum ≤ 8) (K : GG M x Z (pc + 3) ls st S k) : GG M x Z pc ls (.ref b :: st) S k := by
  obtain ⟨p, l, e, R, s, m, args, below, meth, c, D, Kc, A, ad0, S0⟩ := x
  intro ok ad H locs LS hR hSS hAg hst hls hLS
  have hts := ok.2.2.2.2.2.1
  have hcat2 : ((st.map (gl_mv ad)).map fun v => v.category).sum ≤ 8 := by
    rw [List.map_map, show (fun v : Value => v.category) ∘ gl_mv ad = gl_w from funext (fun v => gl_mv_cat ad v)]
    exact hcat
  have hfr := ok.2.2.2.2.2.2.2.2.1
  exact W.objInit (a := ad b) (rest := st.map (gl_mv ad)) ok.1 ok.2.1 ok.2.2.2.2.1 (hts _ hw.1) (hts _ hw.2.1) (hts _ hw.2.2) rfl (hLS.1.trans ok.2.2.1.symm) rfl hd (by omega) (by show 2 * 0 + _ + 12 ≤ _; omega) (K ok ad H locs LS hR hSS hAg (gl_bd_t hst) hls hLS)
theorem gg_getst {n d : String} (i : Nat) (hd : decode M.1 pc = .ok (.getstatic idx, 3)) (hl : Cond.fieldLink M.2.1 idx RX2 n d ∈ gl_T) (hx : 1000000 ≤ i) (hz : ∀ A ad U H, gl_Ext A ad U H → va_Z RX2 n d (.ref (ad i)) A U H) (K : GG M x Z (pc + 3) ls (.ref i :: st) S k) : GG M x Z pc ls st S k := by
  obtain ⟨p, l, e, R, s, m, args, below, meth, c, D, Kc, A, ad0, S0⟩ := x
  intro ok ad H locs LS hR hSS hAg hst hls hLS
  have hb : gl_bd S (.ref i) := fun r e9 => by cases e9; exact Or.inr hx
  have e9 : ad i = ad0 i := (hAg i).2 (Or.inr hx)
  refine va_gets (v := .ref (ad0 i)) ok.1 ok.2.1 (hz _ _ _ _ ok.2.2.2.2.2.2.2.2.2.2.2) hSS ok.2.2.2.2.1 (ok.2.2.2.2.2.1 _ hl) (fun _ h => h) hd ?_
  rw [← e9]
  exact K ok ad H locs LS hR hSS hAg (gl_bd_c hb hst) hls hLS
theorem gg_tald_i {f : Nat → Int32} {i : Int32} (t j : Nat) (hx : 1000000 ≤ t) (hz : ∀ A ad U H, gl_Ext A ad U H → va_T .int (ad t) 7 (fun j => .int (f j)) A U H) (hd : decode M.1 pc = .ok (.iaload, 1)) (hi : i = nI j) (hj : j < 7) (K : GG M x Z (pc + 1) ls (.int (f j) :: st) S k) : GG M x Z pc ls (.int i :: .ref t :: st) S k := by
  obtain ⟨p, l, e, R, s, m, args, below, meth, c, D, Kc, A, ad0, S0⟩ := x
  intro ok ad H locs LS hR hSS hAg hst hls hLS
  subst hi
  have e9 : ad t = ad0 t := (hAg t).2 (Or.inr hx)
  have hw := K ok ad H locs LS hR hSS hAg (gl_bd_c gl_bd_i (gl_bd_t (gl_bd_t hst))) hls hLS
  have hc : (nI j).toNatClampNeg = j := nI_clamp (by omega)
  show W p l e R s m args below meth c H locs k.1 k.2 Z (F0 m pc LS (.int (nI j) :: .ref (ad t) :: st.map (gl_mv ad)))
  rw [e9]
  exact va_ti (v := .int (f j)) ok.1 ok.2.1 (hz _ _ _ _ ok.2.2.2.2.2.2.2.2.2.2.2) hSS (vp_in_nI hj (by omega)) (by rw [hc]) hd hw
theorem gg_tald_c {f : Nat → Int32} {i : Int32} (t j : Nat) (hx : 1000000 ≤ t) (hz : ∀ A ad U H, gl_Ext A ad U H → va_T .char (ad t) 7 (fun j => .int (f j)) A U H) (hd : decode M.1 pc = .ok (.caload, 1)) (hi : i = nI j) (hj : j < 7) (K : GG M x Z (pc + 1) ls (.int (f j) :: st) S k) : GG M x Z pc ls (.int i :: .ref t :: st) S k := by
  obtain ⟨p, l, e, R, s, m, args, below, meth, c, D, Kc, A, ad0, S0⟩ := x
  intro ok ad H locs LS hR hSS hAg hst hls hLS
  subst hi
  have e9 : ad t = ad0 t := (hAg t).2 (Or.inr hx)
  have hw := K ok ad H locs LS hR hSS hAg (gl_bd_c gl_bd_i (gl_bd_t (gl_bd_t hst))) hls hLS
  have hc : (nI j).toNatClampNeg = j := nI_clamp (by omega)
  show W p l e R s m args below meth c H locs k.1 k.2 Z (F0 m pc LS (.int (nI j) :: .ref (ad t) :: st.map (gl_mv ad)))
  rw [e9]
  exact va_tc (v := .int (f j)) ok.1 ok.2.1 (hz _ _ _ _ ok.2.2.2.2.2.2.2.2.2.2.2) hSS (vp_in_nI hj (by omega)) (by rw [hc]) hd hw
theorem gg_mmax {a b : Int32} (hd : decode M.1 pc = .ok (.invokestatic idx, 3)) (hw : Cond.methodLink M.2.1 idx Lib.Math.max.name ∈ gl_T ∧ Cond.static Lib.Math.max.name ∈ gl_T ∧ Cond.initialized "java/lang/Math" ∈ gl_T ∧ Cond.code Lib.Math.max.name Lib.Math.max.code 2 (some .int) ∈ gl_T) (hdep : 1 ≤ M.2.2.2.2.2.1) (hcat : (st.map gl_w).sum ≤ 8) (hk : k.1 ≤ M.2.2.2.2.2.2.1 ∧ k.2 ≤ M.2.2.2.2.2.2.2) (K : GG M x Z (pc + 3) ls (.int (if a < b then b else a) :: st) S k) : GG M x Z pc ls (.int b :: .int a :: st) S k := by
  obtain ⟨p, l, e, R, s, m, args, below, meth, c, D, Kc, A, ad0, S0⟩ := x
  intro ok ad H locs LS hR hSS hAg hst hls hLS
  have hts := ok.2.2.2.2.2.1
  have hcat2 : ((st.map (gl_mv ad)).map fun v => v.category).sum ≤ 8 := by
    rw [List.map_map, show (fun v : Value => v.category) ∘ gl_mv ad = gl_w from funext (fun v => gl_mv_cat ad v)]
    exact hcat
  have hfr := ok.2.2.2.2.2.2.2.2.1
  exact va_mmax ok.1 ok.2.1 (ok.2.2.1.trans hLS.1.symm) ok.2.2.2.2.1 (hts _ hw.1) (hts _ hw.2.1) (hts _ hw.2.2.1) (hts _ hw.2.2.2) (by omega) (by omega) (by rw [hfr.2.2.1]; exact hk.1) (by rw [hfr.2.2.2]; exact hk.2) hd (K ok ad H locs LS hR hSS hAg (gl_bd_c gl_bd_i (gl_bd_t (gl_bd_t hst))) hls hLS)
theorem gg_mmin {a b : Int32} (hd : decode M.1 pc = .ok (.invokestatic idx, 3)) (hw : Cond.methodLink M.2.1 idx Lib.Math.min.name ∈ gl_T ∧ Cond.static Lib.Math.min.name ∈ gl_T ∧ Cond.initialized "java/lang/Math" ∈ gl_T ∧ Cond.code Lib.Math.min.name Lib.Math.min.code 2 (some .int) ∈ gl_T) (hdep : 1 ≤ M.2.2.2.2.2.1) (hcat : (st.map gl_w).sum ≤ 8) (hk : k.1 ≤ M.2.2.2.2.2.2.1 ∧ k.2 ≤ M.2.2.2.2.2.2.2) (K : GG M x Z (pc + 3) ls (.int (if b < a then b else a) :: st) S k) : GG M x Z pc ls (.int b :: .int a :: st) S k := by
  obtain ⟨p, l, e, R, s, m, args, below, meth, c, D, Kc, A, ad0, S0⟩ := x
  intro ok ad H locs LS hR hSS hAg hst hls hLS
  have hts := ok.2.2.2.2.2.1
  have hcat2 : ((st.map (gl_mv ad)).map fun v => v.category).sum ≤ 8 := by
    rw [List.map_map, show (fun v : Value => v.category) ∘ gl_mv ad = gl_w from funext (fun v => gl_mv_cat ad v)]
    exact hcat
  have hfr := ok.2.2.2.2.2.2.2.2.1
  exact va_mmin ok.1 ok.2.1 (ok.2.2.1.trans hLS.1.symm) ok.2.2.2.2.1 (hts _ hw.1) (hts _ hw.2.1) (hts _ hw.2.2.1) (hts _ hw.2.2.2) (by omega) (by omega) (by rw [hfr.2.2.1]; exact hk.1) (by rw [hfr.2.2.2]; exact hk.2) hd (K ok ad H locs LS hR hSS hAg (gl_bd_c gl_bd_i (gl_bd_t (gl_bd_t hst))) hls hLS)
theorem gg_callSN {n : Nat} {st : List Value} {host : String} (hsp : Sp N y As S Q) (hd : decode M.1 pc = .ok (.invokestatic idx, 3)) (hz : ∀ A ad U H, gl_Ext A ad U H → va_Nw (.methodLinkNest M.2.1 idx y host) U) (hw : Cond.static y ∈ gl_T ∧ Cond.initialized y.cls ∈ gl_T ∧ Cond.code y N.1 N.2.2.1 N.2.2.2.1 ∈ gl_T ∧ gl_Lk y n)
    (hst : As.reverse ++ rest = st) (hn : As.length = n) (hdep : N.2.2.2.2.2.1 + 1 ≤ M.2.2.2.2.2.1) (hl : N.2.2.1 ≤ 21) (hcat : (rest.map gl_w).sum ≤ 8) (hk : k.1 + N.2.2.2.2.2.2.1 ≤ M.2.2.2.2.2.2.1 ∧ k.2 + N.2.2.2.2.2.2.2 ≤ M.2.2.2.2.2.2.2)
    (K : ∀ r S1, Q r S1 → GG M x Z (pc + 3) ls (r.toList ++ rest) S1 (k.1 + N.2.2.2.2.2.2.1, k.2 + N.2.2.2.2.2.2.2)) : GG M x Z pc ls st S k := by
  obtain ⟨p, l, e, R, s, m, args, below, meth, c, D, Kc, A, ad0, S0⟩ := x
  intro ok ad H locs LS hR hSS hAg hbs hls hLS
  subst hst
  have hb2 : ∀ v ∈ As, gl_bd S v := fun v h => hbs v (List.mem_append_left _ (List.mem_reverse.mpr h))
  have hts := ok.2.2.2.2.2.1
  have hrest : ∀ v ∈ rest, gl_bd S v := fun v hv => hbs v (List.mem_append_right _ hv)
  have hcat2 : ((rest.map (gl_mv ad)).map fun v => v.category).sum ≤ 8 := by
    rw [List.map_map, show (fun v : Value => v.category) ∘ gl_mv ad = gl_w from funext (fun v => gl_mv_cat ad v)]
    exact hcat
  have hbi : ∀ q, gl_A ad S H.size q → A q := fun q h => by
    rcases h with ⟨p1, g1, g2⟩ | h
    · rw [g2]; exact hR.inA g1
    · exact ok.2.2.2.2.2.2.2.2.2.2.1 q (Nat.le_trans hSS.1 h)
  refine gl_behind (av := As.map (gl_mv ad)) ok hR hSS hAg hrest hls hLS (va_runSN (As := As.map (gl_mv ad)) ⟨ok.1, ok.2.1, ok.2.2.1, ok.2.2.2.2.1, hts⟩ (hsp l D Kc ad H.size hb2) ⟨va_cnB n hts (gl_good hw.2.2.1) rfl rfl rfl (hz _ _ _ _ ok.2.2.2.2.2.2.2.2.2.2.2) (hts _ hw.2.1) hw.2.2.2 (gl_fits ⟨ok.2.2.2.2.2.2.2.2.1.1, ok.2.2.2.2.2.2.2.2.1.2.1⟩ hdep hl), hts _ hw.1, trivial⟩ ⟨gl_blind, fun U hU hW => ⟨rfl, by rw [hU], by rw [hU]; exact hR.self _, va_K.moved hW.alike ok.2.2.2.2.2.2.2.2.2.1, by rw [hU]; exact ok.2.2.2.2.2.2.2.2.2.2.2.warm hW (fun a h9 h10 => hSS.2.1 a h9 h10) hbi (fun p9 h9 => (hAg p9).2 (Or.inr h9))⟩⟩ rfl (by rw [List.length_map]; exact hn) hLS.1 (by show List.map _ _ = _; rw [List.map_append, List.map_reverse]) (lv_room hcat2) hd (by rw [ok.2.2.2.2.2.2.2.2.1.2.2.1, ok.2.2.2.2.2.2.2.2.1.2.2.2]; exact hk)) K
theorem gg_callIN {n b : Nat} {st : List Value} {host : String} (hsp : Sp N y (.ref b :: As) S Q) (hd : decode M.1 pc = .ok (.invokespecial idx, 3)) (hz : ∀ A ad U H, gl_Ext A ad U H → va_Nw (.methodLinkNest M.2.1 idx y host) U) (hw : Cond.instanceMethod y ∈ gl_T ∧ Cond.initialized y.cls ∈ gl_T ∧ Cond.code y N.1 N.2.2.1 N.2.2.2.1 ∈ gl_T ∧ gl_Lk y n) (hi : y.name = "<init>") (hrt : N.2.2.2.1 = none)
    (hst : As.reverse ++ .ref b :: rest = st) (hn : As.length = n) (hdep : N.2.2.2.2.2.1 + 1 ≤ M.2.2.2.2.2.1) (hl : N.2.2.1 ≤ 21) (hcat : (rest.map gl_w).sum ≤ 8) (hk : k.1 + N.2.2.2.2.2.2.1 ≤ M.2.2.2.2.2.2.1 ∧ k.2 + N.2.2.2.2.2.2.2 ≤ M.2.2.2.2.2.2.2)
    (K : ∀ r S1, Q r S1 → GG M x Z (pc + 3) ls (r.toList ++ rest) S1 (k.1 + N.2.2.2.2.2.2.1, k.2 + N.2.2.2.2.2.2.2)) : GG M x Z pc ls st S k := by
  obtain ⟨p, l, e, R, s, m, args, below, meth, c, D, Kc, A, ad0, S0⟩ := x
  obtain ⟨nb, no, nl, nr, ni⟩ := N
  intro ok ad H locs LS hR hSS hAg hbs hls hLS
  have hrt' : nr = none := hrt
  subst hrt'
  subst hst
  have hb2 : ∀ v ∈ Value.ref b :: As, gl_bd S v := fun v hv => by
    rcases List.mem_cons.mp hv with h | h
    · exact hbs v (List.mem_append_right _ (by rw [h]; exact List.mem_cons_self))
    · exact hbs v (List.mem_append_left _ (List.mem_reverse.mpr h))
  have hts := ok.2.2.2.2.2.1
  have hrest : ∀ v ∈ rest, gl_bd S v := fun v hv => hbs v (List.mem_append_right _ (List.mem_cons_of_mem _ hv))
  have hcat2 : ((rest.map (gl_mv ad)).map fun v => v.category).sum ≤ 8 := by
    rw [List.map_map, show (fun v : Value => v.category) ∘ gl_mv ad = gl_w from funext (fun v => gl_mv_cat ad v)]
    exact hcat
  have hbi : ∀ q, gl_A ad S H.size q → A q := fun q h => by
    rcases h with ⟨p1, g1, g2⟩ | h
    · rw [g2]; exact hR.inA g1
    · exact ok.2.2.2.2.2.2.2.2.2.2.1 q (Nat.le_trans hSS.1 h)
  refine gl_behind (av := (.ref (ad b)) :: As.map (gl_mv ad)) ok hR hSS hAg hrest hls hLS (va_runIN (As := As.map (gl_mv ad)) ⟨ok.1, ok.2.1, ok.2.2.1, ok.2.2.2.2.1, hts⟩ (hsp l D Kc ad H.size hb2) ⟨va_cnB n hts (gl_good (N := (nb, no, nl, none, ni)) hw.2.2.1) rfl rfl rfl (hz _ _ _ _ ok.2.2.2.2.2.2.2.2.2.2.2) (hts _ hw.2.1) hw.2.2.2 (gl_fits ⟨ok.2.2.2.2.2.2.2.2.1.1, ok.2.2.2.2.2.2.2.2.1.2.1⟩ hdep hl), hi, hts _ hw.1⟩ ⟨gl_blind, fun U hU hW => ⟨rfl, by rw [hU], by rw [hU]; exact hR.self _, va_K.moved hW.alike ok.2.2.2.2.2.2.2.2.2.1, by rw [hU]; exact ok.2.2.2.2.2.2.2.2.2.2.2.warm hW (fun a h9 h10 => hSS.2.1 a h9 h10) hbi (fun p9 h9 => (hAg p9).2 (Or.inr h9))⟩⟩ rfl (by rw [List.length_map]; exact hn) hLS.1 (by show List.map _ _ = _; rw [List.map_append, List.map_reverse]; rfl) (lv_room hcat2) hd (by rw [ok.2.2.2.2.2.2.2.2.1.2.2.1, ok.2.2.2.2.2.2.2.2.1.2.2.2]; exact hk)) K
/-- System.arraycopy of ints between two arrays of the heap, from 0 to 0 -/
theorem gg_copyi {p0 p1 n0 n1 : Nat} {f g : Nat → Int32} {n : Int32} (n' : Nat) (hd : decode M.1 pc = .ok (.invokestatic idx, 3)) (hw : Cond.methodLink M.2.1 idx arraycopyName ∈ gl_T ∧ Cond.native arraycopyName ∈ gl_T ∧ Cond.static arraycopyName ∈ gl_T ∧ Cond.initialized "java/lang/System" ∈ gl_T) (h0 : S p0 = some (.inl (0, n0, .inl f))) (hp1 : S p1 = some (.inl (0, n1, .inl g))) (hn : ¬ n < 0) (hn' : n.toNatClampNeg = n') (hb0 : n' ≤ n0) (hb1 : n' ≤ n1) (hdep : 1 ≤ M.2.2.2.2.2.1) (hcat : (st.map gl_w).sum ≤ 8)
    (K : GG M x Z (pc + 3) ls st (gl_pu S p1 (.inl (0, n1, .inl (va_cpy f g 0 0 n')))) k) : GG M x Z pc ls (.int n :: .int 0 :: .ref p1 :: .int 0 :: .ref p0 :: st) S k := by
  obtain ⟨p, l, e, R, s, m, args, below, meth, c, D, Kc, A, ad0, S0⟩ := x
  intro ok ad H locs LS hR hSS hAg hst hls hLS
  have hts := ok.2.2.2.2.2.1
  have hcat2 : ((st.map (gl_mv ad)).map fun v => v.category).sum ≤ 8 := by
    rw [List.map_map, show (fun v : Value => v.category) ∘ gl_mv ad = gl_w from funext (fun v => gl_mv_cat ad v)]
    exact hcat
  have hfr := ok.2.2.2.2.2.2.2.2.1
  obtain ⟨L, j, h1, h2, h3, h4, h5, h6, h7, h8⟩ := gl_at hR hp1
  obtain ⟨j0, g7⟩ := List.getElem?_of_mem ((h1 p0).mp (gl_some h0))
  have hz : (0 : Int32).toNatClampNeg = 0 := by decide
  refine va_copyi (ty := .int) ok.1 ok.2.1 (ok.2.2.1.trans hLS.1.symm) ok.2.2.2.2.1 (hts _ hw.1) (hts _ hw.2.1) (hts _ hw.2.2.1) (hts _ hw.2.2.2) ok.2.2.2.2.2.2.2.2.2.1 h3 h4 hSS j0 j 0 0 (gl_wl_at g7 h0) h8 rfl rfl rfl (by decide) (by decide) hn (by rw [hz, hn']; omega) (by rw [hz, hn']; omega) (fun i hi => rfl) (by omega) (by show _ + (7 + 11) ≤ _; omega) hd (fun H1 locs1 q1 q2 q3 => ?_)
  rw [hz, hn'] at q1 q2
  exact K ok ad H1 locs1 LS (gl_R.pu (c' := .inl (0, n1, .inl (va_cpy f g 0 0 n'))) h1 h2 h5 h6 h7 hp1 (fun r hr => hr.elim) q1 q2) q3 hAg.pu (gl_bds.pu (gl_bd_t (gl_bd_t (gl_bd_t (gl_bd_t (gl_bd_t hst)))))) (gl_bdq.pu hls) hLS
end GN
end
section
/-! by program: the links of the constant pools, the methods' records -/
set_option maxRecDepth 20000 in
theorem goodX0 : wsX00.all goodWord = true := by decide +kernel
theorem igX0 : ∀ w ∈ wsX00, w ∈ gl_T := fun w h => gl_T_in (inX0 w h) (List.all_eq_true.mp goodX0 w h)
set_option maxRecDepth 20000 in
theorem goodX1 : wsX10.all goodWord = true := by decide +kernel
theorem igX1 : ∀ w ∈ wsX10, w ∈ gl_T := fun w h => gl_T_in (inX1 w h) (List.all_eq_true.mp goodX1 w h)
set_option maxRecDepth 20000 in
theorem goodX2 : wsX20.all goodWord = true := by decide +kernel
theorem igX2 : ∀ w ∈ wsX20, w ∈ gl_T := fun w h => gl_T_in (inX2 w h) (List.all_eq_true.mp goodX2 w h)
set_option maxRecDepth 20000 in
theorem goodX3 : wsX30.all goodWord = true := by decide +kernel
theorem igX3 : ∀ w ∈ wsX30, w ∈ gl_T := fun w h => gl_T_in (inX3 w h) (List.all_eq_true.mp goodX3 w h)
set_option maxRecDepth 20000 in
theorem goodX4 : wsX40.all goodWord = true := by decide +kernel
theorem igX4 : ∀ w ∈ wsX40, w ∈ gl_T := fun w h => gl_T_in (inX4 w h) (List.all_eq_true.mp goodX4 w h)
set_option maxRecDepth 20000 in
theorem goodX5 : wsX50.all goodWord = true := by decide +kernel
theorem igX5 : ∀ w ∈ wsX50, w ∈ gl_T := fun w h => gl_T_in (inX5 w h) (List.all_eq_true.mp goodX5 w h)
set_option maxRecDepth 20000 in
theorem goodX6 : wsX60.all goodWord = true := by decide +kernel
theorem igX6 : ∀ w ∈ wsX60, w ∈ gl_T := fun w h => gl_T_in (inX6 w h) (List.all_eq_true.mp goodX6 w h)
set_option maxRecDepth 20000 in
theorem goodX7 : wsX70.all goodWord = true := by decide +kernel
theorem igX7 : ∀ w ∈ wsX70, w ∈ gl_T := fun w h => gl_T_in (inX7 w h) (List.all_eq_true.mp goodX7 w h)
set_option maxRecDepth 20000 in
theorem lk_X0_7 : Cond.fieldLink RX0 7 (TX0 0).1 (TX0 0).2.1 (TX0 0).2.2.1 ∈ gl_T := (gl_T_in (by decide +kernel) (by decide +kernel))
theorem pf_X0_7 {M : gl_M} {x : gl_X} {Z : State → Prop} {pc : Nat} {ls : List (Option Value)} {st : List Value} {S : gl_H} {k : Nat × Nat} {pl : Nat} {fs : List Value} {a : Int32} (hM : M.2.1 = RX0) (hi : M.2.2.2.2.1 = true) (hd : decode M.1 pc = .ok (.putfield 7, 3)) (hS : S pl = some (.inr (0, fs))) (hl : 0 < fs.length) (K : GG M x Z (pc + 3) ls st (gl_pu S pl (.inr (0, fs.set 0 (.int a)))) k) : GG M x Z pc ls (.int a :: .ref pl :: st) S k := gg_putFi (ty0 := tyX0) 0 hd igX0 tyX0_ok nmX0 rfl (by decide) (by rw [hM]; exact lk_X0_7) rfl rfl hi (by rw [hM]; rfl) (by decide +kernel) hS hl K
set_option maxRecDepth 20000 in
theorem lk_X0_13 : Cond.fieldLink RX0 13 (TX0 1).1 (TX0 1).2.1 (TX0 1).2.2.1 ∈ gl_T := (gl_T_in (by decide +kernel) (by decide +kernel))
theorem pf_X0_13 {M : gl_M} {x : gl_X} {Z : State → Prop} {pc : Nat} {ls : List (Option Value)} {st : List Value} {S : gl_H} {k : Nat × Nat} {pl : Nat} {fs : List Value} {a : Int32} (hM : M.2.1 = RX0) (hi : M.2.2.2.2.1 = true) (hd : decode M.1 pc = .ok (.putfield 13, 3)) (hS : S pl = some (.inr (0, fs))) (hl : 1 < fs.length) (K : GG M x Z (pc + 3) ls st (gl_pu S pl (.inr (0, fs.set 1 (.int a)))) k) : GG M x Z pc ls (.int a :: .ref pl :: st) S k := gg_putFi (ty0 := tyX0) 1 hd igX0 tyX0_ok nmX0 rfl (by decide) (by rw [hM]; exact lk_X0_13) rfl rfl hi (by rw [hM]; rfl) (by decide +kernel) hS hl K
set_option maxRecDepth 20000 in
theorem lk_X0_16 : Cond.fieldLink RX0 16 (TX0 2).1 (TX0 2).2.1 (TX0 2).2.2.1 ∈ gl_T := (gl_T_in (by decide +kernel) (by decide +kernel))
theorem pf_X0_16 {M : gl_M} {x : gl_X} {Z : State → Prop} {pc : Nat} {ls : List (Option Value)} {st : List Value} {S : gl_H} {k : Nat × Nat} {pl : Nat} {fs : List Value} {a : Int32} (hM : M.2.1 = RX0) (hi : M.2.2.2.2.1 = true) (hd : decode M.1 pc = .ok (.putfield 16, 3)) (hS : S pl = some (.inr (0, fs))) (hl : 2 < fs.length) (K : GG M x Z (pc + 3) ls st (gl_pu S pl (.inr (0, fs.set 2 (.int a)))) k) : GG M x Z pc ls (.int a :: .ref pl :: st) S k := gg_putFi (ty0 := tyX0) 2 hd igX0 tyX0_ok nmX0 rfl (by decide) (by rw [hM]; exact lk_X0_16) rfl rfl hi (by rw [hM]; rfl) (by decide +kernel) hS hl K
set_option maxRecDepth 20000 in
theorem lk_X0_19 : Cond.fieldLink RX0 19 (TX0 3).1 (TX0 3).2.1 (TX0 3).2.2.1 ∈ gl_T := (gl_T_in (by decide +kernel) (by decide +kernel))
theorem pf_X0_19 {M : gl_M} {x : gl_X} {Z : State → Prop} {pc : Nat} {ls : List (Option Value)} {st : List Value} {S : gl_H} {k : Nat × Nat} {pl : Nat} {fs : List Value} {a : Int32} (hM : M.2.1 = RX0) (hi : M.2.2.2.2.1 = true) (hd : decode M.1 pc = .ok (.putfield 19, 3)) (hS : S pl = some (.inr (0, fs))) (hl : 3 < fs.length) (K : GG M x Z (pc + 3) ls st (gl_pu S pl (.inr (0, fs.set 3 (.int a)))) k) : GG M x Z pc ls (.int a :: .ref pl :: st) S k := gg_putFi (ty0 := tyX0) 3 hd igX0 tyX0_ok nmX0 rfl (by decide) (by rw [hM]; exact lk_X0_19) rfl rfl hi (by rw [hM]; rfl) (by decide +kernel) hS hl K
set_option maxRecDepth 20000 in
theorem lk_X0_22 : Cond.fieldLink RX0 22 (TX0 4).1 (TX0 4).2.1 (TX0 4).2.2.1 ∈ gl_T := (gl_T_in (by decide +kernel) (by decide +kernel))
theorem pf_X0_22 {M : gl_M} {x : gl_X} {Z : State → Prop} {pc : Nat} {ls : List (Option Value)} {st : List Value} {S : gl_H} {k : Nat × Nat} {pl : Nat} {fs : List Value} {a : Int32} (hM : M.2.1 = RX0) (hi : M.2.2.2.2.1 = true) (hd : decode M.1 pc = .ok (.putfield 22, 3)) (hS : S pl = some (.inr (0, fs))) (hl : 4 < fs.length) (K : GG M x Z (pc + 3) ls st (gl_pu S pl (.inr (0, fs.set 4 (.int a)))) k) : GG M x Z pc ls (.int a :: .ref pl :: st) S k := gg_putFi (ty0 := tyX0) 4 hd igX0 tyX0_ok nmX0 rfl (by decide) (by rw [hM]; exact lk_X0_22) rfl rfl hi (by rw [hM]; rfl) (by decide +kernel) hS hl K
set_option maxRecDepth 20000 in
theorem lk_X1_13 : Cond.fieldLink RX1 13 (TX1 0).1 (TX1 0).2.1 (TX1 0).2.2.1 ∈ gl_T := (gl_T_in (by decide +kernel) (by decide +kernel))
theorem gf_X1_13 {M : gl_M} {x : gl_X} {Z : State → Prop} {pc : Nat} {ls : List (Option Value)} {st : List Value} {S : gl_H} {k : Nat × Nat} {pl : Nat} {fs : List Value} {v : Value} (hM : M.2.1 = RX1) (hd : decode M.1 pc = .ok (.getfield 13, 3)) (hS : S pl = some (.inr (1, fs))) (hv : fs[0]? = some v) (K : GG M x Z (pc + 3) ls (v :: st) S k) : GG M x Z pc ls (.ref pl :: st) S k := gg_get 0 hd igX1 rfl (by decide) (by rw [hM]; exact lk_X1_13) rfl hS hv K
theorem pf_X1_13 {M : gl_M} {x : gl_X} {Z : State → Prop} {pc : Nat} {ls : List (Option Value)} {st : List Value} {S : gl_H} {k : Nat × Nat} {pl : Nat} {fs : List Value} {rv : Nat} (hM : M.2.1 = RX1) (hi : M.2.2.2.2.1 = true) (hd : decode M.1 pc = .ok (.putfield 13, 3)) (hS : S pl = some (.inr (1, fs))) (hl : 0 < fs.length) (hrv : S rv ≠ none) (K : GG M x Z (pc + 3) ls st (gl_pu S pl (.inr (1, fs.set 0 (.ref rv)))) k) : GG M x Z pc ls (.ref rv :: .ref pl :: st) S k := gg_putF (ty0 := tyX1) (ty := tyX1 0) 0 hd igX1 tyX1_ok nmX1 rfl (by decide) (by rw [hM]; exact lk_X1_13) rfl rfl hi (by rw [hM]; rfl) (by decide +kernel) hS hl (fun a => ⟨rfl, rfl⟩) hrv K
set_option maxRecDepth 20000 in
theorem lk_X1_16 : Cond.fieldLink RX1 16 (TX1 1).1 (TX1 1).2.1 (TX1 1).2.2.1 ∈ gl_T := (gl_T_in (by decide +kernel) (by decide +kernel))
theorem gf_X1_16 {M : gl_M} {x : gl_X} {Z : State → Prop} {pc : Nat} {ls : List (Option Value)} {st : List Value} {S : gl_H} {k : Nat × Nat} {pl : Nat} {fs : List Value} {v : Value} (hM : M.2.1 = RX1) (hd : decode M.1 pc = .ok (.getfield 16, 3)) (hS : S pl = some (.inr (1, fs))) (hv : fs[1]? = some v) (K : GG M x Z (pc + 3) ls (v :: st) S k) : GG M x Z pc ls (.ref pl :: st) S k := gg_get 1 hd igX1 rfl (by decide) (by rw [hM]; exact lk_X1_16) rfl hS hv K
theorem pf_X1_16 {M : gl_M} {x : gl_X} {Z : State → Prop} {pc : Nat} {ls : List (Option Value)} {st : List Value} {S : gl_H} {k : Nat × Nat} {pl : Nat} {fs : List Value} {rv : Nat} (hM : M.2.1 = RX1) (hi : M.2.2.2.2.1 = true) (hd : decode M.1 pc = .ok (.putfield 16, 3)) (hS : S pl = some (.inr (1, fs))) (hl : 1 < fs.length) (hrv : S rv ≠ none) (K : GG M x Z (pc + 3) ls st (gl_pu S pl (.inr (1, fs.set 1 (.ref rv)))) k) : GG M x Z pc ls (.ref rv :: .ref pl :: st) S k := gg_putF (ty0 := tyX1) (ty := tyX1 1) 1 hd igX1 tyX1_ok nmX1 rfl (by decide) (by rw [hM]; exact lk_X1_16) rfl rfl hi (by rw [hM]; rfl) (by decide +kernel) hS hl (fun a => ⟨rfl, rfl⟩) hrv K
set_option maxRecDepth 20000 in
theorem lk_X1_20 : Cond.fieldLink RX1 20 (TX1 3).1 (TX1 3).2.1 (TX1 3).2.2.1 ∈ gl_T := (gl_T_in (by decide +kernel) (by decide +kernel))
theorem gf_X1_20 {M : gl_M} {x : gl_X} {Z : State → Prop} {pc : Nat} {ls : List (Option Value)} {st : List Value} {S : gl_H} {k : Nat × Nat} {pl : Nat} {fs : List Value} {v : Value} (hM : M.2.1 = RX1) (hd : decode M.1 pc = .ok (.getfield 20, 3)) (hS : S pl = some (.inr (1, fs))) (hv : fs[3]? = some v) (K : GG M x Z (pc + 3) ls (v :: st) S k) : GG M x Z pc ls (.ref pl :: st) S k := gg_get 3 hd igX1 rfl (by decide) (by rw [hM]; exact lk_X1_20) rfl hS hv K
theorem pf_X1_20 {M : gl_M} {x : gl_X} {Z : State → Prop} {pc : Nat} {ls : List (Option Value)} {st : List Value} {S : gl_H} {k : Nat × Nat} {pl : Nat} {fs : List Value} {rv : Nat} (hM : M.2.1 = RX1) (hi : M.2.2.2.2.1 = true) (hd : decode M.1 pc = .ok (.putfield 20, 3)) (hS : S pl = some (.inr (1, fs))) (hl : 3 < fs.length) (hrv : S rv ≠ none) (K : GG M x Z (pc + 3) ls st (gl_pu S pl (.inr (1, fs.set 3 (.ref rv)))) k) : GG M x Z pc ls (.ref rv :: .ref pl :: st) S k := gg_putF (ty0 := tyX1) (ty := tyX1 3) 3 hd igX1 tyX1_ok nmX1 rfl (by decide) (by rw [hM]; exact lk_X1_20) rfl rfl hi (by rw [hM]; rfl) (by decide +kernel) hS hl (fun a => ⟨rfl, rfl⟩) hrv K
set_option maxRecDepth 20000 in
theorem lk_X1_23 : Cond.fieldLink RX1 23 (TX1 5).1 (TX1 5).2.1 (TX1 5).2.2.1 ∈ gl_T := (gl_T_in (by decide +kernel) (by decide +kernel))
theorem gf_X1_23 {M : gl_M} {x : gl_X} {Z : State → Prop} {pc : Nat} {ls : List (Option Value)} {st : List Value} {S : gl_H} {k : Nat × Nat} {pl : Nat} {fs : List Value} {v : Value} (hM : M.2.1 = RX1) (hd : decode M.1 pc = .ok (.getfield 23, 3)) (hS : S pl = some (.inr (1, fs))) (hv : fs[5]? = some v) (K : GG M x Z (pc + 3) ls (v :: st) S k) : GG M x Z pc ls (.ref pl :: st) S k := gg_get 5 hd igX1 rfl (by decide) (by rw [hM]; exact lk_X1_23) rfl hS hv K
theorem pf_X1_23 {M : gl_M} {x : gl_X} {Z : State → Prop} {pc : Nat} {ls : List (Option Value)} {st : List Value} {S : gl_H} {k : Nat × Nat} {pl : Nat} {fs : List Value} {rv : Nat} (hM : M.2.1 = RX1) (hi : M.2.2.2.2.1 = true) (hd : decode M.1 pc = .ok (.putfield 23, 3)) (hS : S pl = some (.inr (1, fs))) (hl : 5 < fs.length) (hrv : S rv ≠ none) (K : GG M x Z (pc + 3) ls st (gl_pu S pl (.inr (1, fs.set 5 (.ref rv)))) k) : GG M x Z pc ls (.ref rv :: .ref pl :: st) S k := gg_putF (ty0 := tyX1) (ty := tyX1 5) 5 hd igX1 tyX1_ok nmX1 rfl (by decide) (by rw [hM]; exact lk_X1_23) rfl rfl hi (by rw [hM]; rfl) (by decide +kernel) hS hl (fun a => ⟨rfl, rfl⟩) hrv K
set_option maxRecDepth 20000 in
theorem lk_X1_27 : Cond.fieldLink RX1 27 (TX1 6).1 (TX1 6).2.1 (TX1 6).2.2.1 ∈ gl_T := (gl_T_in (by decide +kernel) (by decide +kernel))
theorem gf_X1_27 {M : gl_M} {x : gl_X} {Z : State → Prop} {pc : Nat} {ls : List (Option Value)} {st : List Value} {S : gl_H} {k : Nat × Nat} {pl : Nat} {fs : List Value} {v : Value} (hM : M.2.1 = RX1) (hd : decode M.1 pc = .ok (.getfield 27, 3)) (hS : S pl = some (.inr (1, fs))) (hv : fs[6]? = some v) (K : GG M x Z (pc + 3) ls (v :: st) S k) : GG M x Z pc ls (.ref pl :: st) S k := gg_get 6 hd igX1 rfl (by decide) (by rw [hM]; exact lk_X1_27) rfl hS hv K
theorem pf_X1_27 {M : gl_M} {x : gl_X} {Z : State → Prop} {pc : Nat} {ls : List (Option Value)} {st : List Value} {S : gl_H} {k : Nat × Nat} {pl : Nat} {fs : List Value} {rv : Nat} (hM : M.2.1 = RX1) (hi : M.2.2.2.2.1 = true) (hd : decode M.1 pc = .ok (.putfield 27, 3)) (hS : S pl = some (.inr (1, fs))) (hl : 6 < fs.length) (hrv : S rv ≠ none) (K : GG M x Z (pc + 3) ls st (gl_pu S pl (.inr (1, fs.set 6 (.ref rv)))) k) : GG M x Z pc ls (.ref rv :: .ref pl :: st) S k := gg_putF (ty0 := tyX1) (ty := tyX1 6) 6 hd igX1 tyX1_ok nmX1 rfl (by decide) (by rw [hM]; exact lk_X1_27) rfl rfl hi (by rw [hM]; rfl) (by decide +kernel) hS hl (fun a => ⟨rfl, rfl⟩) hrv K
set_option maxRecDepth 20000 in
theorem lk_X1_41 : Cond.fieldLink RX1 41 (TX1 2).1 (TX1 2).2.1 (TX1 2).2.2.1 ∈ gl_T := (gl_T_in (by decide +kernel) (by decide +kernel))
theorem gf_X1_41 {M : gl_M} {x : gl_X} {Z : State → Prop} {pc : Nat} {ls : List (Option Value)} {st : List Value} {S : gl_H} {k : Nat × Nat} {pl : Nat} {fs : List Value} {v : Value} (hM : M.2.1 = RX1) (hd : decode M.1 pc = .ok (.getfield 41, 3)) (hS : S pl = some (.inr (1, fs))) (hv : fs[2]? = some v) (K : GG M x Z (pc + 3) ls (v :: st) S k) : GG M x Z pc ls (.ref pl :: st) S k := gg_get 2 hd igX1 rfl (by decide) (by rw [hM]; exact lk_X1_41) rfl hS hv K
theorem pf_X1_41 {M : gl_M} {x : gl_X} {Z : State → Prop} {pc : Nat} {ls : List (Option Value)} {st : List Value} {S : gl_H} {k : Nat × Nat} {pl : Nat} {fs : List Value} {a : Int32} (hM : M.2.1 = RX1) (hd : decode M.1 pc = .ok (.putfield 41, 3)) (hS : S pl = some (.inr (1, fs))) (hl : 2 < fs.length) (K : GG M x Z (pc + 3) ls st (gl_pu S pl (.inr (1, fs.set 2 (.int a)))) k) : GG M x Z pc ls (.int a :: .ref pl :: st) S k := gg_put (ty0 := tyX1) (ty := .int) 2 hd igX1 tyX1_ok nmX1 rfl (by decide) (by rw [hM]; exact lk_X1_41) rfl rfl (by decide +kernel) hS hl rfl rfl (fun r e => by cases e) K
set_option maxRecDepth 20000 in
theorem lk_X1_45 : Cond.fieldLink RX1 45 (TX1 4).1 (TX1 4).2.1 (TX1 4).2.2.1 ∈ gl_T := (gl_T_in (by decide +kernel) (by decide +kernel))
theorem gf_X1_45 {M : gl_M} {x : gl_X} {Z : State → Prop} {pc : Nat} {ls : List (Option Value)} {st : List Value} {S : gl_H} {k : Nat × Nat} {pl : Nat} {fs : List Value} {v : Value} (hM : M.2.1 = RX1) (hd : decode M.1 pc = .ok (.getfield 45, 3)) (hS : S pl = some (.inr (1, fs))) (hv : fs[4]? = some v) (K : GG M x Z (pc + 3) ls (v :: st) S k) : GG M x Z pc ls (.ref pl :: st) S k := gg_get 4 hd igX1 rfl (by decide) (by rw [hM]; exact lk_X1_45) rfl hS hv K
theorem pf_X1_45 {M : gl_M} {x : gl_X} {Z : State → Prop} {pc : Nat} {ls : List (Option Value)} {st : List Value} {S : gl_H} {k : Nat × Nat} {pl : Nat} {fs : List Value} {a : Int32} (hM : M.2.1 = RX1) (hd : decode M.1 pc = .ok (.putfield 45, 3)) (hS : S pl = some (.inr (1, fs))) (hl : 4 < fs.length) (K : GG M x Z (pc + 3) ls st (gl_pu S pl (.inr (1, fs.set 4 (.int a)))) k) : GG M x Z pc ls (.int a :: .ref pl :: st) S k := gg_put (ty0 := tyX1) (ty := .int) 4 hd igX1 tyX1_ok nmX1 rfl (by decide) (by rw [hM]; exact lk_X1_45) rfl rfl (by decide +kernel) hS hl rfl rfl (fun r e => by cases e) K
set_option maxRecDepth 20000 in
theorem lk_X2_11 : Cond.fieldLink RX2 11 (TX2 0).1 (TX2 0).2.1 (TX2 0).2.2.1 ∈ gl_T := (gl_T_in (by decide +kernel) (by decide +kernel))
theorem gf_X2_11 {M : gl_M} {x : gl_X} {Z : State → Prop} {pc : Nat} {ls : List (Option Value)} {st : List Value} {S : gl_H} {k : Nat × Nat} {pl : Nat} {fs : List Value} {v : Value} (hM : M.2.1 = RX2) (hd : decode M.1 pc = .ok (.getfield 11, 3)) (hS : S pl = some (.inr (2, fs))) (hv : fs[0]? = some v) (K : GG M x Z (pc + 3) ls (v :: st) S k) : GG M x Z pc ls (.ref pl :: st) S k := gg_get 0 hd igX2 rfl (by decide) (by rw [hM]; exact lk_X2_11) rfl hS hv K
theorem pf_X2_11 {M : gl_M} {x : gl_X} {Z : State → Prop} {pc : Nat} {ls : List (Option Value)} {st : List Value} {S : gl_H} {k : Nat × Nat} {pl : Nat} {fs : List Value} {rv : Nat} (hM : M.2.1 = RX2) (hi : M.2.2.2.2.1 = true) (hd : decode M.1 pc = .ok (.putfield 11, 3)) (hS : S pl = some (.inr (2, fs))) (hl : 0 < fs.length) (hrv : S rv ≠ none) (K : GG M x Z (pc + 3) ls st (gl_pu S pl (.inr (2, fs.set 0 (.ref rv)))) k) : GG M x Z pc ls (.ref rv :: .ref pl :: st) S k := gg_putF (ty0 := tyX2) (ty := tyX2 0) 0 hd igX2 tyX2_ok nmX2 rfl (by decide) (by rw [hM]; exact lk_X2_11) rfl rfl hi (by rw [hM]; rfl) (by decide +kernel) hS hl (fun a => ⟨rfl, rfl⟩) hrv K
set_option maxRecDepth 20000 in
theorem lk_X2_15 : Cond.fieldLink RX2 15 (TX2 1).1 (TX2 1).2.1 (TX2 1).2.2.1 ∈ gl_T := (gl_T_in (by decide +kernel) (by decide +kernel))
theorem gf_X2_15 {M : gl_M} {x : gl_X} {Z : State → Prop} {pc : Nat} {ls : List (Option Value)} {st : List Value} {S : gl_H} {k : Nat × Nat} {pl : Nat} {fs : List Value} {v : Value} (hM : M.2.1 = RX2) (hd : decode M.1 pc = .ok (.getfield 15, 3)) (hS : S pl = some (.inr (2, fs))) (hv : fs[1]? = some v) (K : GG M x Z (pc + 3) ls (v :: st) S k) : GG M x Z pc ls (.ref pl :: st) S k := gg_get 1 hd igX2 rfl (by decide) (by rw [hM]; exact lk_X2_15) rfl hS hv K
theorem pf_X2_15 {M : gl_M} {x : gl_X} {Z : State → Prop} {pc : Nat} {ls : List (Option Value)} {st : List Value} {S : gl_H} {k : Nat × Nat} {pl : Nat} {fs : List Value} {rv : Nat} (hM : M.2.1 = RX2) (hi : M.2.2.2.2.1 = true) (hd : decode M.1 pc = .ok (.putfield 15, 3)) (hS : S pl = some (.inr (2, fs))) (hl : 1 < fs.length) (hrv : S rv ≠ none) (K : GG M x Z (pc + 3) ls st (gl_pu S pl (.inr (2, fs.set 1 (.ref rv)))) k) : GG M x Z pc ls (.ref rv :: .ref pl :: st) S k := gg_putF (ty0 := tyX2) (ty := tyX2 1) 1 hd igX2 tyX2_ok nmX2 rfl (by decide) (by rw [hM]; exact lk_X2_15) rfl rfl hi (by rw [hM]; rfl) (by decide +kernel) hS hl (fun a => ⟨rfl, rfl⟩) hrv K
set_option maxRecDepth 20000 in
theorem lk_X2_27 : Cond.fieldLink RX2 27 (TX2 2).1 (TX2 2).2.1 (TX2 2).2.2.1 ∈ gl_T := (gl_T_in (by decide +kernel) (by decide +kernel))
theorem gf_X2_27 {M : gl_M} {x : gl_X} {Z : State → Prop} {pc : Nat} {ls : List (Option Value)} {st : List Value} {S : gl_H} {k : Nat × Nat} {pl : Nat} {fs : List Value} {v : Value} (hM : M.2.1 = RX2) (hd : decode M.1 pc = .ok (.getfield 27, 3)) (hS : S pl = some (.inr (2, fs))) (hv : fs[2]? = some v) (K : GG M x Z (pc + 3) ls (v :: st) S k) : GG M x Z pc ls (.ref pl :: st) S k := gg_get 2 hd igX2 rfl (by decide) (by rw [hM]; exact lk_X2_27) rfl hS hv K
theorem pf_X2_27 {M : gl_M} {x : gl_X} {Z : State → Prop} {pc : Nat} {ls : List (Option Value)} {st : List Value} {S : gl_H} {k : Nat × Nat} {pl : Nat} {fs : List Value} {a : Int32} (hM : M.2.1 = RX2) (hd : decode M.1 pc = .ok (.putfield 27, 3)) (hS : S pl = some (.inr (2, fs))) (hl : 2 < fs.length) (K : GG M x Z (pc + 3) ls st (gl_pu S pl (.inr (2, fs.set 2 (.int a)))) k) : GG M x Z pc ls (.int a :: .ref pl :: st) S k := gg_put (ty0 := tyX2) (ty := .int) 2 hd igX2 tyX2_ok nmX2 rfl (by decide) (by rw [hM]; exact lk_X2_27) rfl rfl (by decide +kernel) hS hl rfl rfl (fun r e => by cases e) K
set_option maxRecDepth 20000 in
theorem lk_X3_11 : Cond.fieldLink RX3 11 (TX3 0).1 (TX3 0).2.1 (TX3 0).2.2.1 ∈ gl_T := (gl_T_in (by decide +kernel) (by decide +kernel))
theorem gf_X3_11 {M : gl_M} {x : gl_X} {Z : State → Prop} {pc : Nat} {ls : List (Option Value)} {st : List Value} {S : gl_H} {k : Nat × Nat} {pl : Nat} {fs : List Value} {v : Value} (hM : M.2.1 = RX3) (hd : decode M.1 pc = .ok (.getfield 11, 3)) (hS : S pl = some (.inr (3, fs))) (hv : fs[0]? = some v) (K : GG M x Z (pc + 3) ls (v :: st) S k) : GG M x Z pc ls (.ref pl :: st) S k := gg_get 0 hd igX3 rfl (by decide) (by rw [hM]; exact lk_X3_11) rfl hS hv K
theorem pf_X3_11 {M : gl_M} {x : gl_X} {Z : State → Prop} {pc : Nat} {ls : List (Option Value)} {st : List Value} {S : gl_H} {k : Nat × Nat} {pl : Nat} {fs : List Value} {rv : Nat} (hM : M.2.1 = RX3) (hi : M.2.2.2.2.1 = true) (hd : decode M.1 pc = .ok (.putfield 11, 3)) (hS : S pl = some (.inr (3, fs))) (hl : 0 < fs.length) (hrv : S rv ≠ none) (K : GG M x Z (pc + 3) ls st (gl_pu S pl (.inr (3, fs.set 0 (.ref rv)))) k) : GG M x Z pc ls (.ref rv :: .ref pl :: st) S k := gg_putF (ty0 := tyX3) (ty := tyX3 0) 0 hd igX3 tyX3_ok nmX3 rfl (by decide) (by rw [hM]; exact lk_X3_11) rfl rfl hi (by rw [hM]; rfl) (by decide +kernel) hS hl (fun a => ⟨rfl, rfl⟩) hrv K
set_option maxRecDepth 20000 in
theorem lk_X3_15 : Cond.fieldLink RX3 15 (TX3 1).1 (TX3 1).2.1 (TX3 1).2.2.1 ∈ gl_T := (gl_T_in (by decide +kernel) (by decide +kernel))
theorem gf_X3_15 {M : gl_M} {x : gl_X} {Z : State → Prop} {pc : Nat} {ls : List (Option Value)} {st : List Value} {S : gl_H} {k : Nat × Nat} {pl : Nat} {fs : List Value} {v : Value} (hM : M.2.1 = RX3) (hd : decode M.1 pc = .ok (.getfield 15, 3)) (hS : S pl = some (.inr (3, fs))) (hv : fs[1]? = some v) (K : GG M x Z (pc + 3) ls (v :: st) S k) : GG M x Z pc ls (.ref pl :: st) S k := gg_get 1 hd igX3 rfl (by decide) (by rw [hM]; exact lk_X3_15) rfl hS hv K
theorem pf_X3_15 {M : gl_M} {x : gl_X} {Z : State → Prop} {pc : Nat} {ls : List (Option Value)} {st : List Value} {S : gl_H} {k : Nat × Nat} {pl : Nat} {fs : List Value} {a : Int32} (hM : M.2.1 = RX3) (hd : decode M.1 pc = .ok (.putfield 15, 3)) (hS : S pl = some (.inr (3, fs))) (hl : 1 < fs.length) (K : GG M x Z (pc + 3) ls st (gl_pu S pl (.inr (3, fs.set 1 (.int a)))) k) : GG M x Z pc ls (.int a :: .ref pl :: st) S k := gg_put (ty0 := tyX3) (ty := .int) 1 hd igX3 tyX3_ok nmX3 rfl (by decide) (by rw [hM]; exact lk_X3_15) rfl rfl (by decide +kernel) hS hl rfl rfl (fun r e => by cases e) K
set_option maxRecDepth 20000 in
theorem lk_X4_9 : Cond.fieldLink RX4 9 (TX4 3).1 (TX4 3).2.1 (TX4 3).2.2.1 ∈ gl_T := (gl_T_in (by decide +kernel) (by decide +kernel))
theorem gf_X4_9 {M : gl_M} {x : gl_X} {Z : State → Prop} {pc : Nat} {ls : List (Option Value)} {st : List Value} {S : gl_H} {k : Nat × Nat} {pl : Nat} {fs : List Value} {v : Value} (hM : M.2.1 = RX4) (hd : decode M.1 pc = .ok (.getfield 9, 3)) (hS : S pl = some (.inr (4, fs))) (hv : fs[3]? = some v) (K : GG M x Z (pc + 3) ls (v :: st) S k) : GG M x Z pc ls (.ref pl :: st) S k := gg_get 3 hd igX4 rfl (by decide) (by rw [hM]; exact lk_X4_9) rfl hS hv K
theorem pf_X4_9 {M : gl_M} {x : gl_X} {Z : State → Prop} {pc : Nat} {ls : List (Option Value)} {st : List Value} {S : gl_H} {k : Nat × Nat} {pl : Nat} {fs : List Value} {rv : Nat} (hM : M.2.1 = RX4) (hi : M.2.2.2.2.1 = true) (hd : decode M.1 pc = .ok (.putfield 9, 3)) (hS : S pl = some (.inr (4, fs))) (hl : 3 < fs.length) (hrv : S rv ≠ none) (K : GG M x Z (pc + 3) ls st (gl_pu S pl (.inr (4, fs.set 3 (.ref rv)))) k) : GG M x Z pc ls (.ref rv :: .ref pl :: st) S k := gg_putF (ty0 := tyX4) (ty := tyX4 3) 3 hd igX4 tyX4_ok nmX4 rfl (by decide) (by rw [hM]; exact lk_X4_9) rfl rfl hi (by rw [hM]; rfl) (by decide +kernel) hS hl (fun a => ⟨rfl, rfl⟩) hrv K
set_option maxRecDepth 20000 in
theorem lk_X4_15 : Cond.fieldLink RX4 15 (TX4 0).1 (TX4 0).2.1 (TX4 0).2.2.1 ∈ gl_T := (gl_T_in (by decide +kernel) (by decide +kernel))
theorem gf_X4_15 {M : gl_M} {x : gl_X} {Z : State → Prop} {pc : Nat} {ls : List (Option Value)} {st : List Value} {S : gl_H} {k : Nat × Nat} {pl : Nat} {fs : List Value} {v : Value} (hM : M.2.1 = RX4) (hd : decode M.1 pc = .ok (.getfield 15, 3)) (hS : S pl = some (.inr (4, fs))) (hv : fs[0]? = some v) (K : GG M x Z (pc + 3) ls (v :: st) S k) : GG M x Z pc ls (.ref pl :: st) S k := gg_get 0 hd igX4 rfl (by decide) (by rw [hM]; exact lk_X4_15) rfl hS hv K
theorem pf_X4_15 {M : gl_M} {x : gl_X} {Z : State → Prop} {pc : Nat} {ls : List (Option Value)} {st : List Value} {S : gl_H} {k : Nat × Nat} {pl : Nat} {fs : List Value} {a : Int32} (hM : M.2.1 = RX4) (hi : M.2.2.2.2.1 = true) (hd : decode M.1 pc = .ok (.putfield 15, 3)) (hS : S pl = some (.inr (4, fs))) (hl : 0 < fs.length) (K : GG M x Z (pc + 3) ls st (gl_pu S pl (.inr (4, fs.set 0 (.int a)))) k) : GG M x Z pc ls (.int a :: .ref pl :: st) S k := gg_putFi (ty0 := tyX4) 0 hd igX4 tyX4_ok nmX4 rfl (by decide) (by rw [hM]; exact lk_X4_15) rfl rfl hi (by rw [hM]; rfl) (by decide +kernel) hS hl K
set_option maxRecDepth 20000 in
theorem lk_X4_19 : Cond.fieldLink RX4 19 (TX4 1).1 (TX4 1).2.1 (TX4 1).2.2.1 ∈ gl_T := (gl_T_in (by decide +kernel) (by decide +kernel))
theorem gf_X4_19 {M : gl_M} {x : gl_X} {Z : State → Prop} {pc : Nat} {ls : List (Option Value)} {st : List Value} {S : gl_H} {k : Nat × Nat} {pl : Nat} {fs : List Value} {v : Value} (hM : M.2.1 = RX4) (hd : decode M.1 pc = .ok (.getfield 19, 3)) (hS : S pl = some (.inr (4, fs))) (hv : fs[1]? = some v) (K : GG M x Z (pc + 3) ls (v :: st) S k) : GG M x Z pc ls (.ref pl :: st) S k := gg_get 1 hd igX4 rfl (by decide) (by rw [hM]; exact lk_X4_19) rfl hS hv K
theorem pf_X4_19 {M : gl_M} {x : gl_X} {Z : State → Prop} {pc : Nat} {ls : List (Option Value)} {st : List Value} {S : gl_H} {k : Nat × Nat} {pl : Nat} {fs : List Value} {a : Int32} (hM : M.2.1 = RX4) (hi : M.2.2.2.2.1 = true) (hd : decode M.1 pc = .ok (.putfield 19, 3)) (hS : S pl = some (.inr (4, fs))) (hl : 1 < fs.length) (K : GG M x Z (pc + 3) ls st (gl_pu S pl (.inr (4, fs.set 1 (.int a)))) k) : GG M x Z pc ls (.int a :: .ref pl :: st) S k := gg_putFi (ty0 := tyX4) 1 hd igX4 tyX4_ok nmX4 rfl (by decide) (by rw [hM]; exact lk_X4_19) rfl rfl hi (by rw [hM]; rfl) (by decide +kernel) hS hl K
set_option maxRecDepth 20000 in
theorem lk_X4_22 : Cond.fieldLink RX4 22 (TX4 2).1 (TX4 2).2.1 (TX4 2).2.2.1 ∈ gl_T := (gl_T_in (by decide +kernel) (by decide +kernel))
theorem gf_X4_22 {M : gl_M} {x : gl_X} {Z : State → Prop} {pc : Nat} {ls : List (Option Value)} {st : List Value} {S : gl_H} {k : Nat × Nat} {pl : Nat} {fs : List Value} {v : Value} (hM : M.2.1 = RX4) (hd : decode M.1 pc = .ok (.getfield 22, 3)) (hS : S pl = some (.inr (4, fs))) (hv : fs[2]? = some v) (K : GG M x Z (pc + 3) ls (v :: st) S k) : GG M x Z pc ls (.ref pl :: st) S k := gg_get 2 hd igX4 rfl (by decide) (by rw [hM]; exact lk_X4_22) rfl hS hv K
theorem pf_X4_22 {M : gl_M} {x : gl_X} {Z : State → Prop} {pc : Nat} {ls : List (Option Value)} {st : List Value} {S : gl_H} {k : Nat × Nat} {pl : Nat} {fs : List Value} {a : Int32} (hM : M.2.1 = RX4) (hi : M.2.2.2.2.1 = true) (hd : decode M.1 pc = .ok (.putfield 22, 3)) (hS : S pl = some (.inr (4, fs))) (hl : 2 < fs.length) (K : GG M x Z (pc + 3) ls st (gl_pu S pl (.inr (4, fs.set 2 (.int a)))) k) : GG M x Z pc ls (.int a :: .ref pl :: st) S k := gg_putFi (ty0 := tyX4) 2 hd igX4 tyX4_ok nmX4 rfl (by decide) (by rw [hM]; exact lk_X4_22) rfl rfl hi (by rw [hM]; rfl) (by decide +kernel) hS hl K
set_option maxRecDepth 20000 in
theorem lk_X4_34 : Cond.fieldLink RX4 34 (TX4 6).1 (TX4 6).2.1 (TX4 6).2.2.1 ∈ gl_T := (gl_T_in (by decide +kernel) (by decide +kernel))
theorem pf_X4_34 {M : gl_M} {x : gl_X} {Z : State → Prop} {pc : Nat} {ls : List (Option Value)} {st : List Value} {S : gl_H} {k : Nat × Nat} {pl : Nat} {fs : List Value} {a : Int32} (hM : M.2.1 = RX4) (hd : decode M.1 pc = .ok (.putfield 34, 3)) (hS : S pl = some (.inr (4, fs))) (hl : 6 < fs.length) (K : GG M x Z (pc + 3) ls st (gl_pu S pl (.inr (4, fs.set 6 (.int a)))) k) : GG M x Z pc ls (.int a :: .ref pl :: st) S k := gg_put (ty0 := tyX4) (ty := .int) 6 hd igX4 tyX4_ok nmX4 rfl (by decide) (by rw [hM]; exact lk_X4_34) rfl rfl (by decide +kernel) hS hl rfl rfl (fun r e => by cases e) K
set_option maxRecDepth 20000 in
theorem lk_X4_37 : Cond.fieldLink RX4 37 (TX4 7).1 (TX4 7).2.1 (TX4 7).2.2.1 ∈ gl_T := (gl_T_in (by decide +kernel) (by decide +kernel))
theorem pf_X4_37 {M : gl_M} {x : gl_X} {Z : State → Prop} {pc : Nat} {ls : List (Option Value)} {st : List Value} {S : gl_H} {k : Nat × Nat} {pl : Nat} {fs : List Value} {a : Int32} (hM : M.2.1 = RX4) (hd : decode M.1 pc = .ok (.putfield 37, 3)) (hS : S pl = some (.inr (4, fs))) (hl : 7 < fs.length) (K : GG M x Z (pc + 3) ls st (gl_pu S pl (.inr (4, fs.set 7 (.int a)))) k) : GG M x Z pc ls (.int a :: .ref pl :: st) S k := gg_put (ty0 := tyX4) (ty := .int) 7 hd igX4 tyX4_ok nmX4 rfl (by decide) (by rw [hM]; exact lk_X4_37) rfl rfl (by decide +kernel) hS hl rfl rfl (fun r e => by cases e) K
set_option maxRecDepth 20000 in
theorem lk_X4_40 : Cond.fieldLink RX4 40 (TX4 8).1 (TX4 8).2.1 (TX4 8).2.2.1 ∈ gl_T := (gl_T_in (by decide +kernel) (by decide +kernel))
theorem gf_X4_40 {M : gl_M} {x : gl_X} {Z : State → Prop} {pc : Nat} {ls : List (Option Value)} {st : List Value} {S : gl_H} {k : Nat × Nat} {pl : Nat} {fs : List Value} {v : Value} (hM : M.2.1 = RX4) (hd : decode M.1 pc = .ok (.getfield 40, 3)) (hS : S pl = some (.inr (4, fs))) (hv : fs[8]? = some v) (K : GG M x Z (pc + 3) ls (v :: st) S k) : GG M x Z pc ls (.ref pl :: st) S k := gg_get 8 hd igX4 rfl (by decide) (by rw [hM]; exact lk_X4_40) rfl hS hv K
theorem pf_X4_40 {M : gl_M} {x : gl_X} {Z : State → Prop} {pc : Nat} {ls : List (Option Value)} {st : List Value} {S : gl_H} {k : Nat × Nat} {pl : Nat} {fs : List Value} {a : Int32} (hM : M.2.1 = RX4) (hd : decode M.1 pc = .ok (.putfield 40, 3)) (hS : S pl = some (.inr (4, fs))) (hl : 8 < fs.length) (K : GG M x Z (pc + 3) ls st (gl_pu S pl (.inr (4, fs.set 8 (.int a)))) k) : GG M x Z pc ls (.int a :: .ref pl :: st) S k := gg_put (ty0 := tyX4) (ty := .int) 8 hd igX4 tyX4_ok nmX4 rfl (by decide) (by rw [hM]; exact lk_X4_40) rfl rfl (by decide +kernel) hS hl rfl rfl (fun r e => by cases e) K
set_option maxRecDepth 20000 in
theorem lk_X4_43 : Cond.fieldLink RX4 43 (TX0 3).1 (TX0 3).2.1 (TX0 3).2.2.1 ∈ gl_T := (gl_T_in (by decide +kernel) (by decide +kernel))
theorem gf_X4_43 {M : gl_M} {x : gl_X} {Z : State → Prop} {pc : Nat} {ls : List (Option Value)} {st : List Value} {S : gl_H} {k : Nat × Nat} {pl : Nat} {fs : List Value} {v : Value} (hM : M.2.1 = RX4) (hd : decode M.1 pc = .ok (.getfield 43, 3)) (hS : S pl = some (.inr (0, fs))) (hv : fs[3]? = some v) (K : GG M x Z (pc + 3) ls (v :: st) S k) : GG M x Z pc ls (.ref pl :: st) S k := gg_get 3 hd igX0 rfl (by decide) (by rw [hM]; exact lk_X4_43) rfl hS hv K
set_option maxRecDepth 20000 in
theorem lk_X4_52 : Cond.fieldLink RX4 52 (TX4 5).1 (TX4 5).2.1 (TX4 5).2.2.1 ∈ gl_T := (gl_T_in (by decide +kernel) (by decide +kernel))
theorem gf_X4_52 {M : gl_M} {x : gl_X} {Z : State → Prop} {pc : Nat} {ls : List (Option Value)} {st : List Value} {S : gl_H} {k : Nat × Nat} {pl : Nat} {fs : List Value} {v : Value} (hM : M.2.1 = RX4) (hd : decode M.1 pc = .ok (.getfield 52, 3)) (hS : S pl = some (.inr (4, fs))) (hv : fs[5]? = some v) (K : GG M x Z (pc + 3) ls (v :: st) S k) : GG M x Z pc ls (.ref pl :: st) S k := gg_get 5 hd igX4 rfl (by decide) (by rw [hM]; exact lk_X4_52) rfl hS hv K
set_option maxRecDepth 20000 in
theorem lk_X4_55 : Cond.fieldLink RX4 55 (TX0 0).1 (TX0 0).2.1 (TX0 0).2.2.1 ∈ gl_T := (gl_T_in (by decide +kernel) (by decide +kernel))
theorem gf_X4_55 {M : gl_M} {x : gl_X} {Z : State → Prop} {pc : Nat} {ls : List (Option Value)} {st : List Value} {S : gl_H} {k : Nat × Nat} {pl : Nat} {fs : List Value} {v : Value} (hM : M.2.1 = RX4) (hd : decode M.1 pc = .ok (.getfield 55, 3)) (hS : S pl = some (.inr (0, fs))) (hv : fs[0]? = some v) (K : GG M x Z (pc + 3) ls (v :: st) S k) : GG M x Z pc ls (.ref pl :: st) S k := gg_get 0 hd igX0 rfl (by decide) (by rw [hM]; exact lk_X4_55) rfl hS hv K
set_option maxRecDepth 20000 in
theorem lk_X4_67 : Cond.fieldLink RX4 67 (TX4 9).1 (TX4 9).2.1 (TX4 9).2.2.1 ∈ gl_T := (gl_T_in (by decide +kernel) (by decide +kernel))
theorem gf_X4_67 {M : gl_M} {x : gl_X} {Z : State → Prop} {pc : Nat} {ls : List (Option Value)} {st : List Value} {S : gl_H} {k : Nat × Nat} {pl : Nat} {fs : List Value} {v : Value} (hM : M.2.1 = RX4) (hd : decode M.1 pc = .ok (.getfield 67, 3)) (hS : S pl = some (.inr (4, fs))) (hv : fs[9]? = some v) (K : GG M x Z (pc + 3) ls (v :: st) S k) : GG M x Z pc ls (.ref pl :: st) S k := gg_get 9 hd igX4 rfl (by decide) (by rw [hM]; exact lk_X4_67) rfl hS hv K
theorem pf_X4_67 {M : gl_M} {x : gl_X} {Z : State → Prop} {pc : Nat} {ls : List (Option Value)} {st : List Value} {S : gl_H} {k : Nat × Nat} {pl : Nat} {fs : List Value} {a : Int32} (hM : M.2.1 = RX4) (hd : decode M.1 pc = .ok (.putfield 67, 3)) (hS : S pl = some (.inr (4, fs))) (hl : 9 < fs.length) (K : GG M x Z (pc + 3) ls st (gl_pu S pl (.inr (4, fs.set 9 (.int a)))) k) : GG M x Z pc ls (.int a :: .ref pl :: st) S k := gg_put (ty0 := tyX4) (ty := .int) 9 hd igX4 tyX4_ok nmX4 rfl (by decide) (by rw [hM]; exact lk_X4_67) rfl rfl (by decide +kernel) hS hl rfl rfl (fun r e => by cases e) K
set_option maxRecDepth 20000 in
theorem lk_X4_70 : Cond.fieldLink RX4 70 (TX0 2).1 (TX0 2).2.1 (TX0 2).2.2.1 ∈ gl_T := (gl_T_in (by decide +kernel) (by decide +kernel))
theorem gf_X4_70 {M : gl_M} {x : gl_X} {Z : State → Prop} {pc : Nat} {ls : List (Option Value)} {st : List Value} {S : gl_H} {k : Nat × Nat} {pl : Nat} {fs : List Value} {v : Value} (hM : M.2.1 = RX4) (hd : decode M.1 pc = .ok (.getfield 70, 3)) (hS : S pl = some (.inr (0, fs))) (hv : fs[2]? = some v) (K : GG M x Z (pc + 3) ls (v :: st) S k) : GG M x Z pc ls (.ref pl :: st) S k := gg_get 2 hd igX0 rfl (by decide) (by rw [hM]; exact lk_X4_70) rfl hS hv K
set_option maxRecDepth 20000 in
theorem lk_X4_73 : Cond.fieldLink RX4 73 (TX4 4).1 (TX4 4).2.1 (TX4 4).2.2.1 ∈ gl_T := (gl_T_in (by decide +kernel) (by decide +kernel))
theorem gf_X4_73 {M : gl_M} {x : gl_X} {Z : State → Prop} {pc : Nat} {ls : List (Option Value)} {st : List Value} {S : gl_H} {k : Nat × Nat} {pl : Nat} {fs : List Value} {v : Value} (hM : M.2.1 = RX4) (hd : decode M.1 pc = .ok (.getfield 73, 3)) (hS : S pl = some (.inr (4, fs))) (hv : fs[4]? = some v) (K : GG M x Z (pc + 3) ls (v :: st) S k) : GG M x Z pc ls (.ref pl :: st) S k := gg_get 4 hd igX4 rfl (by decide) (by rw [hM]; exact lk_X4_73) rfl hS hv K
set_option maxRecDepth 20000 in
theorem lk_X4_82 : Cond.fieldLink RX4 82 (TX4 10).1 (TX4 10).2.1 (TX4 10).2.2.1 ∈ gl_T := (gl_T_in (by decide +kernel) (by decide +kernel))
theorem gf_X4_82 {M : gl_M} {x : gl_X} {Z : State → Prop} {pc : Nat} {ls : List (Option Value)} {st : List Value} {S : gl_H} {k : Nat × Nat} {pl : Nat} {fs : List Value} {v : Value} (hM : M.2.1 = RX4) (hd : decode M.1 pc = .ok (.getfield 82, 3)) (hS : S pl = some (.inr (4, fs))) (hv : fs[10]? = some v) (K : GG M x Z (pc + 3) ls (v :: st) S k) : GG M x Z pc ls (.ref pl :: st) S k := gg_get 10 hd igX4 rfl (by decide) (by rw [hM]; exact lk_X4_82) rfl hS hv K
theorem pf_X4_82 {M : gl_M} {x : gl_X} {Z : State → Prop} {pc : Nat} {ls : List (Option Value)} {st : List Value} {S : gl_H} {k : Nat × Nat} {pl : Nat} {fs : List Value} {a : Int64} (hM : M.2.1 = RX4) (hd : decode M.1 pc = .ok (.putfield 82, 3)) (hS : S pl = some (.inr (4, fs))) (hl : 10 < fs.length) (K : GG M x Z (pc + 3) ls st (gl_pu S pl (.inr (4, fs.set 10 (.long a)))) k) : GG M x Z pc ls (.long a :: .ref pl :: st) S k := gg_put (ty0 := tyX4) (ty := .long) 10 hd igX4 tyX4_ok nmX4 rfl (by decide) (by rw [hM]; exact lk_X4_82) rfl rfl (by decide +kernel) hS hl rfl rfl (fun r e => by cases e) K
set_option maxRecDepth 20000 in
theorem lk_X4_86 : Cond.fieldLink RX4 86 (TX0 4).1 (TX0 4).2.1 (TX0 4).2.2.1 ∈ gl_T := (gl_T_in (by decide +kernel) (by decide +kernel))
theorem gf_X4_86 {M : gl_M} {x : gl_X} {Z : State → Prop} {pc : Nat} {ls : List (Option Value)} {st : List Value} {S : gl_H} {k : Nat × Nat} {pl : Nat} {fs : List Value} {v : Value} (hM : M.2.1 = RX4) (hd : decode M.1 pc = .ok (.getfield 86, 3)) (hS : S pl = some (.inr (0, fs))) (hv : fs[4]? = some v) (K : GG M x Z (pc + 3) ls (v :: st) S k) : GG M x Z pc ls (.ref pl :: st) S k := gg_get 4 hd igX0 rfl (by decide) (by rw [hM]; exact lk_X4_86) rfl hS hv K
set_option maxRecDepth 20000 in
theorem lk_X5_11 : Cond.fieldLink RX5 11 (TX5 0).1 (TX5 0).2.1 (TX5 0).2.2.1 ∈ gl_T := (gl_T_in (by decide +kernel) (by decide +kernel))
theorem gf_X5_11 {M : gl_M} {x : gl_X} {Z : State → Prop} {pc : Nat} {ls : List (Option Value)} {st : List Value} {S : gl_H} {k : Nat × Nat} {pl : Nat} {fs : List Value} {v : Value} (hM : M.2.1 = RX5) (hd : decode M.1 pc = .ok (.getfield 11, 3)) (hS : S pl = some (.inr (5, fs))) (hv : fs[0]? = some v) (K : GG M x Z (pc + 3) ls (v :: st) S k) : GG M x Z pc ls (.ref pl :: st) S k := gg_get 0 hd igX5 rfl (by decide) (by rw [hM]; exact lk_X5_11) rfl hS hv K
theorem pf_X5_11 {M : gl_M} {x : gl_X} {Z : State → Prop} {pc : Nat} {ls : List (Option Value)} {st : List Value} {S : gl_H} {k : Nat × Nat} {pl : Nat} {fs : List Value} {rv : Nat} (hM : M.2.1 = RX5) (hi : M.2.2.2.2.1 = true) (hd : decode M.1 pc = .ok (.putfield 11, 3)) (hS : S pl = some (.inr (5, fs))) (hl : 0 < fs.length) (hrv : S rv ≠ none) (K : GG M x Z (pc + 3) ls st (gl_pu S pl (.inr (5, fs.set 0 (.ref rv)))) k) : GG M x Z pc ls (.ref rv :: .ref pl :: st) S k := gg_putF (ty0 := tyX5) (ty := tyX5 0) 0 hd igX5 tyX5_ok nmX5 rfl (by decide) (by rw [hM]; exact lk_X5_11) rfl rfl hi (by rw [hM]; rfl) (by decide +kernel) hS hl (fun a => ⟨rfl, rfl⟩) hrv K
set_option maxRecDepth 20000 in
theorem lk_X5_15 : Cond.fieldLink RX5 15 (TX5 1).1 (TX5 1).2.1 (TX5 1).2.2.1 ∈ gl_T := (gl_T_in (by decide +kernel) (by decide +kernel))
theorem gf_X5_15 {M : gl_M} {x : gl_X} {Z : State → Prop} {pc : Nat} {ls : List (Option Value)} {st : List Value} {S : gl_H} {k : Nat × Nat} {pl : Nat} {fs : List Value} {v : Value} (hM : M.2.1 = RX5) (hd : decode M.1 pc = .ok (.getfield 15, 3)) (hS : S pl = some (.inr (5, fs))) (hv : fs[1]? = some v) (K : GG M x Z (pc + 3) ls (v :: st) S k) : GG M x Z pc ls (.ref pl :: st) S k := gg_get 1 hd igX5 rfl (by decide) (by rw [hM]; exact lk_X5_15) rfl hS hv K
theorem pf_X5_15 {M : gl_M} {x : gl_X} {Z : State → Prop} {pc : Nat} {ls : List (Option Value)} {st : List Value} {S : gl_H} {k : Nat × Nat} {pl : Nat} {fs : List Value} {rv : Nat} (hM : M.2.1 = RX5) (hi : M.2.2.2.2.1 = true) (hd : decode M.1 pc = .ok (.putfield 15, 3)) (hS : S pl = some (.inr (5, fs))) (hl : 1 < fs.length) (hrv : S rv ≠ none) (K : GG M x Z (pc + 3) ls st (gl_pu S pl (.inr (5, fs.set 1 (.ref rv)))) k) : GG M x Z pc ls (.ref rv :: .ref pl :: st) S k := gg_putF (ty0 := tyX5) (ty := tyX5 1) 1 hd igX5 tyX5_ok nmX5 rfl (by decide) (by rw [hM]; exact lk_X5_15) rfl rfl hi (by rw [hM]; rfl) (by decide +kernel) hS hl (fun a => ⟨rfl, rfl⟩) hrv K
set_option maxRecDepth 20000 in
theorem lk_X5_18 : Cond.fieldLink RX5 18 (TX5 2).1 (TX5 2).2.1 (TX5 2).2.2.1 ∈ gl_T := (gl_T_in (by decide +kernel) (by decide +kernel))
theorem gf_X5_18 {M : gl_M} {x : gl_X} {Z : State → Prop} {pc : Nat} {ls : List (Option Value)} {st : List Value} {S : gl_H} {k : Nat × Nat} {pl : Nat} {fs : List Value} {v : Value} (hM : M.2.1 = RX5) (hd : decode M.1 pc = .ok (.getfield 18, 3)) (hS : S pl = some (.inr (5, fs))) (hv : fs[2]? = some v) (K : GG M x Z (pc + 3) ls (v :: st) S k) : GG M x Z pc ls (.ref pl :: st) S k := gg_get 2 hd igX5 rfl (by decide) (by rw [hM]; exact lk_X5_18) rfl hS hv K
theorem pf_X5_18 {M : gl_M} {x : gl_X} {Z : State → Prop} {pc : Nat} {ls : List (Option Value)} {st : List Value} {S : gl_H} {k : Nat × Nat} {pl : Nat} {fs : List Value} {rv : Nat} (hM : M.2.1 = RX5) (hi : M.2.2.2.2.1 = true) (hd : decode M.1 pc = .ok (.putfield 18, 3)) (hS : S pl = some (.inr (5, fs))) (hl : 2 < fs.length) (hrv : S rv ≠ none) (K : GG M x Z (pc + 3) ls st (gl_pu S pl (.inr (5, fs.set 2 (.ref rv)))) k) : GG M x Z pc ls (.ref rv :: .ref pl :: st) S k := gg_putF (ty0 := tyX5) (ty := tyX5 2) 2 hd igX5 tyX5_ok nmX5 rfl (by decide) (by rw [hM]; exact lk_X5_18) rfl rfl hi (by rw [hM]; rfl) (by decide +kernel) hS hl (fun a => ⟨rfl, rfl⟩) hrv K
set_option maxRecDepth 20000 in
theorem lk_X5_22 : Cond.fieldLink RX5 22 (TX5 3).1 (TX5 3).2.1 (TX5 3).2.2.1 ∈ gl_T := (gl_T_in (by decide +kernel) (by decide +kernel))
theorem gf_X5_22 {M : gl_M} {x : gl_X} {Z : State → Prop} {pc : Nat} {ls : List (Option Value)} {st : List Value} {S : gl_H} {k : Nat × Nat} {pl : Nat} {fs : List Value} {v : Value} (hM : M.2.1 = RX5) (hd : decode M.1 pc = .ok (.getfield 22, 3)) (hS : S pl = some (.inr (5, fs))) (hv : fs[3]? = some v) (K : GG M x Z (pc + 3) ls (v :: st) S k) : GG M x Z pc ls (.ref pl :: st) S k := gg_get 3 hd igX5 rfl (by decide) (by rw [hM]; exact lk_X5_22) rfl hS hv K
theorem pf_X5_22 {M : gl_M} {x : gl_X} {Z : State → Prop} {pc : Nat} {ls : List (Option Value)} {st : List Value} {S : gl_H} {k : Nat × Nat} {pl : Nat} {fs : List Value} {a : Int32} (hM : M.2.1 = RX5) (hd : decode M.1 pc = .ok (.putfield 22, 3)) (hS : S pl = some (.inr (5, fs))) (hl : 3 < fs.length) (K : GG M x Z (pc + 3) ls st (gl_pu S pl (.inr (5, fs.set 3 (.int a)))) k) : GG M x Z pc ls (.int a :: .ref pl :: st) S k := gg_put (ty0 := tyX5) (ty := .int) 3 hd igX5 tyX5_ok nmX5 rfl (by decide) (by rw [hM]; exact lk_X5_22) rfl rfl (by decide +kernel) hS hl rfl rfl (fun r e => by cases e) K
set_option maxRecDepth 20000 in
theorem lk_X5_26 : Cond.fieldLink RX5 26 (TX0 0).1 (TX0 0).2.1 (TX0 0).2.2.1 ∈ gl_T := (gl_T_in (by decide +kernel) (by decide +kernel))
theorem gf_X5_26 {M : gl_M} {x : gl_X} {Z : State → Prop} {pc : Nat} {ls : List (Option Value)} {st : List Value} {S : gl_H} {k : Nat × Nat} {pl : Nat} {fs : List Value} {v : Value} (hM : M.2.1 = RX5) (hd : decode M.1 pc = .ok (.getfield 26, 3)) (hS : S pl = some (.inr (0, fs))) (hv : fs[0]? = some v) (K : GG M x Z (pc + 3) ls (v :: st) S k) : GG M x Z pc ls (.ref pl :: st) S k := gg_get 0 hd igX0 rfl (by decide) (by rw [hM]; exact lk_X5_26) rfl hS hv K
set_option maxRecDepth 20000 in
theorem lk_X5_31 : Cond.fieldLink RX5 31 (TX0 1).1 (TX0 1).2.1 (TX0 1).2.2.1 ∈ gl_T := (gl_T_in (by decide +kernel) (by decide +kernel))
theorem gf_X5_31 {M : gl_M} {x : gl_X} {Z : State → Prop} {pc : Nat} {ls : List (Option Value)} {st : List Value} {S : gl_H} {k : Nat × Nat} {pl : Nat} {fs : List Value} {v : Value} (hM : M.2.1 = RX5) (hd : decode M.1 pc = .ok (.getfield 31, 3)) (hS : S pl = some (.inr (0, fs))) (hv : fs[1]? = some v) (K : GG M x Z (pc + 3) ls (v :: st) S k) : GG M x Z pc ls (.ref pl :: st) S k := gg_get 1 hd igX0 rfl (by decide) (by rw [hM]; exact lk_X5_31) rfl hS hv K
set_option maxRecDepth 20000 in
theorem lk_X5_38 : Cond.fieldLink RX5 38 (TX5 4).1 (TX5 4).2.1 (TX5 4).2.2.1 ∈ gl_T := (gl_T_in (by decide +kernel) (by decide +kernel))
theorem gf_X5_38 {M : gl_M} {x : gl_X} {Z : State → Prop} {pc : Nat} {ls : List (Option Value)} {st : List Value} {S : gl_H} {k : Nat × Nat} {pl : Nat} {fs : List Value} {v : Value} (hM : M.2.1 = RX5) (hd : decode M.1 pc = .ok (.getfield 38, 3)) (hS : S pl = some (.inr (5, fs))) (hv : fs[4]? = some v) (K : GG M x Z (pc + 3) ls (v :: st) S k) : GG M x Z pc ls (.ref pl :: st) S k := gg_get 4 hd igX5 rfl (by decide) (by rw [hM]; exact lk_X5_38) rfl hS hv K
theorem pf_X5_38 {M : gl_M} {x : gl_X} {Z : State → Prop} {pc : Nat} {ls : List (Option Value)} {st : List Value} {S : gl_H} {k : Nat × Nat} {pl : Nat} {fs : List Value} {a : Int32} (hM : M.2.1 = RX5) (hd : decode M.1 pc = .ok (.putfield 38, 3)) (hS : S pl = some (.inr (5, fs))) (hl : 4 < fs.length) (K : GG M x Z (pc + 3) ls st (gl_pu S pl (.inr (5, fs.set 4 (.int a)))) k) : GG M x Z pc ls (.int a :: .ref pl :: st) S k := gg_put (ty0 := tyX5) (ty := .int) 4 hd igX5 tyX5_ok nmX5 rfl (by decide) (by rw [hM]; exact lk_X5_38) rfl rfl (by decide +kernel) hS hl rfl rfl (fun r e => by cases e) K
set_option maxRecDepth 20000 in
theorem lk_X6_10 : Cond.fieldLink RX6 10 (TX6 0).1 (TX6 0).2.1 (TX6 0).2.2.1 ∈ gl_T := (gl_T_in (by decide +kernel) (by decide +kernel))
theorem gf_X6_10 {M : gl_M} {x : gl_X} {Z : State → Prop} {pc : Nat} {ls : List (Option Value)} {st : List Value} {S : gl_H} {k : Nat × Nat} {pl : Nat} {fs : List Value} {v : Value} (hM : M.2.1 = RX6) (hd : decode M.1 pc = .ok (.getfield 10, 3)) (hS : S pl = some (.inr (6, fs))) (hv : fs[0]? = some v) (K : GG M x Z (pc + 3) ls (v :: st) S k) : GG M x Z pc ls (.ref pl :: st) S k := gg_get 0 hd igX6 rfl (by decide) (by rw [hM]; exact lk_X6_10) rfl hS hv K
theorem pf_X6_10 {M : gl_M} {x : gl_X} {Z : State → Prop} {pc : Nat} {ls : List (Option Value)} {st : List Value} {S : gl_H} {k : Nat × Nat} {pl : Nat} {fs : List Value} {rv : Nat} (hM : M.2.1 = RX6) (hi : M.2.2.2.2.1 = true) (hd : decode M.1 pc = .ok (.putfield 10, 3)) (hS : S pl = some (.inr (6, fs))) (hl : 0 < fs.length) (hrv : S rv ≠ none) (K : GG M x Z (pc + 3) ls st (gl_pu S pl (.inr (6, fs.set 0 (.ref rv)))) k) : GG M x Z pc ls (.ref rv :: .ref pl :: st) S k := gg_putF (ty0 := tyX6) (ty := tyX6 0) 0 hd igX6 tyX6_ok nmX6 rfl (by decide) (by rw [hM]; exact lk_X6_10) rfl rfl hi (by rw [hM]; rfl) (by decide +kernel) hS hl (fun a => ⟨rfl, rfl⟩) hrv K
set_option maxRecDepth 20000 in
theorem lk_X6_19 : Cond.fieldLink RX6 19 (TX6 1).1 (TX6 1).2.1 (TX6 1).2.2.1 ∈ gl_T := (gl_T_in (by decide +kernel) (by decide +kernel))
theorem gf_X6_19 {M : gl_M} {x : gl_X} {Z : State → Prop} {pc : Nat} {ls : List (Option Value)} {st : List Value} {S : gl_H} {k : Nat × Nat} {pl : Nat} {fs : List Value} {v : Value} (hM : M.2.1 = RX6) (hd : decode M.1 pc = .ok (.getfield 19, 3)) (hS : S pl = some (.inr (6, fs))) (hv : fs[1]? = some v) (K : GG M x Z (pc + 3) ls (v :: st) S k) : GG M x Z pc ls (.ref pl :: st) S k := gg_get 1 hd igX6 rfl (by decide) (by rw [hM]; exact lk_X6_19) rfl hS hv K
theorem pf_X6_19 {M : gl_M} {x : gl_X} {Z : State → Prop} {pc : Nat} {ls : List (Option Value)} {st : List Value} {S : gl_H} {k : Nat × Nat} {pl : Nat} {fs : List Value} {rv : Nat} (hM : M.2.1 = RX6) (hi : M.2.2.2.2.1 = true) (hd : decode M.1 pc = .ok (.putfield 19, 3)) (hS : S pl = some (.inr (6, fs))) (hl : 1 < fs.length) (hrv : S rv ≠ none) (K : GG M x Z (pc + 3) ls st (gl_pu S pl (.inr (6, fs.set 1 (.ref rv)))) k) : GG M x Z pc ls (.ref rv :: .ref pl :: st) S k := gg_putF (ty0 := tyX6) (ty := tyX6 1) 1 hd igX6 tyX6_ok nmX6 rfl (by decide) (by rw [hM]; exact lk_X6_19) rfl rfl hi (by rw [hM]; rfl) (by decide +kernel) hS hl (fun a => ⟨rfl, rfl⟩) hrv K
set_option maxRecDepth 20000 in
theorem lk_X6_25 : Cond.fieldLink RX6 25 (TX6 2).1 (TX6 2).2.1 (TX6 2).2.2.1 ∈ gl_T := (gl_T_in (by decide +kernel) (by decide +kernel))
theorem gf_X6_25 {M : gl_M} {x : gl_X} {Z : State → Prop} {pc : Nat} {ls : List (Option Value)} {st : List Value} {S : gl_H} {k : Nat × Nat} {pl : Nat} {fs : List Value} {v : Value} (hM : M.2.1 = RX6) (hd : decode M.1 pc = .ok (.getfield 25, 3)) (hS : S pl = some (.inr (6, fs))) (hv : fs[2]? = some v) (K : GG M x Z (pc + 3) ls (v :: st) S k) : GG M x Z pc ls (.ref pl :: st) S k := gg_get 2 hd igX6 rfl (by decide) (by rw [hM]; exact lk_X6_25) rfl hS hv K
theorem pf_X6_25 {M : gl_M} {x : gl_X} {Z : State → Prop} {pc : Nat} {ls : List (Option Value)} {st : List Value} {S : gl_H} {k : Nat × Nat} {pl : Nat} {fs : List Value} {rv : Nat} (hM : M.2.1 = RX6) (hi : M.2.2.2.2.1 = true) (hd : decode M.1 pc = .ok (.putfield 25, 3)) (hS : S pl = some (.inr (6, fs))) (hl : 2 < fs.length) (hrv : S rv ≠ none) (K : GG M x Z (pc + 3) ls st (gl_pu S pl (.inr (6, fs.set 2 (.ref rv)))) k) : GG M x Z pc ls (.ref rv :: .ref pl :: st) S k := gg_putF (ty0 := tyX6) (ty := tyX6 2) 2 hd igX6 tyX6_ok nmX6 rfl (by decide) (by rw [hM]; exact lk_X6_25) rfl rfl hi (by rw [hM]; rfl) (by decide +kernel) hS hl (fun a => ⟨rfl, rfl⟩) hrv K
set_option maxRecDepth 20000 in
theorem lk_X6_31 : Cond.fieldLink RX6 31 (TX6 3).1 (TX6 3).2.1 (TX6 3).2.2.1 ∈ gl_T := (gl_T_in (by decide +kernel) (by decide +kernel))
theorem gf_X6_31 {M : gl_M} {x : gl_X} {Z : State → Prop} {pc : Nat} {ls : List (Option Value)} {st : List Value} {S : gl_H} {k : Nat × Nat} {pl : Nat} {fs : List Value} {v : Value} (hM : M.2.1 = RX6) (hd : decode M.1 pc = .ok (.getfield 31, 3)) (hS : S pl = some (.inr (6, fs))) (hv : fs[3]? = some v) (K : GG M x Z (pc + 3) ls (v :: st) S k) : GG M x Z pc ls (.ref pl :: st) S k := gg_get 3 hd igX6 rfl (by decide) (by rw [hM]; exact lk_X6_31) rfl hS hv K
theorem pf_X6_31 {M : gl_M} {x : gl_X} {Z : State → Prop} {pc : Nat} {ls : List (Option Value)} {st : List Value} {S : gl_H} {k : Nat × Nat} {pl : Nat} {fs : List Value} {rv : Nat} (hM : M.2.1 = RX6) (hi : M.2.2.2.2.1 = true) (hd : decode M.1 pc = .ok (.putfield 31, 3)) (hS : S pl = some (.inr (6, fs))) (hl : 3 < fs.length) (hrv : S rv ≠ none) (K : GG M x Z (pc + 3) ls st (gl_pu S pl (.inr (6, fs.set 3 (.ref rv)))) k) : GG M x Z pc ls (.ref rv :: .ref pl :: st) S k := gg_putF (ty0 := tyX6) (ty := tyX6 3) 3 hd igX6 tyX6_ok nmX6 rfl (by decide) (by rw [hM]; exact lk_X6_31) rfl rfl hi (by rw [hM]; rfl) (by decide +kernel) hS hl (fun a => ⟨rfl, rfl⟩) hrv K
set_option maxRecDepth 20000 in
theorem lk_X6_38 : Cond.fieldLink RX6 38 (TX6 4).1 (TX6 4).2.1 (TX6 4).2.2.1 ∈ gl_T := (gl_T_in (by decide +kernel) (by decide +kernel))
theorem gf_X6_38 {M : gl_M} {x : gl_X} {Z : State → Prop} {pc : Nat} {ls : List (Option Value)} {st : List Value} {S : gl_H} {k : Nat × Nat} {pl : Nat} {fs : List Value} {v : Value} (hM : M.2.1 = RX6) (hd : decode M.1 pc = .ok (.getfield 38, 3)) (hS : S pl = some (.inr (6, fs))) (hv : fs[4]? = some v) (K : GG M x Z (pc + 3) ls (v :: st) S k) : GG M x Z pc ls (.ref pl :: st) S k := gg_get 4 hd igX6 rfl (by decide) (by rw [hM]; exact lk_X6_38) rfl hS hv K
theorem pf_X6_38 {M : gl_M} {x : gl_X} {Z : State → Prop} {pc : Nat} {ls : List (Option Value)} {st : List Value} {S : gl_H} {k : Nat × Nat} {pl : Nat} {fs : List Value} {rv : Nat} (hM : M.2.1 = RX6) (hi : M.2.2.2.2.1 = true) (hd : decode M.1 pc = .ok (.putfield 38, 3)) (hS : S pl = some (.inr (6, fs))) (hl : 4 < fs.length) (hrv : S rv ≠ none) (K : GG M x Z (pc + 3) ls st (gl_pu S pl (.inr (6, fs.set 4 (.ref rv)))) k) : GG M x Z pc ls (.ref rv :: .ref pl :: st) S k := gg_putF (ty0 := tyX6) (ty := tyX6 4) 4 hd igX6 tyX6_ok nmX6 rfl (by decide) (by rw [hM]; exact lk_X6_38) rfl rfl hi (by rw [hM]; rfl) (by decide +kernel) hS hl (fun a => ⟨rfl, rfl⟩) hrv K
set_option maxRecDepth 20000 in
theorem lk_X6_45 : Cond.fieldLink RX6 45 (TX6 5).1 (TX6 5).2.1 (TX6 5).2.2.1 ∈ gl_T := (gl_T_in (by decide +kernel) (by decide +kernel))
theorem gf_X6_45 {M : gl_M} {x : gl_X} {Z : State → Prop} {pc : Nat} {ls : List (Option Value)} {st : List Value} {S : gl_H} {k : Nat × Nat} {pl : Nat} {fs : List Value} {v : Value} (hM : M.2.1 = RX6) (hd : decode M.1 pc = .ok (.getfield 45, 3)) (hS : S pl = some (.inr (6, fs))) (hv : fs[5]? = some v) (K : GG M x Z (pc + 3) ls (v :: st) S k) : GG M x Z pc ls (.ref pl :: st) S k := gg_get 5 hd igX6 rfl (by decide) (by rw [hM]; exact lk_X6_45) rfl hS hv K
theorem pf_X6_45 {M : gl_M} {x : gl_X} {Z : State → Prop} {pc : Nat} {ls : List (Option Value)} {st : List Value} {S : gl_H} {k : Nat × Nat} {pl : Nat} {fs : List Value} {rv : Nat} (hM : M.2.1 = RX6) (hi : M.2.2.2.2.1 = true) (hd : decode M.1 pc = .ok (.putfield 45, 3)) (hS : S pl = some (.inr (6, fs))) (hl : 5 < fs.length) (hrv : S rv ≠ none) (K : GG M x Z (pc + 3) ls st (gl_pu S pl (.inr (6, fs.set 5 (.ref rv)))) k) : GG M x Z pc ls (.ref rv :: .ref pl :: st) S k := gg_putF (ty0 := tyX6) (ty := tyX6 5) 5 hd igX6 tyX6_ok nmX6 rfl (by decide) (by rw [hM]; exact lk_X6_45) rfl rfl hi (by rw [hM]; rfl) (by decide +kernel) hS hl (fun a => ⟨rfl, rfl⟩) hrv K
set_option maxRecDepth 20000 in
theorem lk_X6_57 : Cond.fieldLink RX6 57 (TX3 1).1 (TX3 1).2.1 (TX3 1).2.2.1 ∈ gl_T := (gl_T_in (by decide +kernel) (by decide +kernel))
theorem gf_X6_57 {M : gl_M} {x : gl_X} {Z : State → Prop} {pc : Nat} {ls : List (Option Value)} {st : List Value} {S : gl_H} {k : Nat × Nat} {pl : Nat} {fs : List Value} {v : Value} (hM : M.2.1 = RX6) (hd : decode M.1 pc = .ok (.getfield 57, 3)) (hS : S pl = some (.inr (3, fs))) (hv : fs[1]? = some v) (K : GG M x Z (pc + 3) ls (v :: st) S k) : GG M x Z pc ls (.ref pl :: st) S k := gg_get 1 hd igX3 rfl (by decide) (by rw [hM]; exact lk_X6_57) rfl hS hv K
theorem pf_X6_57 {M : gl_M} {x : gl_X} {Z : State → Prop} {pc : Nat} {ls : List (Option Value)} {st : List Value} {S : gl_H} {k : Nat × Nat} {pl : Nat} {fs : List Value} {a : Int32} (hM : M.2.1 = RX6) (hd : decode M.1 pc = .ok (.putfield 57, 3)) (hS : S pl = some (.inr (3, fs))) (hl : 1 < fs.length) (K : GG M x Z (pc + 3) ls st (gl_pu S pl (.inr (3, fs.set 1 (.int a)))) k) : GG M x Z pc ls (.int a :: .ref pl :: st) S k := gg_put (ty0 := tyX3) (ty := .int) 1 hd igX3 tyX3_ok nmX3 rfl (by decide) (by rw [hM]; exact lk_X6_57) rfl rfl (by decide +kernel) hS hl rfl rfl (fun r e => by cases e) K
set_option maxRecDepth 20000 in
theorem lk_X6_69 : Cond.fieldLink RX6 69 (TX6 6).1 (TX6 6).2.1 (TX6 6).2.2.1 ∈ gl_T := (gl_T_in (by decide +kernel) (by decide +kernel))
theorem gf_X6_69 {M : gl_M} {x : gl_X} {Z : State → Prop} {pc : Nat} {ls : List (Option Value)} {st : List Value} {S : gl_H} {k : Nat × Nat} {pl : Nat} {fs : List Value} {v : Value} (hM : M.2.1 = RX6) (hd : decode M.1 pc = .ok (.getfield 69, 3)) (hS : S pl = some (.inr (6, fs))) (hv : fs[6]? = some v) (K : GG M x Z (pc + 3) ls (v :: st) S k) : GG M x Z pc ls (.ref pl :: st) S k := gg_get 6 hd igX6 rfl (by decide) (by rw [hM]; exact lk_X6_69) rfl hS hv K
theorem pf_X6_69 {M : gl_M} {x : gl_X} {Z : State → Prop} {pc : Nat} {ls : List (Option Value)} {st : List Value} {S : gl_H} {k : Nat × Nat} {pl : Nat} {fs : List Value} {a : Int32} (hM : M.2.1 = RX6) (hd : decode M.1 pc = .ok (.putfield 69, 3)) (hS : S pl = some (.inr (6, fs))) (hl : 6 < fs.length) (K : GG M x Z (pc + 3) ls st (gl_pu S pl (.inr (6, fs.set 6 (.int a)))) k) : GG M x Z pc ls (.int a :: .ref pl :: st) S k := gg_put (ty0 := tyX6) (ty := .int) 6 hd igX6 tyX6_ok nmX6 rfl (by decide) (by rw [hM]; exact lk_X6_69) rfl rfl (by decide +kernel) hS hl rfl rfl (fun r e => by cases e) K
set_option maxRecDepth 20000 in
theorem lk_X6_83 : Cond.fieldLink RX6 83 (TX4 3).1 (TX4 3).2.1 (TX4 3).2.2.1 ∈ gl_T := (gl_T_in (by decide +kernel) (by decide +kernel))
theorem gf_X6_83 {M : gl_M} {x : gl_X} {Z : State → Prop} {pc : Nat} {ls : List (Option Value)} {st : List Value} {S : gl_H} {k : Nat × Nat} {pl : Nat} {fs : List Value} {v : Value} (hM : M.2.1 = RX6) (hd : decode M.1 pc = .ok (.getfield 83, 3)) (hS : S pl = some (.inr (4, fs))) (hv : fs[3]? = some v) (K : GG M x Z (pc + 3) ls (v :: st) S k) : GG M x Z pc ls (.ref pl :: st) S k := gg_get 3 hd igX4 rfl (by decide) (by rw [hM]; exact lk_X6_83) rfl hS hv K
set_option maxRecDepth 20000 in
theorem lk_X6_87 : Cond.fieldLink RX6 87 (TX4 4).1 (TX4 4).2.1 (TX4 4).2.2.1 ∈ gl_T := (gl_T_in (by decide +kernel) (by decide +kernel))
theorem gf_X6_87 {M : gl_M} {x : gl_X} {Z : State → Prop} {pc : Nat} {ls : List (Option Value)} {st : List Value} {S : gl_H} {k : Nat × Nat} {pl : Nat} {fs : List Value} {v : Value} (hM : M.2.1 = RX6) (hd : decode M.1 pc = .ok (.getfield 87, 3)) (hS : S pl = some (.inr (4, fs))) (hv : fs[4]? = some v) (K : GG M x Z (pc + 3) ls (v :: st) S k) : GG M x Z pc ls (.ref pl :: st) S k := gg_get 4 hd igX4 rfl (by decide) (by rw [hM]; exact lk_X6_87) rfl hS hv K
theorem pf_X6_87 {M : gl_M} {x : gl_X} {Z : State → Prop} {pc : Nat} {ls : List (Option Value)} {st : List Value} {S : gl_H} {k : Nat × Nat} {pl : Nat} {fs : List Value} {a : Int32} (hM : M.2.1 = RX6) (hd : decode M.1 pc = .ok (.putfield 87, 3)) (hS : S pl = some (.inr (4, fs))) (hl : 4 < fs.length) (K : GG M x Z (pc + 3) ls st (gl_pu S pl (.inr (4, fs.set 4 (.int a)))) k) : GG M x Z pc ls (.int a :: .ref pl :: st) S k := gg_put (ty0 := tyX4) (ty := .int) 4 hd igX4 tyX4_ok nmX4 rfl (by decide) (by rw [hM]; exact lk_X6_87) rfl rfl (by decide +kernel) hS hl rfl rfl (fun r e => by cases e) K
set_option maxRecDepth 20000 in
theorem lk_X6_90 : Cond.fieldLink RX6 90 (TX4 5).1 (TX4 5).2.1 (TX4 5).2.2.1 ∈ gl_T := (gl_T_in (by decide +kernel) (by decide +kernel))
theorem gf_X6_90 {M : gl_M} {x : gl_X} {Z : State → Prop} {pc : Nat} {ls : List (Option Value)} {st : List Value} {S : gl_H} {k : Nat × Nat} {pl : Nat} {fs : List Value} {v : Value} (hM : M.2.1 = RX6) (hd : decode M.1 pc = .ok (.getfield 90, 3)) (hS : S pl = some (.inr (4, fs))) (hv : fs[5]? = some v) (K : GG M x Z (pc + 3) ls (v :: st) S k) : GG M x Z pc ls (.ref pl :: st) S k := gg_get 5 hd igX4 rfl (by decide) (by rw [hM]; exact lk_X6_90) rfl hS hv K
theorem pf_X6_90 {M : gl_M} {x : gl_X} {Z : State → Prop} {pc : Nat} {ls : List (Option Value)} {st : List Value} {S : gl_H} {k : Nat × Nat} {pl : Nat} {fs : List Value} {a : Int32} (hM : M.2.1 = RX6) (hd : decode M.1 pc = .ok (.putfield 90, 3)) (hS : S pl = some (.inr (4, fs))) (hl : 5 < fs.length) (K : GG M x Z (pc + 3) ls st (gl_pu S pl (.inr (4, fs.set 5 (.int a)))) k) : GG M x Z pc ls (.int a :: .ref pl :: st) S k := gg_put (ty0 := tyX4) (ty := .int) 5 hd igX4 tyX4_ok nmX4 rfl (by decide) (by rw [hM]; exact lk_X6_90) rfl rfl (by decide +kernel) hS hl rfl rfl (fun r e => by cases e) K
set_option maxRecDepth 20000 in
theorem lk_X6_93 : Cond.fieldLink RX6 93 (TX6 7).1 (TX6 7).2.1 (TX6 7).2.2.1 ∈ gl_T := (gl_T_in (by decide +kernel) (by decide +kernel))
theorem gf_X6_93 {M : gl_M} {x : gl_X} {Z : State → Prop} {pc : Nat} {ls : List (Option Value)} {st : List Value} {S : gl_H} {k : Nat × Nat} {pl : Nat} {fs : List Value} {v : Value} (hM : M.2.1 = RX6) (hd : decode M.1 pc = .ok (.getfield 93, 3)) (hS : S pl = some (.inr (6, fs))) (hv : fs[7]? = some v) (K : GG M x Z (pc + 3) ls (v :: st) S k) : GG M x Z pc ls (.ref pl :: st) S k := gg_get 7 hd igX6 rfl (by decide) (by rw [hM]; exact lk_X6_93) rfl hS hv K
theorem pf_X6_93 {M : gl_M} {x : gl_X} {Z : State → Prop} {pc : Nat} {ls : List (Option Value)} {st : List Value} {S : gl_H} {k : Nat × Nat} {pl : Nat} {fs : List Value} {a : Int32} (hM : M.2.1 = RX6) (hd : decode M.1 pc = .ok (.putfield 93, 3)) (hS : S pl = some (.inr (6, fs))) (hl : 7 < fs.length) (K : GG M x Z (pc + 3) ls st (gl_pu S pl (.inr (6, fs.set 7 (.int a)))) k) : GG M x Z pc ls (.int a :: .ref pl :: st) S k := gg_put (ty0 := tyX6) (ty := .int) 7 hd igX6 tyX6_ok nmX6 rfl (by decide) (by rw [hM]; exact lk_X6_93) rfl rfl (by decide +kernel) hS hl rfl rfl (fun r e => by cases e) K
set_option maxRecDepth 20000 in
theorem lk_X6_106 : Cond.fieldLink RX6 106 (TX6 8).1 (TX6 8).2.1 (TX6 8).2.2.1 ∈ gl_T := (gl_T_in (by decide +kernel) (by decide +kernel))
theorem gf_X6_106 {M : gl_M} {x : gl_X} {Z : State → Prop} {pc : Nat} {ls : List (Option Value)} {st : List Value} {S : gl_H} {k : Nat × Nat} {pl : Nat} {fs : List Value} {v : Value} (hM : M.2.1 = RX6) (hd : decode M.1 pc = .ok (.getfield 106, 3)) (hS : S pl = some (.inr (6, fs))) (hv : fs[8]? = some v) (K : GG M x Z (pc + 3) ls (v :: st) S k) : GG M x Z pc ls (.ref pl :: st) S k := gg_get 8 hd igX6 rfl (by decide) (by rw [hM]; exact lk_X6_106) rfl hS hv K
theorem pf_X6_106 {M : gl_M} {x : gl_X} {Z : State → Prop} {pc : Nat} {ls : List (Option Value)} {st : List Value} {S : gl_H} {k : Nat × Nat} {pl : Nat} {fs : List Value} {a : Int32} (hM : M.2.1 = RX6) (hd : decode M.1 pc = .ok (.putfield 106, 3)) (hS : S pl = some (.inr (6, fs))) (hl : 8 < fs.length) (K : GG M x Z (pc + 3) ls st (gl_pu S pl (.inr (6, fs.set 8 (.int a)))) k) : GG M x Z pc ls (.int a :: .ref pl :: st) S k := gg_put (ty0 := tyX6) (ty := .int) 8 hd igX6 tyX6_ok nmX6 rfl (by decide) (by rw [hM]; exact lk_X6_106) rfl rfl (by decide +kernel) hS hl rfl rfl (fun r e => by cases e) K
set_option maxRecDepth 20000 in
theorem lk_X6_156 : Cond.fieldLink RX6 156 (TX4 10).1 (TX4 10).2.1 (TX4 10).2.2.1 ∈ gl_T := (gl_T_in (by decide +kernel) (by decide +kernel))
theorem gf_X6_156 {M : gl_M} {x : gl_X} {Z : State → Prop} {pc : Nat} {ls : List (Option Value)} {st : List Value} {S : gl_H} {k : Nat × Nat} {pl : Nat} {fs : List Value} {v : Value} (hM : M.2.1 = RX6) (hd : decode M.1 pc = .ok (.getfield 156, 3)) (hS : S pl = some (.inr (4, fs))) (hv : fs[10]? = some v) (K : GG M x Z (pc + 3) ls (v :: st) S k) : GG M x Z pc ls (.ref pl :: st) S k := gg_get 10 hd igX4 rfl (by decide) (by rw [hM]; exact lk_X6_156) rfl hS hv K
set_option maxRecDepth 20000 in
theorem lk_X6_164 : Cond.fieldLink RX6 164 (TX4 0).1 (TX4 0).2.1 (TX4 0).2.2.1 ∈ gl_T := (gl_T_in (by decide +kernel) (by decide +kernel))
theorem gf_X6_164 {M : gl_M} {x : gl_X} {Z : State → Prop} {pc : Nat} {ls : List (Option Value)} {st : List Value} {S : gl_H} {k : Nat × Nat} {pl : Nat} {fs : List Value} {v : Value} (hM : M.2.1 = RX6) (hd : decode M.1 pc = .ok (.getfield 164, 3)) (hS : S pl = some (.inr (4, fs))) (hv : fs[0]? = some v) (K : GG M x Z (pc + 3) ls (v :: st) S k) : GG M x Z pc ls (.ref pl :: st) S k := gg_get 0 hd igX4 rfl (by decide) (by rw [hM]; exact lk_X6_164) rfl hS hv K
set_option maxRecDepth 20000 in
theorem lk_X6_167 : Cond.fieldLink RX6 167 (TX4 1).1 (TX4 1).2.1 (TX4 1).2.2.1 ∈ gl_T := (gl_T_in (by decide +kernel) (by decide +kernel))
theorem gf_X6_167 {M : gl_M} {x : gl_X} {Z : State → Prop} {pc : Nat} {ls : List (Option Value)} {st : List Value} {S : gl_H} {k : Nat × Nat} {pl : Nat} {fs : List Value} {v : Value} (hM : M.2.1 = RX6) (hd : decode M.1 pc = .ok (.getfield 167, 3)) (hS : S pl = some (.inr (4, fs))) (hv : fs[1]? = some v) (K : GG M x Z (pc + 3) ls (v :: st) S k) : GG M x Z pc ls (.ref pl :: st) S k := gg_get 1 hd igX4 rfl (by decide) (by rw [hM]; exact lk_X6_167) rfl hS hv K
set_option maxRecDepth 20000 in
theorem lk_X6_170 : Cond.fieldLink RX6 170 (TX4 2).1 (TX4 2).2.1 (TX4 2).2.2.1 ∈ gl_T := (gl_T_in (by decide +kernel) (by decide +kernel))
theorem gf_X6_170 {M : gl_M} {x : gl_X} {Z : State → Prop} {pc : Nat} {ls : List (Option Value)} {st : List Value} {S : gl_H} {k : Nat × Nat} {pl : Nat} {fs : List Value} {v : Value} (hM : M.2.1 = RX6) (hd : decode M.1 pc = .ok (.getfield 170, 3)) (hS : S pl = some (.inr (4, fs))) (hv : fs[2]? = some v) (K : GG M x Z (pc + 3) ls (v :: st) S k) : GG M x Z pc ls (.ref pl :: st) S k := gg_get 2 hd igX4 rfl (by decide) (by rw [hM]; exact lk_X6_170) rfl hS hv K
set_option maxRecDepth 20000 in
theorem lk_X6_173 : Cond.fieldLink RX6 173 (TX4 6).1 (TX4 6).2.1 (TX4 6).2.2.1 ∈ gl_T := (gl_T_in (by decide +kernel) (by decide +kernel))
theorem gf_X6_173 {M : gl_M} {x : gl_X} {Z : State → Prop} {pc : Nat} {ls : List (Option Value)} {st : List Value} {S : gl_H} {k : Nat × Nat} {pl : Nat} {fs : List Value} {v : Value} (hM : M.2.1 = RX6) (hd : decode M.1 pc = .ok (.getfield 173, 3)) (hS : S pl = some (.inr (4, fs))) (hv : fs[6]? = some v) (K : GG M x Z (pc + 3) ls (v :: st) S k) : GG M x Z pc ls (.ref pl :: st) S k := gg_get 6 hd igX4 rfl (by decide) (by rw [hM]; exact lk_X6_173) rfl hS hv K
set_option maxRecDepth 20000 in
theorem lk_X6_176 : Cond.fieldLink RX6 176 (TX4 7).1 (TX4 7).2.1 (TX4 7).2.2.1 ∈ gl_T := (gl_T_in (by decide +kernel) (by decide +kernel))
theorem gf_X6_176 {M : gl_M} {x : gl_X} {Z : State → Prop} {pc : Nat} {ls : List (Option Value)} {st : List Value} {S : gl_H} {k : Nat × Nat} {pl : Nat} {fs : List Value} {v : Value} (hM : M.2.1 = RX6) (hd : decode M.1 pc = .ok (.getfield 176, 3)) (hS : S pl = some (.inr (4, fs))) (hv : fs[7]? = some v) (K : GG M x Z (pc + 3) ls (v :: st) S k) : GG M x Z pc ls (.ref pl :: st) S k := gg_get 7 hd igX4 rfl (by decide) (by rw [hM]; exact lk_X6_176) rfl hS hv K
set_option maxRecDepth 20000 in
theorem lk_X6_179 : Cond.fieldLink RX6 179 (TX4 8).1 (TX4 8).2.1 (TX4 8).2.2.1 ∈ gl_T := (gl_T_in (by decide +kernel) (by decide +kernel))
theorem gf_X6_179 {M : gl_M} {x : gl_X} {Z : State → Prop} {pc : Nat} {ls : List (Option Value)} {st : List Value} {S : gl_H} {k : Nat × Nat} {pl : Nat} {fs : List Value} {v : Value} (hM : M.2.1 = RX6) (hd : decode M.1 pc = .ok (.getfield 179, 3)) (hS : S pl = some (.inr (4, fs))) (hv : fs[8]? = some v) (K : GG M x Z (pc + 3) ls (v :: st) S k) : GG M x Z pc ls (.ref pl :: st) S k := gg_get 8 hd igX4 rfl (by decide) (by rw [hM]; exact lk_X6_179) rfl hS hv K
set_option maxRecDepth 20000 in
theorem lk_X6_182 : Cond.fieldLink RX6 182 (TX4 9).1 (TX4 9).2.1 (TX4 9).2.2.1 ∈ gl_T := (gl_T_in (by decide +kernel) (by decide +kernel))
theorem gf_X6_182 {M : gl_M} {x : gl_X} {Z : State → Prop} {pc : Nat} {ls : List (Option Value)} {st : List Value} {S : gl_H} {k : Nat × Nat} {pl : Nat} {fs : List Value} {v : Value} (hM : M.2.1 = RX6) (hd : decode M.1 pc = .ok (.getfield 182, 3)) (hS : S pl = some (.inr (4, fs))) (hv : fs[9]? = some v) (K : GG M x Z (pc + 3) ls (v :: st) S k) : GG M x Z pc ls (.ref pl :: st) S k := gg_get 9 hd igX4 rfl (by decide) (by rw [hM]; exact lk_X6_182) rfl hS hv K
set_option maxRecDepth 20000 in
theorem lk_X6_188 : Cond.fieldLink RX6 188 (TX0 0).1 (TX0 0).2.1 (TX0 0).2.2.1 ∈ gl_T := (gl_T_in (by decide +kernel) (by decide +kernel))
theorem gf_X6_188 {M : gl_M} {x : gl_X} {Z : State → Prop} {pc : Nat} {ls : List (Option Value)} {st : List Value} {S : gl_H} {k : Nat × Nat} {pl : Nat} {fs : List Value} {v : Value} (hM : M.2.1 = RX6) (hd : decode M.1 pc = .ok (.getfield 188, 3)) (hS : S pl = some (.inr (0, fs))) (hv : fs[0]? = some v) (K : GG M x Z (pc + 3) ls (v :: st) S k) : GG M x Z pc ls (.ref pl :: st) S k := gg_get 0 hd igX0 rfl (by decide) (by rw [hM]; exact lk_X6_188) rfl hS hv K
set_option maxRecDepth 20000 in
theorem lk_X6_191 : Cond.fieldLink RX6 191 (TX0 1).1 (TX0 1).2.1 (TX0 1).2.2.1 ∈ gl_T := (gl_T_in (by decide +kernel) (by decide +kernel))
theorem gf_X6_191 {M : gl_M} {x : gl_X} {Z : State → Prop} {pc : Nat} {ls : List (Option Value)} {st : List Value} {S : gl_H} {k : Nat × Nat} {pl : Nat} {fs : List Value} {v : Value} (hM : M.2.1 = RX6) (hd : decode M.1 pc = .ok (.getfield 191, 3)) (hS : S pl = some (.inr (0, fs))) (hv : fs[1]? = some v) (K : GG M x Z (pc + 3) ls (v :: st) S k) : GG M x Z pc ls (.ref pl :: st) S k := gg_get 1 hd igX0 rfl (by decide) (by rw [hM]; exact lk_X6_191) rfl hS hv K
set_option maxRecDepth 20000 in
theorem lk_X6_194 : Cond.fieldLink RX6 194 (TX0 2).1 (TX0 2).2.1 (TX0 2).2.2.1 ∈ gl_T := (gl_T_in (by decide +kernel) (by decide +kernel))
theorem gf_X6_194 {M : gl_M} {x : gl_X} {Z : State → Prop} {pc : Nat} {ls : List (Option Value)} {st : List Value} {S : gl_H} {k : Nat × Nat} {pl : Nat} {fs : List Value} {v : Value} (hM : M.2.1 = RX6) (hd : decode M.1 pc = .ok (.getfield 194, 3)) (hS : S pl = some (.inr (0, fs))) (hv : fs[2]? = some v) (K : GG M x Z (pc + 3) ls (v :: st) S k) : GG M x Z pc ls (.ref pl :: st) S k := gg_get 2 hd igX0 rfl (by decide) (by rw [hM]; exact lk_X6_194) rfl hS hv K
set_option maxRecDepth 20000 in
theorem lk_X6_197 : Cond.fieldLink RX6 197 (TX0 3).1 (TX0 3).2.1 (TX0 3).2.2.1 ∈ gl_T := (gl_T_in (by decide +kernel) (by decide +kernel))
theorem gf_X6_197 {M : gl_M} {x : gl_X} {Z : State → Prop} {pc : Nat} {ls : List (Option Value)} {st : List Value} {S : gl_H} {k : Nat × Nat} {pl : Nat} {fs : List Value} {v : Value} (hM : M.2.1 = RX6) (hd : decode M.1 pc = .ok (.getfield 197, 3)) (hS : S pl = some (.inr (0, fs))) (hv : fs[3]? = some v) (K : GG M x Z (pc + 3) ls (v :: st) S k) : GG M x Z pc ls (.ref pl :: st) S k := gg_get 3 hd igX0 rfl (by decide) (by rw [hM]; exact lk_X6_197) rfl hS hv K
set_option maxRecDepth 20000 in
theorem lk_X6_200 : Cond.fieldLink RX6 200 (TX0 4).1 (TX0 4).2.1 (TX0 4).2.2.1 ∈ gl_T := (gl_T_in (by decide +kernel) (by decide +kernel))
theorem gf_X6_200 {M : gl_M} {x : gl_X} {Z : State → Prop} {pc : Nat} {ls : List (Option Value)} {st : List Value} {S : gl_H} {k : Nat × Nat} {pl : Nat} {fs : List Value} {v : Value} (hM : M.2.1 = RX6) (hd : decode M.1 pc = .ok (.getfield 200, 3)) (hS : S pl = some (.inr (0, fs))) (hv : fs[4]? = some v) (K : GG M x Z (pc + 3) ls (v :: st) S k) : GG M x Z pc ls (.ref pl :: st) S k := gg_get 4 hd igX0 rfl (by decide) (by rw [hM]; exact lk_X6_200) rfl hS hv K
set_option maxRecDepth 20000 in
theorem lk_X6_206 : Cond.fieldLink RX6 206 (TX5 4).1 (TX5 4).2.1 (TX5 4).2.2.1 ∈ gl_T := (gl_T_in (by decide +kernel) (by decide +kernel))
theorem gf_X6_206 {M : gl_M} {x : gl_X} {Z : State → Prop} {pc : Nat} {ls : List (Option Value)} {st : List Value} {S : gl_H} {k : Nat × Nat} {pl : Nat} {fs : List Value} {v : Value} (hM : M.2.1 = RX6) (hd : decode M.1 pc = .ok (.getfield 206, 3)) (hS : S pl = some (.inr (5, fs))) (hv : fs[4]? = some v) (K : GG M x Z (pc + 3) ls (v :: st) S k) : GG M x Z pc ls (.ref pl :: st) S k := gg_get 4 hd igX5 rfl (by decide) (by rw [hM]; exact lk_X6_206) rfl hS hv K
set_option maxRecDepth 20000 in
theorem lk_X7_7 : Cond.fieldLink RX7 7 (TX7 0).1 (TX7 0).2.1 (TX7 0).2.2.1 ∈ gl_T := (gl_T_in (by decide +kernel) (by decide +kernel))
theorem gf_X7_7 {M : gl_M} {x : gl_X} {Z : State → Prop} {pc : Nat} {ls : List (Option Value)} {st : List Value} {S : gl_H} {k : Nat × Nat} {pl : Nat} {fs : List Value} {v : Value} (hM : M.2.1 = RX7) (hd : decode M.1 pc = .ok (.getfield 7, 3)) (hS : S pl = some (.inr (7, fs))) (hv : fs[0]? = some v) (K : GG M x Z (pc + 3) ls (v :: st) S k) : GG M x Z pc ls (.ref pl :: st) S k := gg_get 0 hd igX7 rfl (by decide) (by rw [hM]; exact lk_X7_7) rfl hS hv K
theorem pf_X7_7 {M : gl_M} {x : gl_X} {Z : State → Prop} {pc : Nat} {ls : List (Option Value)} {st : List Value} {S : gl_H} {k : Nat × Nat} {pl : Nat} {fs : List Value} {rv : Nat} (hM : M.2.1 = RX7) (hi : M.2.2.2.2.1 = true) (hd : decode M.1 pc = .ok (.putfield 7, 3)) (hS : S pl = some (.inr (7, fs))) (hl : 0 < fs.length) (hrv : S rv ≠ none) (K : GG M x Z (pc + 3) ls st (gl_pu S pl (.inr (7, fs.set 0 (.ref rv)))) k) : GG M x Z pc ls (.ref rv :: .ref pl :: st) S k := gg_putF (ty0 := tyX7) (ty := tyX7 0) 0 hd igX7 tyX7_ok nmX7 rfl (by decide) (by rw [hM]; exact lk_X7_7) rfl rfl hi (by rw [hM]; rfl) (by decide +kernel) hS hl (fun a => ⟨rfl, rfl⟩) hrv K
set_option maxRecDepth 20000 in
theorem lk_X7_13 : Cond.fieldLink RX7 13 (TX7 6).1 (TX7 6).2.1 (TX7 6).2.2.1 ∈ gl_T := (gl_T_in (by decide +kernel) (by decide +kernel))
theorem gf_X7_13 {M : gl_M} {x : gl_X} {Z : State → Prop} {pc : Nat} {ls : List (Option Value)} {st : List Value} {S : gl_H} {k : Nat × Nat} {pl : Nat} {fs : List Value} {v : Value} (hM : M.2.1 = RX7) (hd : decode M.1 pc = .ok (.getfield 13, 3)) (hS : S pl = some (.inr (7, fs))) (hv : fs[6]? = some v) (K : GG M x Z (pc + 3) ls (v :: st) S k) : GG M x Z pc ls (.ref pl :: st) S k := gg_get 6 hd igX7 rfl (by decide) (by rw [hM]; exact lk_X7_13) rfl hS hv K
theorem pf_X7_13 {M : gl_M} {x : gl_X} {Z : State → Prop} {pc : Nat} {ls : List (Option Value)} {st : List Value} {S : gl_H} {k : Nat × Nat} {pl : Nat} {fs : List Value} {rv : Nat} (hM : M.2.1 = RX7) (hi : M.2.2.2.2.1 = true) (hd : decode M.1 pc = .ok (.putfield 13, 3)) (hS : S pl = some (.inr (7, fs))) (hl : 6 < fs.length) (hrv : S rv ≠ none) (K : GG M x Z (pc + 3) ls st (gl_pu S pl (.inr (7, fs.set 6 (.ref rv)))) k) : GG M x Z pc ls (.ref rv :: .ref pl :: st) S k := gg_putF (ty0 := tyX7) (ty := tyX7 6) 6 hd igX7 tyX7_ok nmX7 rfl (by decide) (by rw [hM]; exact lk_X7_13) rfl rfl hi (by rw [hM]; rfl) (by decide +kernel) hS hl (fun a => ⟨rfl, rfl⟩) hrv K
set_option maxRecDepth 20000 in
theorem lk_X7_17 : Cond.fieldLink RX7 17 (TX7 7).1 (TX7 7).2.1 (TX7 7).2.2.1 ∈ gl_T := (gl_T_in (by decide +kernel) (by decide +kernel))
theorem gf_X7_17 {M : gl_M} {x : gl_X} {Z : State → Prop} {pc : Nat} {ls : List (Option Value)} {st : List Value} {S : gl_H} {k : Nat × Nat} {pl : Nat} {fs : List Value} {v : Value} (hM : M.2.1 = RX7) (hd : decode M.1 pc = .ok (.getfield 17, 3)) (hS : S pl = some (.inr (7, fs))) (hv : fs[7]? = some v) (K : GG M x Z (pc + 3) ls (v :: st) S k) : GG M x Z pc ls (.ref pl :: st) S k := gg_get 7 hd igX7 rfl (by decide) (by rw [hM]; exact lk_X7_17) rfl hS hv K
theorem pf_X7_17 {M : gl_M} {x : gl_X} {Z : State → Prop} {pc : Nat} {ls : List (Option Value)} {st : List Value} {S : gl_H} {k : Nat × Nat} {pl : Nat} {fs : List Value} {rv : Nat} (hM : M.2.1 = RX7) (hi : M.2.2.2.2.1 = true) (hd : decode M.1 pc = .ok (.putfield 17, 3)) (hS : S pl = some (.inr (7, fs))) (hl : 7 < fs.length) (hrv : S rv ≠ none) (K : GG M x Z (pc + 3) ls st (gl_pu S pl (.inr (7, fs.set 7 (.ref rv)))) k) : GG M x Z pc ls (.ref rv :: .ref pl :: st) S k := gg_putF (ty0 := tyX7) (ty := tyX7 7) 7 hd igX7 tyX7_ok nmX7 rfl (by decide) (by rw [hM]; exact lk_X7_17) rfl rfl hi (by rw [hM]; rfl) (by decide +kernel) hS hl (fun a => ⟨rfl, rfl⟩) hrv K
set_option maxRecDepth 20000 in
theorem lk_X7_20 : Cond.fieldLink RX7 20 (TX7 8).1 (TX7 8).2.1 (TX7 8).2.2.1 ∈ gl_T := (gl_T_in (by decide +kernel) (by decide +kernel))
theorem gf_X7_20 {M : gl_M} {x : gl_X} {Z : State → Prop} {pc : Nat} {ls : List (Option Value)} {st : List Value} {S : gl_H} {k : Nat × Nat} {pl : Nat} {fs : List Value} {v : Value} (hM : M.2.1 = RX7) (hd : decode M.1 pc = .ok (.getfield 20, 3)) (hS : S pl = some (.inr (7, fs))) (hv : fs[8]? = some v) (K : GG M x Z (pc + 3) ls (v :: st) S k) : GG M x Z pc ls (.ref pl :: st) S k := gg_get 8 hd igX7 rfl (by decide) (by rw [hM]; exact lk_X7_20) rfl hS hv K
theorem pf_X7_20 {M : gl_M} {x : gl_X} {Z : State → Prop} {pc : Nat} {ls : List (Option Value)} {st : List Value} {S : gl_H} {k : Nat × Nat} {pl : Nat} {fs : List Value} {rv : Nat} (hM : M.2.1 = RX7) (hi : M.2.2.2.2.1 = true) (hd : decode M.1 pc = .ok (.putfield 20, 3)) (hS : S pl = some (.inr (7, fs))) (hl : 8 < fs.length) (hrv : S rv ≠ none) (K : GG M x Z (pc + 3) ls st (gl_pu S pl (.inr (7, fs.set 8 (.ref rv)))) k) : GG M x Z pc ls (.ref rv :: .ref pl :: st) S k := gg_putF (ty0 := tyX7) (ty := tyX7 8) 8 hd igX7 tyX7_ok nmX7 rfl (by decide) (by rw [hM]; exact lk_X7_20) rfl rfl hi (by rw [hM]; rfl) (by decide +kernel) hS hl (fun a => ⟨rfl, rfl⟩) hrv K
set_option maxRecDepth 20000 in
theorem lk_X7_23 : Cond.fieldLink RX7 23 (TX7 9).1 (TX7 9).2.1 (TX7 9).2.2.1 ∈ gl_T := (gl_T_in (by decide +kernel) (by decide +kernel))
theorem gf_X7_23 {M : gl_M} {x : gl_X} {Z : State → Prop} {pc : Nat} {ls : List (Option Value)} {st : List Value} {S : gl_H} {k : Nat × Nat} {pl : Nat} {fs : List Value} {v : Value} (hM : M.2.1 = RX7) (hd : decode M.1 pc = .ok (.getfield 23, 3)) (hS : S pl = some (.inr (7, fs))) (hv : fs[9]? = some v) (K : GG M x Z (pc + 3) ls (v :: st) S k) : GG M x Z pc ls (.ref pl :: st) S k := gg_get 9 hd igX7 rfl (by decide) (by rw [hM]; exact lk_X7_23) rfl hS hv K
theorem pf_X7_23 {M : gl_M} {x : gl_X} {Z : State → Prop} {pc : Nat} {ls : List (Option Value)} {st : List Value} {S : gl_H} {k : Nat × Nat} {pl : Nat} {fs : List Value} {rv : Nat} (hM : M.2.1 = RX7) (hi : M.2.2.2.2.1 = true) (hd : decode M.1 pc = .ok (.putfield 23, 3)) (hS : S pl = some (.inr (7, fs))) (hl : 9 < fs.length) (hrv : S rv ≠ none) (K : GG M x Z (pc + 3) ls st (gl_pu S pl (.inr (7, fs.set 9 (.ref rv)))) k) : GG M x Z pc ls (.ref rv :: .ref pl :: st) S k := gg_putF (ty0 := tyX7) (ty := tyX7 9) 9 hd igX7 tyX7_ok nmX7 rfl (by decide) (by rw [hM]; exact lk_X7_23) rfl rfl hi (by rw [hM]; rfl) (by decide +kernel) hS hl (fun a => ⟨rfl, rfl⟩) hrv K
set_option maxRecDepth 20000 in
theorem lk_X7_26 : Cond.fieldLink RX7 26 (TX7 10).1 (TX7 10).2.1 (TX7 10).2.2.1 ∈ gl_T := (gl_T_in (by decide +kernel) (by decide +kernel))
theorem gf_X7_26 {M : gl_M} {x : gl_X} {Z : State → Prop} {pc : Nat} {ls : List (Option Value)} {st : List Value} {S : gl_H} {k : Nat × Nat} {pl : Nat} {fs : List Value} {v : Value} (hM : M.2.1 = RX7) (hd : decode M.1 pc = .ok (.getfield 26, 3)) (hS : S pl = some (.inr (7, fs))) (hv : fs[10]? = some v) (K : GG M x Z (pc + 3) ls (v :: st) S k) : GG M x Z pc ls (.ref pl :: st) S k := gg_get 10 hd igX7 rfl (by decide) (by rw [hM]; exact lk_X7_26) rfl hS hv K
theorem pf_X7_26 {M : gl_M} {x : gl_X} {Z : State → Prop} {pc : Nat} {ls : List (Option Value)} {st : List Value} {S : gl_H} {k : Nat × Nat} {pl : Nat} {fs : List Value} {rv : Nat} (hM : M.2.1 = RX7) (hi : M.2.2.2.2.1 = true) (hd : decode M.1 pc = .ok (.putfield 26, 3)) (hS : S pl = some (.inr (7, fs))) (hl : 10 < fs.length) (hrv : S rv ≠ none) (K : GG M x Z (pc + 3) ls st (gl_pu S pl (.inr (7, fs.set 10 (.ref rv)))) k) : GG M x Z pc ls (.ref rv :: .ref pl :: st) S k := gg_putF (ty0 := tyX7) (ty := tyX7 10) 10 hd igX7 tyX7_ok nmX7 rfl (by decide) (by rw [hM]; exact lk_X7_26) rfl rfl hi (by rw [hM]; rfl) (by decide +kernel) hS hl (fun a => ⟨rfl, rfl⟩) hrv K
set_option maxRecDepth 20000 in
theorem lk_X7_29 : Cond.fieldLink RX7 29 (TX7 11).1 (TX7 11).2.1 (TX7 11).2.2.1 ∈ gl_T := (gl_T_in (by decide +kernel) (by decide +kernel))
theorem gf_X7_29 {M : gl_M} {x : gl_X} {Z : State → Prop} {pc : Nat} {ls : List (Option Value)} {st : List Value} {S : gl_H} {k : Nat × Nat} {pl : Nat} {fs : List Value} {v : Value} (hM : M.2.1 = RX7) (hd : decode M.1 pc = .ok (.getfield 29, 3)) (hS : S pl = some (.inr (7, fs))) (hv : fs[11]? = some v) (K : GG M x Z (pc + 3) ls (v :: st) S k) : GG M x Z pc ls (.ref pl :: st) S k := gg_get 11 hd igX7 rfl (by decide) (by rw [hM]; exact lk_X7_29) rfl hS hv K
theorem pf_X7_29 {M : gl_M} {x : gl_X} {Z : State → Prop} {pc : Nat} {ls : List (Option Value)} {st : List Value} {S : gl_H} {k : Nat × Nat} {pl : Nat} {fs : List Value} {rv : Nat} (hM : M.2.1 = RX7) (hi : M.2.2.2.2.1 = true) (hd : decode M.1 pc = .ok (.putfield 29, 3)) (hS : S pl = some (.inr (7, fs))) (hl : 11 < fs.length) (hrv : S rv ≠ none) (K : GG M x Z (pc + 3) ls st (gl_pu S pl (.inr (7, fs.set 11 (.ref rv)))) k) : GG M x Z pc ls (.ref rv :: .ref pl :: st) S k := gg_putF (ty0 := tyX7) (ty := tyX7 11) 11 hd igX7 tyX7_ok nmX7 rfl (by decide) (by rw [hM]; exact lk_X7_29) rfl rfl hi (by rw [hM]; rfl) (by decide +kernel) hS hl (fun a => ⟨rfl, rfl⟩) hrv K
set_option maxRecDepth 20000 in
theorem lk_X7_32 : Cond.fieldLink RX7 32 (TX7 12).1 (TX7 12).2.1 (TX7 12).2.2.1 ∈ gl_T := (gl_T_in (by decide +kernel) (by decide +kernel))
theorem gf_X7_32 {M : gl_M} {x : gl_X} {Z : State → Prop} {pc : Nat} {ls : List (Option Value)} {st : List Value} {S : gl_H} {k : Nat × Nat} {pl : Nat} {fs : List Value} {v : Value} (hM : M.2.1 = RX7) (hd : decode M.1 pc = .ok (.getfield 32, 3)) (hS : S pl = some (.inr (7, fs))) (hv : fs[12]? = some v) (K : GG M x Z (pc + 3) ls (v :: st) S k) : GG M x Z pc ls (.ref pl :: st) S k := gg_get 12 hd igX7 rfl (by decide) (by rw [hM]; exact lk_X7_32) rfl hS hv K
theorem pf_X7_32 {M : gl_M} {x : gl_X} {Z : State → Prop} {pc : Nat} {ls : List (Option Value)} {st : List Value} {S : gl_H} {k : Nat × Nat} {pl : Nat} {fs : List Value} {rv : Nat} (hM : M.2.1 = RX7) (hi : M.2.2.2.2.1 = true) (hd : decode M.1 pc = .ok (.putfield 32, 3)) (hS : S pl = some (.inr (7, fs))) (hl : 12 < fs.length) (hrv : S rv ≠ none) (K : GG M x Z (pc + 3) ls st (gl_pu S pl (.inr (7, fs.set 12 (.ref rv)))) k) : GG M x Z pc ls (.ref rv :: .ref pl :: st) S k := gg_putF (ty0 := tyX7) (ty := tyX7 12) 12 hd igX7 tyX7_ok nmX7 rfl (by decide) (by rw [hM]; exact lk_X7_32) rfl rfl hi (by rw [hM]; rfl) (by decide +kernel) hS hl (fun a => ⟨rfl, rfl⟩) hrv K
set_option maxRecDepth 20000 in
theorem lk_X7_35 : Cond.fieldLink RX7 35 (TX7 13).1 (TX7 13).2.1 (TX7 13).2.2.1 ∈ gl_T := (gl_T_in (by decide +kernel) (by decide +kernel))
theorem gf_X7_35 {M : gl_M} {x : gl_X} {Z : State → Prop} {pc : Nat} {ls : List (Option Value)} {st : List Value} {S : gl_H} {k : Nat × Nat} {pl : Nat} {fs : List Value} {v : Value} (hM : M.2.1 = RX7) (hd : decode M.1 pc = .ok (.getfield 35, 3)) (hS : S pl = some (.inr (7, fs))) (hv : fs[13]? = some v) (K : GG M x Z (pc + 3) ls (v :: st) S k) : GG M x Z pc ls (.ref pl :: st) S k := gg_get 13 hd igX7 rfl (by decide) (by rw [hM]; exact lk_X7_35) rfl hS hv K
theorem pf_X7_35 {M : gl_M} {x : gl_X} {Z : State → Prop} {pc : Nat} {ls : List (Option Value)} {st : List Value} {S : gl_H} {k : Nat × Nat} {pl : Nat} {fs : List Value} {rv : Nat} (hM : M.2.1 = RX7) (hi : M.2.2.2.2.1 = true) (hd : decode M.1 pc = .ok (.putfield 35, 3)) (hS : S pl = some (.inr (7, fs))) (hl : 13 < fs.length) (hrv : S rv ≠ none) (K : GG M x Z (pc + 3) ls st (gl_pu S pl (.inr (7, fs.set 13 (.ref rv)))) k) : GG M x Z pc ls (.ref rv :: .ref pl :: st) S k := gg_putF (ty0 := tyX7) (ty := tyX7 13) 13 hd igX7 tyX7_ok nmX7 rfl (by decide) (by rw [hM]; exact lk_X7_35) rfl rfl hi (by rw [hM]; rfl) (by decide +kernel) hS hl (fun a => ⟨rfl, rfl⟩) hrv K
set_option maxRecDepth 20000 in
theorem lk_X7_38 : Cond.fieldLink RX7 38 (TX7 14).1 (TX7 14).2.1 (TX7 14).2.2.1 ∈ gl_T := (gl_T_in (by decide +kernel) (by decide +kernel))
theorem gf_X7_38 {M : gl_M} {x : gl_X} {Z : State → Prop} {pc : Nat} {ls : List (Option Value)} {st : List Value} {S : gl_H} {k : Nat × Nat} {pl : Nat} {fs : List Value} {v : Value} (hM : M.2.1 = RX7) (hd : decode M.1 pc = .ok (.getfield 38, 3)) (hS : S pl = some (.inr (7, fs))) (hv : fs[14]? = some v) (K : GG M x Z (pc + 3) ls (v :: st) S k) : GG M x Z pc ls (.ref pl :: st) S k := gg_get 14 hd igX7 rfl (by decide) (by rw [hM]; exact lk_X7_38) rfl hS hv K
theorem pf_X7_38 {M : gl_M} {x : gl_X} {Z : State → Prop} {pc : Nat} {ls : List (Option Value)} {st : List Value} {S : gl_H} {k : Nat × Nat} {pl : Nat} {fs : List Value} {rv : Nat} (hM : M.2.1 = RX7) (hi : M.2.2.2.2.1 = true) (hd : decode M.1 pc = .ok (.putfield 38, 3)) (hS : S pl = some (.inr (7, fs))) (hl : 14 < fs.length) (hrv : S rv ≠ none) (K : GG M x Z (pc + 3) ls st (gl_pu S pl (.inr (7, fs.set 14 (.ref rv)))) k) : GG M x Z pc ls (.ref rv :: .ref pl :: st) S k := gg_putF (ty0 := tyX7) (ty := tyX7 14) 14 hd igX7 tyX7_ok nmX7 rfl (by decide) (by rw [hM]; exact lk_X7_38) rfl rfl hi (by rw [hM]; rfl) (by decide +kernel) hS hl (fun a => ⟨rfl, rfl⟩) hrv K
set_option maxRecDepth 20000 in
theorem lk_X7_41 : Cond.fieldLink RX7 41 (TX7 15).1 (TX7 15).2.1 (TX7 15).2.2.1 ∈ gl_T := (gl_T_in (by decide +kernel) (by decide +kernel))
theorem gf_X7_41 {M : gl_M} {x : gl_X} {Z : State → Prop} {pc : Nat} {ls : List (Option Value)} {st : List Value} {S : gl_H} {k : Nat × Nat} {pl : Nat} {fs : List Value} {v : Value} (hM : M.2.1 = RX7) (hd : decode M.1 pc = .ok (.getfield 41, 3)) (hS : S pl = some (.inr (7, fs))) (hv : fs[15]? = some v) (K : GG M x Z (pc + 3) ls (v :: st) S k) : GG M x Z pc ls (.ref pl :: st) S k := gg_get 15 hd igX7 rfl (by decide) (by rw [hM]; exact lk_X7_41) rfl hS hv K
theorem pf_X7_41 {M : gl_M} {x : gl_X} {Z : State → Prop} {pc : Nat} {ls : List (Option Value)} {st : List Value} {S : gl_H} {k : Nat × Nat} {pl : Nat} {fs : List Value} {rv : Nat} (hM : M.2.1 = RX7) (hi : M.2.2.2.2.1 = true) (hd : decode M.1 pc = .ok (.putfield 41, 3)) (hS : S pl = some (.inr (7, fs))) (hl : 15 < fs.length) (hrv : S rv ≠ none) (K : GG M x Z (pc + 3) ls st (gl_pu S pl (.inr (7, fs.set 15 (.ref rv)))) k) : GG M x Z pc ls (.ref rv :: .ref pl :: st) S k := gg_putF (ty0 := tyX7) (ty := tyX7 15) 15 hd igX7 tyX7_ok nmX7 rfl (by decide) (by rw [hM]; exact lk_X7_41) rfl rfl hi (by rw [hM]; rfl) (by decide +kernel) hS hl (fun a => ⟨rfl, rfl⟩) hrv K
set_option maxRecDepth 20000 in
theorem lk_X7_44 : Cond.fieldLink RX7 44 (TX7 16).1 (TX7 16).2.1 (TX7 16).2.2.1 ∈ gl_T := (gl_T_in (by decide +kernel) (by decide +kernel))
theorem gf_X7_44 {M : gl_M} {x : gl_X} {Z : State → Prop} {pc : Nat} {ls : List (Option Value)} {st : List Value} {S : gl_H} {k : Nat × Nat} {pl : Nat} {fs : List Value} {v : Value} (hM : M.2.1 = RX7) (hd : decode M.1 pc = .ok (.getfield 44, 3)) (hS : S pl = some (.inr (7, fs))) (hv : fs[16]? = some v) (K : GG M x Z (pc + 3) ls (v :: st) S k) : GG M x Z pc ls (.ref pl :: st) S k := gg_get 16 hd igX7 rfl (by decide) (by rw [hM]; exact lk_X7_44) rfl hS hv K
theorem pf_X7_44 {M : gl_M} {x : gl_X} {Z : State → Prop} {pc : Nat} {ls : List (Option Value)} {st : List Value} {S : gl_H} {k : Nat × Nat} {pl : Nat} {fs : List Value} {rv : Nat} (hM : M.2.1 = RX7) (hi : M.2.2.2.2.1 = true) (hd : decode M.1 pc = .ok (.putfield 44, 3)) (hS : S pl = some (.inr (7, fs))) (hl : 16 < fs.length) (hrv : S rv ≠ none) (K : GG M x Z (pc + 3) ls st (gl_pu S pl (.inr (7, fs.set 16 (.ref rv)))) k) : GG M x Z pc ls (.ref rv :: .ref pl :: st) S k := gg_putF (ty0 := tyX7) (ty := tyX7 16) 16 hd igX7 tyX7_ok nmX7 rfl (by decide) (by rw [hM]; exact lk_X7_44) rfl rfl hi (by rw [hM]; rfl) (by decide +kernel) hS hl (fun a => ⟨rfl, rfl⟩) hrv K
set_option maxRecDepth 20000 in
theorem lk_X7_47 : Cond.fieldLink RX7 47 (TX7 17).1 (TX7 17).2.1 (TX7 17).2.2.1 ∈ gl_T := (gl_T_in (by decide +kernel) (by decide +kernel))
theorem gf_X7_47 {M : gl_M} {x : gl_X} {Z : State → Prop} {pc : Nat} {ls : List (Option Value)} {st : List Value} {S : gl_H} {k : Nat × Nat} {pl : Nat} {fs : List Value} {v : Value} (hM : M.2.1 = RX7) (hd : decode M.1 pc = .ok (.getfield 47, 3)) (hS : S pl = some (.inr (7, fs))) (hv : fs[17]? = some v) (K : GG M x Z (pc + 3) ls (v :: st) S k) : GG M x Z pc ls (.ref pl :: st) S k := gg_get 17 hd igX7 rfl (by decide) (by rw [hM]; exact lk_X7_47) rfl hS hv K
theorem pf_X7_47 {M : gl_M} {x : gl_X} {Z : State → Prop} {pc : Nat} {ls : List (Option Value)} {st : List Value} {S : gl_H} {k : Nat × Nat} {pl : Nat} {fs : List Value} {rv : Nat} (hM : M.2.1 = RX7) (hi : M.2.2.2.2.1 = true) (hd : decode M.1 pc = .ok (.putfield 47, 3)) (hS : S pl = some (.inr (7, fs))) (hl : 17 < fs.length) (hrv : S rv ≠ none) (K : GG M x Z (pc + 3) ls st (gl_pu S pl (.inr (7, fs.set 17 (.ref rv)))) k) : GG M x Z pc ls (.ref rv :: .ref pl :: st) S k := gg_putF (ty0 := tyX7) (ty := tyX7 17) 17 hd igX7 tyX7_ok nmX7 rfl (by decide) (by rw [hM]; exact lk_X7_47) rfl rfl hi (by rw [hM]; rfl) (by decide +kernel) hS hl (fun a => ⟨rfl, rfl⟩) hrv K
set_option maxRecDepth 20000 in
theorem lk_X7_50 : Cond.fieldLink RX7 50 (TX7 18).1 (TX7 18).2.1 (TX7 18).2.2.1 ∈ gl_T := (gl_T_in (by decide +kernel) (by decide +kernel))
theorem gf_X7_50 {M : gl_M} {x : gl_X} {Z : State → Prop} {pc : Nat} {ls : List (Option Value)} {st : List Value} {S : gl_H} {k : Nat × Nat} {pl : Nat} {fs : List Value} {v : Value} (hM : M.2.1 = RX7) (hd : decode M.1 pc = .ok (.getfield 50, 3)) (hS : S pl = some (.inr (7, fs))) (hv : fs[18]? = some v) (K : GG M x Z (pc + 3) ls (v :: st) S k) : GG M x Z pc ls (.ref pl :: st) S k := gg_get 18 hd igX7 rfl (by decide) (by rw [hM]; exact lk_X7_50) rfl hS hv K
theorem pf_X7_50 {M : gl_M} {x : gl_X} {Z : State → Prop} {pc : Nat} {ls : List (Option Value)} {st : List Value} {S : gl_H} {k : Nat × Nat} {pl : Nat} {fs : List Value} {rv : Nat} (hM : M.2.1 = RX7) (hi : M.2.2.2.2.1 = true) (hd : decode M.1 pc = .ok (.putfield 50, 3)) (hS : S pl = some (.inr (7, fs))) (hl : 18 < fs.length) (hrv : S rv ≠ none) (K : GG M x Z (pc + 3) ls st (gl_pu S pl (.inr (7, fs.set 18 (.ref rv)))) k) : GG M x Z pc ls (.ref rv :: .ref pl :: st) S k := gg_putF (ty0 := tyX7) (ty := tyX7 18) 18 hd igX7 tyX7_ok nmX7 rfl (by decide) (by rw [hM]; exact lk_X7_50) rfl rfl hi (by rw [hM]; rfl) (by decide +kernel) hS hl (fun a => ⟨rfl, rfl⟩) hrv K
set_option maxRecDepth 20000 in
theorem lk_X7_54 : Cond.fieldLink RX7 54 (TX7 19).1 (TX7 19).2.1 (TX7 19).2.2.1 ∈ gl_T := (gl_T_in (by decide +kernel) (by decide +kernel))
theorem gf_X7_54 {M : gl_M} {x : gl_X} {Z : State → Prop} {pc : Nat} {ls : List (Option Value)} {st : List Value} {S : gl_H} {k : Nat × Nat} {pl : Nat} {fs : List Value} {v : Value} (hM : M.2.1 = RX7) (hd : decode M.1 pc = .ok (.getfield 54, 3)) (hS : S pl = some (.inr (7, fs))) (hv : fs[19]? = some v) (K : GG M x Z (pc + 3) ls (v :: st) S k) : GG M x Z pc ls (.ref pl :: st) S k := gg_get 19 hd igX7 rfl (by decide) (by rw [hM]; exact lk_X7_54) rfl hS hv K
theorem pf_X7_54 {M : gl_M} {x : gl_X} {Z : State → Prop} {pc : Nat} {ls : List (Option Value)} {st : List Value} {S : gl_H} {k : Nat × Nat} {pl : Nat} {fs : List Value} {rv : Nat} (hM : M.2.1 = RX7) (hi : M.2.2.2.2.1 = true) (hd : decode M.1 pc = .ok (.putfield 54, 3)) (hS : S pl = some (.inr (7, fs))) (hl : 19 < fs.length) (hrv : S rv ≠ none) (K : GG M x Z (pc + 3) ls st (gl_pu S pl (.inr (7, fs.set 19 (.ref rv)))) k) : GG M x Z pc ls (.ref rv :: .ref pl :: st) S k := gg_putF (ty0 := tyX7) (ty := tyX7 19) 19 hd igX7 tyX7_ok nmX7 rfl (by decide) (by rw [hM]; exact lk_X7_54) rfl rfl hi (by rw [hM]; rfl) (by decide +kernel) hS hl (fun a => ⟨rfl, rfl⟩) hrv K
set_option maxRecDepth 20000 in
theorem lk_X7_57 : Cond.fieldLink RX7 57 (TX7 20).1 (TX7 20).2.1 (TX7 20).2.2.1 ∈ gl_T := (gl_T_in (by decide +kernel) (by decide +kernel))
theorem gf_X7_57 {M : gl_M} {x : gl_X} {Z : State → Prop} {pc : Nat} {ls : List (Option Value)} {st : List Value} {S : gl_H} {k : Nat × Nat} {pl : Nat} {fs : List Value} {v : Value} (hM : M.2.1 = RX7) (hd : decode M.1 pc = .ok (.getfield 57, 3)) (hS : S pl = some (.inr (7, fs))) (hv : fs[20]? = some v) (K : GG M x Z (pc + 3) ls (v :: st) S k) : GG M x Z pc ls (.ref pl :: st) S k := gg_get 20 hd igX7 rfl (by decide) (by rw [hM]; exact lk_X7_57) rfl hS hv K
theorem pf_X7_57 {M : gl_M} {x : gl_X} {Z : State → Prop} {pc : Nat} {ls : List (Option Value)} {st : List Value} {S : gl_H} {k : Nat × Nat} {pl : Nat} {fs : List Value} {rv : Nat} (hM : M.2.1 = RX7) (hi : M.2.2.2.2.1 = true) (hd : decode M.1 pc = .ok (.putfield 57, 3)) (hS : S pl = some (.inr (7, fs))) (hl : 20 < fs.length) (hrv : S rv ≠ none) (K : GG M x Z (pc + 3) ls st (gl_pu S pl (.inr (7, fs.set 20 (.ref rv)))) k) : GG M x Z pc ls (.ref rv :: .ref pl :: st) S k := gg_putF (ty0 := tyX7) (ty := tyX7 20) 20 hd igX7 tyX7_ok nmX7 rfl (by decide) (by rw [hM]; exact lk_X7_57) rfl rfl hi (by rw [hM]; rfl) (by decide +kernel) hS hl (fun a => ⟨rfl, rfl⟩) hrv K
set_option maxRecDepth 20000 in
theorem lk_X7_60 : Cond.fieldLink RX7 60 (TX7 21).1 (TX7 21).2.1 (TX7 21).2.2.1 ∈ gl_T := (gl_T_in (by decide +kernel) (by decide +kernel))
theorem gf_X7_60 {M : gl_M} {x : gl_X} {Z : State → Prop} {pc : Nat} {ls : List (Option Value)} {st : List Value} {S : gl_H} {k : Nat × Nat} {pl : Nat} {fs : List Value} {v : Value} (hM : M.2.1 = RX7) (hd : decode M.1 pc = .ok (.getfield 60, 3)) (hS : S pl = some (.inr (7, fs))) (hv : fs[21]? = some v) (K : GG M x Z (pc + 3) ls (v :: st) S k) : GG M x Z pc ls (.ref pl :: st) S k := gg_get 21 hd igX7 rfl (by decide) (by rw [hM]; exact lk_X7_60) rfl hS hv K
theorem pf_X7_60 {M : gl_M} {x : gl_X} {Z : State → Prop} {pc : Nat} {ls : List (Option Value)} {st : List Value} {S : gl_H} {k : Nat × Nat} {pl : Nat} {fs : List Value} {rv : Nat} (hM : M.2.1 = RX7) (hi : M.2.2.2.2.1 = true) (hd : decode M.1 pc = .ok (.putfield 60, 3)) (hS : S pl = some (.inr (7, fs))) (hl : 21 < fs.length) (hrv : S rv ≠ none) (K : GG M x Z (pc + 3) ls st (gl_pu S pl (.inr (7, fs.set 21 (.ref rv)))) k) : GG M x Z pc ls (.ref rv :: .ref pl :: st) S k := gg_putF (ty0 := tyX7) (ty := tyX7 21) 21 hd igX7 tyX7_ok nmX7 rfl (by decide) (by rw [hM]; exact lk_X7_60) rfl rfl hi (by rw [hM]; rfl) (by decide +kernel) hS hl (fun a => ⟨rfl, rfl⟩) hrv K
set_option maxRecDepth 20000 in
theorem lk_X7_63 : Cond.fieldLink RX7 63 (TX7 22).1 (TX7 22).2.1 (TX7 22).2.2.1 ∈ gl_T := (gl_T_in (by decide +kernel) (by decide +kernel))
theorem gf_X7_63 {M : gl_M} {x : gl_X} {Z : State → Prop} {pc : Nat} {ls : List (Option Value)} {st : List Value} {S : gl_H} {k : Nat × Nat} {pl : Nat} {fs : List Value} {v : Value} (hM : M.2.1 = RX7) (hd : decode M.1 pc = .ok (.getfield 63, 3)) (hS : S pl = some (.inr (7, fs))) (hv : fs[22]? = some v) (K : GG M x Z (pc + 3) ls (v :: st) S k) : GG M x Z pc ls (.ref pl :: st) S k := gg_get 22 hd igX7 rfl (by decide) (by rw [hM]; exact lk_X7_63) rfl hS hv K
theorem pf_X7_63 {M : gl_M} {x : gl_X} {Z : State → Prop} {pc : Nat} {ls : List (Option Value)} {st : List Value} {S : gl_H} {k : Nat × Nat} {pl : Nat} {fs : List Value} {rv : Nat} (hM : M.2.1 = RX7) (hi : M.2.2.2.2.1 = true) (hd : decode M.1 pc = .ok (.putfield 63, 3)) (hS : S pl = some (.inr (7, fs))) (hl : 22 < fs.length) (hrv : S rv ≠ none) (K : GG M x Z (pc + 3) ls st (gl_pu S pl (.inr (7, fs.set 22 (.ref rv)))) k) : GG M x Z pc ls (.ref rv :: .ref pl :: st) S k := gg_putF (ty0 := tyX7) (ty := tyX7 22) 22 hd igX7 tyX7_ok nmX7 rfl (by decide) (by rw [hM]; exact lk_X7_63) rfl rfl hi (by rw [hM]; rfl) (by decide +kernel) hS hl (fun a => ⟨rfl, rfl⟩) hrv K
set_option maxRecDepth 20000 in
theorem lk_X7_66 : Cond.fieldLink RX7 66 (TX7 23).1 (TX7 23).2.1 (TX7 23).2.2.1 ∈ gl_T := (gl_T_in (by decide +kernel) (by decide +kernel))
theorem gf_X7_66 {M : gl_M} {x : gl_X} {Z : State → Prop} {pc : Nat} {ls : List (Option Value)} {st : List Value} {S : gl_H} {k : Nat × Nat} {pl : Nat} {fs : List Value} {v : Value} (hM : M.2.1 = RX7) (hd : decode M.1 pc = .ok (.getfield 66, 3)) (hS : S pl = some (.inr (7, fs))) (hv : fs[23]? = some v) (K : GG M x Z (pc + 3) ls (v :: st) S k) : GG M x Z pc ls (.ref pl :: st) S k := gg_get 23 hd igX7 rfl (by decide) (by rw [hM]; exact lk_X7_66) rfl hS hv K
theorem pf_X7_66 {M : gl_M} {x : gl_X} {Z : State → Prop} {pc : Nat} {ls : List (Option Value)} {st : List Value} {S : gl_H} {k : Nat × Nat} {pl : Nat} {fs : List Value} {rv : Nat} (hM : M.2.1 = RX7) (hi : M.2.2.2.2.1 = true) (hd : decode M.1 pc = .ok (.putfield 66, 3)) (hS : S pl = some (.inr (7, fs))) (hl : 23 < fs.length) (hrv : S rv ≠ none) (K : GG M x Z (pc + 3) ls st (gl_pu S pl (.inr (7, fs.set 23 (.ref rv)))) k) : GG M x Z pc ls (.ref rv :: .ref pl :: st) S k := gg_putF (ty0 := tyX7) (ty := tyX7 23) 23 hd igX7 tyX7_ok nmX7 rfl (by decide) (by rw [hM]; exact lk_X7_66) rfl rfl hi (by rw [hM]; rfl) (by decide +kernel) hS hl (fun a => ⟨rfl, rfl⟩) hrv K
set_option maxRecDepth 20000 in
theorem lk_X7_69 : Cond.fieldLink RX7 69 (TX7 24).1 (TX7 24).2.1 (TX7 24).2.2.1 ∈ gl_T := (gl_T_in (by decide +kernel) (by decide +kernel))
theorem gf_X7_69 {M : gl_M} {x : gl_X} {Z : State → Prop} {pc : Nat} {ls : List (Option Value)} {st : List Value} {S : gl_H} {k : Nat × Nat} {pl : Nat} {fs : List Value} {v : Value} (hM : M.2.1 = RX7) (hd : decode M.1 pc = .ok (.getfield 69, 3)) (hS : S pl = some (.inr (7, fs))) (hv : fs[24]? = some v) (K : GG M x Z (pc + 3) ls (v :: st) S k) : GG M x Z pc ls (.ref pl :: st) S k := gg_get 24 hd igX7 rfl (by decide) (by rw [hM]; exact lk_X7_69) rfl hS hv K
theorem pf_X7_69 {M : gl_M} {x : gl_X} {Z : State → Prop} {pc : Nat} {ls : List (Option Value)} {st : List Value} {S : gl_H} {k : Nat × Nat} {pl : Nat} {fs : List Value} {rv : Nat} (hM : M.2.1 = RX7) (hi : M.2.2.2.2.1 = true) (hd : decode M.1 pc = .ok (.putfield 69, 3)) (hS : S pl = some (.inr (7, fs))) (hl : 24 < fs.length) (hrv : S rv ≠ none) (K : GG M x Z (pc + 3) ls st (gl_pu S pl (.inr (7, fs.set 24 (.ref rv)))) k) : GG M x Z pc ls (.ref rv :: .ref pl :: st) S k := gg_putF (ty0 := tyX7) (ty := tyX7 24) 24 hd igX7 tyX7_ok nmX7 rfl (by decide) (by rw [hM]; exact lk_X7_69) rfl rfl hi (by rw [hM]; rfl) (by decide +kernel) hS hl (fun a => ⟨rfl, rfl⟩) hrv K
set_option maxRecDepth 20000 in
theorem lk_X7_72 : Cond.fieldLink RX7 72 (TX7 25).1 (TX7 25).2.1 (TX7 25).2.2.1 ∈ gl_T := (gl_T_in (by decide +kernel) (by decide +kernel))
theorem gf_X7_72 {M : gl_M} {x : gl_X} {Z : State → Prop} {pc : Nat} {ls : List (Option Value)} {st : List Value} {S : gl_H} {k : Nat × Nat} {pl : Nat} {fs : List Value} {v : Value} (hM : M.2.1 = RX7) (hd : decode M.1 pc = .ok (.getfield 72, 3)) (hS : S pl = some (.inr (7, fs))) (hv : fs[25]? = some v) (K : GG M x Z (pc + 3) ls (v :: st) S k) : GG M x Z pc ls (.ref pl :: st) S k := gg_get 25 hd igX7 rfl (by decide) (by rw [hM]; exact lk_X7_72) rfl hS hv K
theorem pf_X7_72 {M : gl_M} {x : gl_X} {Z : State → Prop} {pc : Nat} {ls : List (Option Value)} {st : List Value} {S : gl_H} {k : Nat × Nat} {pl : Nat} {fs : List Value} {rv : Nat} (hM : M.2.1 = RX7) (hi : M.2.2.2.2.1 = true) (hd : decode M.1 pc = .ok (.putfield 72, 3)) (hS : S pl = some (.inr (7, fs))) (hl : 25 < fs.length) (hrv : S rv ≠ none) (K : GG M x Z (pc + 3) ls st (gl_pu S pl (.inr (7, fs.set 25 (.ref rv)))) k) : GG M x Z pc ls (.ref rv :: .ref pl :: st) S k := gg_putF (ty0 := tyX7) (ty := tyX7 25) 25 hd igX7 tyX7_ok nmX7 rfl (by decide) (by rw [hM]; exact lk_X7_72) rfl rfl hi (by rw [hM]; rfl) (by decide +kernel) hS hl (fun a => ⟨rfl, rfl⟩) hrv K
set_option maxRecDepth 20000 in
theorem lk_X7_75 : Cond.fieldLink RX7 75 (TX7 26).1 (TX7 26).2.1 (TX7 26).2.2.1 ∈ gl_T := (gl_T_in (by decide +kernel) (by decide +kernel))
theorem gf_X7_75 {M : gl_M} {x : gl_X} {Z : State → Prop} {pc : Nat} {ls : List (Option Value)} {st : List Value} {S : gl_H} {k : Nat × Nat} {pl : Nat} {fs : List Value} {v : Value} (hM : M.2.1 = RX7) (hd : decode M.1 pc = .ok (.getfield 75, 3)) (hS : S pl = some (.inr (7, fs))) (hv : fs[26]? = some v) (K : GG M x Z (pc + 3) ls (v :: st) S k) : GG M x Z pc ls (.ref pl :: st) S k := gg_get 26 hd igX7 rfl (by decide) (by rw [hM]; exact lk_X7_75) rfl hS hv K
theorem pf_X7_75 {M : gl_M} {x : gl_X} {Z : State → Prop} {pc : Nat} {ls : List (Option Value)} {st : List Value} {S : gl_H} {k : Nat × Nat} {pl : Nat} {fs : List Value} {rv : Nat} (hM : M.2.1 = RX7) (hi : M.2.2.2.2.1 = true) (hd : decode M.1 pc = .ok (.putfield 75, 3)) (hS : S pl = some (.inr (7, fs))) (hl : 26 < fs.length) (hrv : S rv ≠ none) (K : GG M x Z (pc + 3) ls st (gl_pu S pl (.inr (7, fs.set 26 (.ref rv)))) k) : GG M x Z pc ls (.ref rv :: .ref pl :: st) S k := gg_putF (ty0 := tyX7) (ty := tyX7 26) 26 hd igX7 tyX7_ok nmX7 rfl (by decide) (by rw [hM]; exact lk_X7_75) rfl rfl hi (by rw [hM]; rfl) (by decide +kernel) hS hl (fun a => ⟨rfl, rfl⟩) hrv K
set_option maxRecDepth 20000 in
theorem lk_X7_79 : Cond.fieldLink RX7 79 (TX7 28).1 (TX7 28).2.1 (TX7 28).2.2.1 ∈ gl_T := (gl_T_in (by decide +kernel) (by decide +kernel))
theorem gf_X7_79 {M : gl_M} {x : gl_X} {Z : State → Prop} {pc : Nat} {ls : List (Option Value)} {st : List Value} {S : gl_H} {k : Nat × Nat} {pl : Nat} {fs : List Value} {v : Value} (hM : M.2.1 = RX7) (hd : decode M.1 pc = .ok (.getfield 79, 3)) (hS : S pl = some (.inr (7, fs))) (hv : fs[28]? = some v) (K : GG M x Z (pc + 3) ls (v :: st) S k) : GG M x Z pc ls (.ref pl :: st) S k := gg_get 28 hd igX7 rfl (by decide) (by rw [hM]; exact lk_X7_79) rfl hS hv K
theorem pf_X7_79 {M : gl_M} {x : gl_X} {Z : State → Prop} {pc : Nat} {ls : List (Option Value)} {st : List Value} {S : gl_H} {k : Nat × Nat} {pl : Nat} {fs : List Value} {rv : Nat} (hM : M.2.1 = RX7) (hi : M.2.2.2.2.1 = true) (hd : decode M.1 pc = .ok (.putfield 79, 3)) (hS : S pl = some (.inr (7, fs))) (hl : 28 < fs.length) (hrv : S rv ≠ none) (K : GG M x Z (pc + 3) ls st (gl_pu S pl (.inr (7, fs.set 28 (.ref rv)))) k) : GG M x Z pc ls (.ref rv :: .ref pl :: st) S k := gg_putF (ty0 := tyX7) (ty := tyX7 28) 28 hd igX7 tyX7_ok nmX7 rfl (by decide) (by rw [hM]; exact lk_X7_79) rfl rfl hi (by rw [hM]; rfl) (by decide +kernel) hS hl (fun a => ⟨rfl, rfl⟩) hrv K
set_option maxRecDepth 20000 in
theorem lk_X7_82 : Cond.fieldLink RX7 82 (TX7 29).1 (TX7 29).2.1 (TX7 29).2.2.1 ∈ gl_T := (gl_T_in (by decide +kernel) (by decide +kernel))
theorem gf_X7_82 {M : gl_M} {x : gl_X} {Z : State → Prop} {pc : Nat} {ls : List (Option Value)} {st : List Value} {S : gl_H} {k : Nat × Nat} {pl : Nat} {fs : List Value} {v : Value} (hM : M.2.1 = RX7) (hd : decode M.1 pc = .ok (.getfield 82, 3)) (hS : S pl = some (.inr (7, fs))) (hv : fs[29]? = some v) (K : GG M x Z (pc + 3) ls (v :: st) S k) : GG M x Z pc ls (.ref pl :: st) S k := gg_get 29 hd igX7 rfl (by decide) (by rw [hM]; exact lk_X7_82) rfl hS hv K
theorem pf_X7_82 {M : gl_M} {x : gl_X} {Z : State → Prop} {pc : Nat} {ls : List (Option Value)} {st : List Value} {S : gl_H} {k : Nat × Nat} {pl : Nat} {fs : List Value} {rv : Nat} (hM : M.2.1 = RX7) (hi : M.2.2.2.2.1 = true) (hd : decode M.1 pc = .ok (.putfield 82, 3)) (hS : S pl = some (.inr (7, fs))) (hl : 29 < fs.length) (hrv : S rv ≠ none) (K : GG M x Z (pc + 3) ls st (gl_pu S pl (.inr (7, fs.set 29 (.ref rv)))) k) : GG M x Z pc ls (.ref rv :: .ref pl :: st) S k := gg_putF (ty0 := tyX7) (ty := tyX7 29) 29 hd igX7 tyX7_ok nmX7 rfl (by decide) (by rw [hM]; exact lk_X7_82) rfl rfl hi (by rw [hM]; rfl) (by decide +kernel) hS hl (fun a => ⟨rfl, rfl⟩) hrv K
set_option maxRecDepth 20000 in
theorem lk_X7_89 : Cond.fieldLink RX7 89 (TX7 1).1 (TX7 1).2.1 (TX7 1).2.2.1 ∈ gl_T := (gl_T_in (by decide +kernel) (by decide +kernel))
theorem gf_X7_89 {M : gl_M} {x : gl_X} {Z : State → Prop} {pc : Nat} {ls : List (Option Value)} {st : List Value} {S : gl_H} {k : Nat × Nat} {pl : Nat} {fs : List Value} {v : Value} (hM : M.2.1 = RX7) (hd : decode M.1 pc = .ok (.getfield 89, 3)) (hS : S pl = some (.inr (7, fs))) (hv : fs[1]? = some v) (K : GG M x Z (pc + 3) ls (v :: st) S k) : GG M x Z pc ls (.ref pl :: st) S k := gg_get 1 hd igX7 rfl (by decide) (by rw [hM]; exact lk_X7_89) rfl hS hv K
theorem pf_X7_89 {M : gl_M} {x : gl_X} {Z : State → Prop} {pc : Nat} {ls : List (Option Value)} {st : List Value} {S : gl_H} {k : Nat × Nat} {pl : Nat} {fs : List Value} {a : Int32} (hM : M.2.1 = RX7) (hd : decode M.1 pc = .ok (.putfield 89, 3)) (hS : S pl = some (.inr (7, fs))) (hl : 1 < fs.length) (K : GG M x Z (pc + 3) ls st (gl_pu S pl (.inr (7, fs.set 1 (.int a)))) k) : GG M x Z pc ls (.int a :: .ref pl :: st) S k := gg_put (ty0 := tyX7) (ty := .int) 1 hd igX7 tyX7_ok nmX7 rfl (by decide) (by rw [hM]; exact lk_X7_89) rfl rfl (by decide +kernel) hS hl rfl rfl (fun r e => by cases e) K
set_option maxRecDepth 20000 in
theorem lk_X7_116 : Cond.fieldLink RX7 116 (TX7 27).1 (TX7 27).2.1 (TX7 27).2.2.1 ∈ gl_T := (gl_T_in (by decide +kernel) (by decide +kernel))
theorem gf_X7_116 {M : gl_M} {x : gl_X} {Z : State → Prop} {pc : Nat} {ls : List (Option Value)} {st : List Value} {S : gl_H} {k : Nat × Nat} {pl : Nat} {fs : List Value} {v : Value} (hM : M.2.1 = RX7) (hd : decode M.1 pc = .ok (.getfield 116, 3)) (hS : S pl = some (.inr (7, fs))) (hv : fs[27]? = some v) (K : GG M x Z (pc + 3) ls (v :: st) S k) : GG M x Z pc ls (.ref pl :: st) S k := gg_get 27 hd igX7 rfl (by decide) (by rw [hM]; exact lk_X7_116) rfl hS hv K
theorem pf_X7_116 {M : gl_M} {x : gl_X} {Z : State → Prop} {pc : Nat} {ls : List (Option Value)} {st : List Value} {S : gl_H} {k : Nat × Nat} {pl : Nat} {fs : List Value} {a : Int32} (hM : M.2.1 = RX7) (hd : decode M.1 pc = .ok (.putfield 116, 3)) (hS : S pl = some (.inr (7, fs))) (hl : 27 < fs.length) (hn : narrow .boolean (.int a) = .int a) (hf : fits .boolean (.int a) = true) (K : GG M x Z (pc + 3) ls st (gl_pu S pl (.inr (7, fs.set 27 (.int a)))) k) : GG M x Z pc ls (.int a :: .ref pl :: st) S k := gg_put (ty0 := tyX7) (ty := .boolean) 27 hd igX7 tyX7_ok nmX7 rfl (by decide) (by rw [hM]; exact lk_X7_116) rfl rfl (by decide +kernel) hS hl hn hf (fun r e => by cases e) K
set_option maxRecDepth 20000 in
theorem lk_X7_120 : Cond.fieldLink RX7 120 (TX7 3).1 (TX7 3).2.1 (TX7 3).2.2.1 ∈ gl_T := (gl_T_in (by decide +kernel) (by decide +kernel))
theorem gf_X7_120 {M : gl_M} {x : gl_X} {Z : State → Prop} {pc : Nat} {ls : List (Option Value)} {st : List Value} {S : gl_H} {k : Nat × Nat} {pl : Nat} {fs : List Value} {v : Value} (hM : M.2.1 = RX7) (hd : decode M.1 pc = .ok (.getfield 120, 3)) (hS : S pl = some (.inr (7, fs))) (hv : fs[3]? = some v) (K : GG M x Z (pc + 3) ls (v :: st) S k) : GG M x Z pc ls (.ref pl :: st) S k := gg_get 3 hd igX7 rfl (by decide) (by rw [hM]; exact lk_X7_120) rfl hS hv K
theorem pf_X7_120 {M : gl_M} {x : gl_X} {Z : State → Prop} {pc : Nat} {ls : List (Option Value)} {st : List Value} {S : gl_H} {k : Nat × Nat} {pl : Nat} {fs : List Value} {a : Int32} (hM : M.2.1 = RX7) (hd : decode M.1 pc = .ok (.putfield 120, 3)) (hS : S pl = some (.inr (7, fs))) (hl : 3 < fs.length) (K : GG M x Z (pc + 3) ls st (gl_pu S pl (.inr (7, fs.set 3 (.int a)))) k) : GG M x Z pc ls (.int a :: .ref pl :: st) S k := gg_put (ty0 := tyX7) (ty := .int) 3 hd igX7 tyX7_ok nmX7 rfl (by decide) (by rw [hM]; exact lk_X7_120) rfl rfl (by decide +kernel) hS hl rfl rfl (fun r e => by cases e) K
set_option maxRecDepth 20000 in
theorem lk_X7_123 : Cond.fieldLink RX7 123 (TX7 4).1 (TX7 4).2.1 (TX7 4).2.2.1 ∈ gl_T := (gl_T_in (by decide +kernel) (by decide +kernel))
theorem gf_X7_123 {M : gl_M} {x : gl_X} {Z : State → Prop} {pc : Nat} {ls : List (Option Value)} {st : List Value} {S : gl_H} {k : Nat × Nat} {pl : Nat} {fs : List Value} {v : Value} (hM : M.2.1 = RX7) (hd : decode M.1 pc = .ok (.getfield 123, 3)) (hS : S pl = some (.inr (7, fs))) (hv : fs[4]? = some v) (K : GG M x Z (pc + 3) ls (v :: st) S k) : GG M x Z pc ls (.ref pl :: st) S k := gg_get 4 hd igX7 rfl (by decide) (by rw [hM]; exact lk_X7_123) rfl hS hv K
theorem pf_X7_123 {M : gl_M} {x : gl_X} {Z : State → Prop} {pc : Nat} {ls : List (Option Value)} {st : List Value} {S : gl_H} {k : Nat × Nat} {pl : Nat} {fs : List Value} {a : Int32} (hM : M.2.1 = RX7) (hd : decode M.1 pc = .ok (.putfield 123, 3)) (hS : S pl = some (.inr (7, fs))) (hl : 4 < fs.length) (K : GG M x Z (pc + 3) ls st (gl_pu S pl (.inr (7, fs.set 4 (.int a)))) k) : GG M x Z pc ls (.int a :: .ref pl :: st) S k := gg_put (ty0 := tyX7) (ty := .int) 4 hd igX7 tyX7_ok nmX7 rfl (by decide) (by rw [hM]; exact lk_X7_123) rfl rfl (by decide +kernel) hS hl rfl rfl (fun r e => by cases e) K
set_option maxRecDepth 20000 in
theorem lk_X7_133 : Cond.fieldLink RX7 133 (TX7 2).1 (TX7 2).2.1 (TX7 2).2.2.1 ∈ gl_T := (gl_T_in (by decide +kernel) (by decide +kernel))
theorem gf_X7_133 {M : gl_M} {x : gl_X} {Z : State → Prop} {pc : Nat} {ls : List (Option Value)} {st : List Value} {S : gl_H} {k : Nat × Nat} {pl : Nat} {fs : List Value} {v : Value} (hM : M.2.1 = RX7) (hd : decode M.1 pc = .ok (.getfield 133, 3)) (hS : S pl = some (.inr (7, fs))) (hv : fs[2]? = some v) (K : GG M x Z (pc + 3) ls (v :: st) S k) : GG M x Z pc ls (.ref pl :: st) S k := gg_get 2 hd igX7 rfl (by decide) (by rw [hM]; exact lk_X7_133) rfl hS hv K
theorem pf_X7_133 {M : gl_M} {x : gl_X} {Z : State → Prop} {pc : Nat} {ls : List (Option Value)} {st : List Value} {S : gl_H} {k : Nat × Nat} {pl : Nat} {fs : List Value} {a : Int32} (hM : M.2.1 = RX7) (hd : decode M.1 pc = .ok (.putfield 133, 3)) (hS : S pl = some (.inr (7, fs))) (hl : 2 < fs.length) (K : GG M x Z (pc + 3) ls st (gl_pu S pl (.inr (7, fs.set 2 (.int a)))) k) : GG M x Z pc ls (.int a :: .ref pl :: st) S k := gg_put (ty0 := tyX7) (ty := .int) 2 hd igX7 tyX7_ok nmX7 rfl (by decide) (by rw [hM]; exact lk_X7_133) rfl rfl (by decide +kernel) hS hl rfl rfl (fun r e => by cases e) K
set_option maxRecDepth 20000 in
theorem lk_X7_156 : Cond.fieldLink RX7 156 (TX7 30).1 (TX7 30).2.1 (TX7 30).2.2.1 ∈ gl_T := (gl_T_in (by decide +kernel) (by decide +kernel))
theorem gf_X7_156 {M : gl_M} {x : gl_X} {Z : State → Prop} {pc : Nat} {ls : List (Option Value)} {st : List Value} {S : gl_H} {k : Nat × Nat} {pl : Nat} {fs : List Value} {v : Value} (hM : M.2.1 = RX7) (hd : decode M.1 pc = .ok (.getfield 156, 3)) (hS : S pl = some (.inr (7, fs))) (hv : fs[30]? = some v) (K : GG M x Z (pc + 3) ls (v :: st) S k) : GG M x Z pc ls (.ref pl :: st) S k := gg_get 30 hd igX7 rfl (by decide) (by rw [hM]; exact lk_X7_156) rfl hS hv K
theorem pf_X7_156 {M : gl_M} {x : gl_X} {Z : State → Prop} {pc : Nat} {ls : List (Option Value)} {st : List Value} {S : gl_H} {k : Nat × Nat} {pl : Nat} {fs : List Value} {a : Int32} (hM : M.2.1 = RX7) (hd : decode M.1 pc = .ok (.putfield 156, 3)) (hS : S pl = some (.inr (7, fs))) (hl : 30 < fs.length) (K : GG M x Z (pc + 3) ls st (gl_pu S pl (.inr (7, fs.set 30 (.int a)))) k) : GG M x Z pc ls (.int a :: .ref pl :: st) S k := gg_put (ty0 := tyX7) (ty := .int) 30 hd igX7 tyX7_ok nmX7 rfl (by decide) (by rw [hM]; exact lk_X7_156) rfl rfl (by decide +kernel) hS hl rfl rfl (fun r e => by cases e) K
set_option maxRecDepth 20000 in
theorem lk_X7_159 : Cond.fieldLink RX7 159 (TX7 31).1 (TX7 31).2.1 (TX7 31).2.2.1 ∈ gl_T := (gl_T_in (by decide +kernel) (by decide +kernel))
theorem gf_X7_159 {M : gl_M} {x : gl_X} {Z : State → Prop} {pc : Nat} {ls : List (Option Value)} {st : List Value} {S : gl_H} {k : Nat × Nat} {pl : Nat} {fs : List Value} {v : Value} (hM : M.2.1 = RX7) (hd : decode M.1 pc = .ok (.getfield 159, 3)) (hS : S pl = some (.inr (7, fs))) (hv : fs[31]? = some v) (K : GG M x Z (pc + 3) ls (v :: st) S k) : GG M x Z pc ls (.ref pl :: st) S k := gg_get 31 hd igX7 rfl (by decide) (by rw [hM]; exact lk_X7_159) rfl hS hv K
theorem pf_X7_159 {M : gl_M} {x : gl_X} {Z : State → Prop} {pc : Nat} {ls : List (Option Value)} {st : List Value} {S : gl_H} {k : Nat × Nat} {pl : Nat} {fs : List Value} {a : Int32} (hM : M.2.1 = RX7) (hd : decode M.1 pc = .ok (.putfield 159, 3)) (hS : S pl = some (.inr (7, fs))) (hl : 31 < fs.length) (K : GG M x Z (pc + 3) ls st (gl_pu S pl (.inr (7, fs.set 31 (.int a)))) k) : GG M x Z pc ls (.int a :: .ref pl :: st) S k := gg_put (ty0 := tyX7) (ty := .int) 31 hd igX7 tyX7_ok nmX7 rfl (by decide) (by rw [hM]; exact lk_X7_159) rfl rfl (by decide +kernel) hS hl rfl rfl (fun r e => by cases e) K
set_option maxRecDepth 20000 in
theorem lk_X7_168 : Cond.fieldLink RX7 168 (TX7 5).1 (TX7 5).2.1 (TX7 5).2.2.1 ∈ gl_T := (gl_T_in (by decide +kernel) (by decide +kernel))
theorem gf_X7_168 {M : gl_M} {x : gl_X} {Z : State → Prop} {pc : Nat} {ls : List (Option Value)} {st : List Value} {S : gl_H} {k : Nat × Nat} {pl : Nat} {fs : List Value} {v : Value} (hM : M.2.1 = RX7) (hd : decode M.1 pc = .ok (.getfield 168, 3)) (hS : S pl = some (.inr (7, fs))) (hv : fs[5]? = some v) (K : GG M x Z (pc + 3) ls (v :: st) S k) : GG M x Z pc ls (.ref pl :: st) S k := gg_get 5 hd igX7 rfl (by decide) (by rw [hM]; exact lk_X7_168) rfl hS hv K
theorem pf_X7_168 {M : gl_M} {x : gl_X} {Z : State → Prop} {pc : Nat} {ls : List (Option Value)} {st : List Value} {S : gl_H} {k : Nat × Nat} {pl : Nat} {fs : List Value} {a : Int32} (hM : M.2.1 = RX7) (hd : decode M.1 pc = .ok (.putfield 168, 3)) (hS : S pl = some (.inr (7, fs))) (hl : 5 < fs.length) (K : GG M x Z (pc + 3) ls st (gl_pu S pl (.inr (7, fs.set 5 (.int a)))) k) : GG M x Z pc ls (.int a :: .ref pl :: st) S k := gg_put (ty0 := tyX7) (ty := .int) 5 hd igX7 tyX7_ok nmX7 rfl (by decide) (by rw [hM]; exact lk_X7_168) rfl rfl (by decide +kernel) hS hl rfl rfl (fun r e => by cases e) K
set_option maxRecDepth 20000 in
theorem kc_X6_init : Cond.code yX6_init cX6_init 1 none ∈ gl_T := (gl_T_in (by decide +kernel) (by decide +kernel))
theorem kl_X6_init : gl_Lk yX6_init 0 := ⟨by decide +kernel, by decide +kernel, by decide +kernel⟩
set_option maxRecDepth 20000 in
theorem ki_X6_init : Cond.initialized yX6_init.cls ∈ gl_T := (gl_T_in (by decide +kernel) (by decide +kernel))
set_option maxRecDepth 20000 in
theorem kn_X6_init : Cond.instanceMethod yX6_init ∈ gl_T := (gl_T_in (by decide +kernel) (by decide +kernel))
set_option maxRecDepth 20000 in
theorem kw_L_9 : Cond.methodLink RL 9 yX6_init ∈ gl_T ∧ Cond.instanceMethod yX6_init ∈ gl_T ∧ Cond.initialized yX6_init.cls ∈ gl_T ∧ Cond.code yX6_init cX6_init 1 none ∈ gl_T ∧ gl_Lk yX6_init 0 := ⟨(gl_T_in (by decide +kernel) (by decide +kernel)), kn_X6_init, ki_X6_init, kc_X6_init, kl_X6_init⟩
set_option maxRecDepth 20000 in
theorem kc_X7_init : Cond.code yX7_init cX7_init 1 none ∈ gl_T := (gl_T_in (by decide +kernel) (by decide +kernel))
theorem kl_X7_init : gl_Lk yX7_init 0 := ⟨by decide +kernel, by decide +kernel, by decide +kernel⟩
set_option maxRecDepth 20000 in
theorem ki_X7_init : Cond.initialized yX7_init.cls ∈ gl_T := (gl_T_in (by decide +kernel) (by decide +kernel))
set_option maxRecDepth 20000 in
theorem kn_X7_init : Cond.instanceMethod yX7_init ∈ gl_T := (gl_T_in (by decide +kernel) (by decide +kernel))
set_option maxRecDepth 20000 in
theorem kw_L_12 : Cond.methodLink RL 12 yX7_init ∈ gl_T ∧ Cond.instanceMethod yX7_init ∈ gl_T ∧ Cond.initialized yX7_init.cls ∈ gl_T ∧ Cond.code yX7_init cX7_init 1 none ∈ gl_T ∧ gl_Lk yX7_init 0 := ⟨(gl_T_in (by decide +kernel) (by decide +kernel)), kn_X7_init, ki_X7_init, kc_X7_init, kl_X7_init⟩
set_option maxRecDepth 20000 in
theorem kc_X6_feed : Cond.code yX6_feed cX6_feed 6 (some .int) ∈ gl_T := (gl_T_in (by decide +kernel) (by decide +kernel))
theorem kl_X6_feed : gl_Lk yX6_feed 5 := ⟨by decide +kernel, by decide +kernel, by decide +kernel⟩
set_option maxRecDepth 20000 in
theorem ki_X6_feed : Cond.initialized yX6_feed.cls ∈ gl_T := (gl_T_in (by decide +kernel) (by decide +kernel))
set_option maxRecDepth 20000 in
theorem kn_X6_feed : Cond.instanceMethod yX6_feed ∈ gl_T := (gl_T_in (by decide +kernel) (by decide +kernel))
set_option maxRecDepth 20000 in
theorem kv_X6_feed : Cond.selects RX6 yX6_feed yX6_feed ∈ gl_T := (gl_T_in (by decide +kernel) (by decide +kernel))
set_option maxRecDepth 20000 in
theorem kw_L_13 : Cond.methodLink RL 13 yX6_feed ∈ gl_T ∧ Cond.instanceMethod yX6_feed ∈ gl_T ∧ Cond.selects RX6 yX6_feed yX6_feed ∈ gl_T ∧ Cond.initialized yX6_feed.cls ∈ gl_T ∧ Cond.code yX6_feed cX6_feed 6 (some .int) ∈ gl_T ∧ gl_Lk yX6_feed 5 := ⟨(gl_T_in (by decide +kernel) (by decide +kernel)), kn_X6_feed, kv_X6_feed, ki_X6_feed, kc_X6_feed, kl_X6_feed⟩
set_option maxRecDepth 20000 in
theorem kc_X7_feed : Cond.code yX7_feed cX7_feed 6 (some .int) ∈ gl_T := (gl_T_in (by decide +kernel) (by decide +kernel))
theorem kl_X7_feed : gl_Lk yX7_feed 5 := ⟨by decide +kernel, by decide +kernel, by decide +kernel⟩
set_option maxRecDepth 20000 in
theorem ki_X7_feed : Cond.initialized yX7_feed.cls ∈ gl_T := (gl_T_in (by decide +kernel) (by decide +kernel))
set_option maxRecDepth 20000 in
theorem kn_X7_feed : Cond.instanceMethod yX7_feed ∈ gl_T := (gl_T_in (by decide +kernel) (by decide +kernel))
set_option maxRecDepth 20000 in
theorem kv_X7_feed : Cond.selects RX7 yX7_feed yX7_feed ∈ gl_T := (gl_T_in (by decide +kernel) (by decide +kernel))
set_option maxRecDepth 20000 in
theorem kw_L_17 : Cond.methodLink RL 17 yX7_feed ∈ gl_T ∧ Cond.instanceMethod yX7_feed ∈ gl_T ∧ Cond.selects RX7 yX7_feed yX7_feed ∈ gl_T ∧ Cond.initialized yX7_feed.cls ∈ gl_T ∧ Cond.code yX7_feed cX7_feed 6 (some .int) ∈ gl_T ∧ gl_Lk yX7_feed 5 := ⟨(gl_T_in (by decide +kernel) (by decide +kernel)), kn_X7_feed, kv_X7_feed, ki_X7_feed, kc_X7_feed, kl_X7_feed⟩
set_option maxRecDepth 20000 in
theorem kc_X6_rules : Cond.code yX6_rules cX6_rules 3 (some .int) ∈ gl_T := (gl_T_in (by decide +kernel) (by decide +kernel))
theorem kl_X6_rules : gl_Lk yX6_rules 1 := ⟨by decide +kernel, by decide +kernel, by decide +kernel⟩
set_option maxRecDepth 20000 in
theorem ki_X6_rules : Cond.initialized yX6_rules.cls ∈ gl_T := (gl_T_in (by decide +kernel) (by decide +kernel))
set_option maxRecDepth 20000 in
theorem kn_X6_rules : Cond.instanceMethod yX6_rules ∈ gl_T := (gl_T_in (by decide +kernel) (by decide +kernel))
set_option maxRecDepth 20000 in
theorem kv_X6_rules : Cond.selects RX6 yX6_rules yX6_rules ∈ gl_T := (gl_T_in (by decide +kernel) (by decide +kernel))
set_option maxRecDepth 20000 in
theorem kw_L_18 : Cond.methodLink RL 18 yX6_rules ∈ gl_T ∧ Cond.instanceMethod yX6_rules ∈ gl_T ∧ Cond.selects RX6 yX6_rules yX6_rules ∈ gl_T ∧ Cond.initialized yX6_rules.cls ∈ gl_T ∧ Cond.code yX6_rules cX6_rules 3 (some .int) ∈ gl_T ∧ gl_Lk yX6_rules 1 := ⟨(gl_T_in (by decide +kernel) (by decide +kernel)), kn_X6_rules, kv_X6_rules, ki_X6_rules, kc_X6_rules, kl_X6_rules⟩
set_option maxRecDepth 20000 in
theorem kc_X7_rules : Cond.code yX7_rules cX7_rules 4 (some .int) ∈ gl_T := (gl_T_in (by decide +kernel) (by decide +kernel))
theorem kl_X7_rules : gl_Lk yX7_rules 1 := ⟨by decide +kernel, by decide +kernel, by decide +kernel⟩
set_option maxRecDepth 20000 in
theorem ki_X7_rules : Cond.initialized yX7_rules.cls ∈ gl_T := (gl_T_in (by decide +kernel) (by decide +kernel))
set_option maxRecDepth 20000 in
theorem kn_X7_rules : Cond.instanceMethod yX7_rules ∈ gl_T := (gl_T_in (by decide +kernel) (by decide +kernel))
set_option maxRecDepth 20000 in
theorem kv_X7_rules : Cond.selects RX7 yX7_rules yX7_rules ∈ gl_T := (gl_T_in (by decide +kernel) (by decide +kernel))
set_option maxRecDepth 20000 in
theorem kw_L_22 : Cond.methodLink RL 22 yX7_rules ∈ gl_T ∧ Cond.instanceMethod yX7_rules ∈ gl_T ∧ Cond.selects RX7 yX7_rules yX7_rules ∈ gl_T ∧ Cond.initialized yX7_rules.cls ∈ gl_T ∧ Cond.code yX7_rules cX7_rules 4 (some .int) ∈ gl_T ∧ gl_Lk yX7_rules 1 := ⟨(gl_T_in (by decide +kernel) (by decide +kernel)), kn_X7_rules, kv_X7_rules, ki_X7_rules, kc_X7_rules, kl_X7_rules⟩
set_option maxRecDepth 20000 in
theorem kc_X6_teacher : Cond.code yX6_teacher cX6_teacher 4 (some .int) ∈ gl_T := (gl_T_in (by decide +kernel) (by decide +kernel))
theorem kl_X6_teacher : gl_Lk yX6_teacher 3 := ⟨by decide +kernel, by decide +kernel, by decide +kernel⟩
set_option maxRecDepth 20000 in
theorem ki_X6_teacher : Cond.initialized yX6_teacher.cls ∈ gl_T := (gl_T_in (by decide +kernel) (by decide +kernel))
set_option maxRecDepth 20000 in
theorem kn_X6_teacher : Cond.instanceMethod yX6_teacher ∈ gl_T := (gl_T_in (by decide +kernel) (by decide +kernel))
set_option maxRecDepth 20000 in
theorem kv_X6_teacher : Cond.selects RX6 yX6_teacher yX6_teacher ∈ gl_T := (gl_T_in (by decide +kernel) (by decide +kernel))
set_option maxRecDepth 20000 in
theorem kw_L_23 : Cond.methodLink RL 23 yX6_teacher ∈ gl_T ∧ Cond.instanceMethod yX6_teacher ∈ gl_T ∧ Cond.selects RX6 yX6_teacher yX6_teacher ∈ gl_T ∧ Cond.initialized yX6_teacher.cls ∈ gl_T ∧ Cond.code yX6_teacher cX6_teacher 4 (some .int) ∈ gl_T ∧ gl_Lk yX6_teacher 3 := ⟨(gl_T_in (by decide +kernel) (by decide +kernel)), kn_X6_teacher, kv_X6_teacher, ki_X6_teacher, kc_X6_teacher, kl_X6_teacher⟩
set_option maxRecDepth 20000 in
theorem kc_X7_teacher : Cond.code yX7_teacher cX7_teacher 5 (some .int) ∈ gl_T := (gl_T_in (by decide +kernel) (by decide +kernel))
theorem kl_X7_teacher : gl_Lk yX7_teacher 3 := ⟨by decide +kernel, by decide +kernel, by decide +kernel⟩
set_option maxRecDepth 20000 in
theorem ki_X7_teacher : Cond.initialized yX7_teacher.cls ∈ gl_T := (gl_T_in (by decide +kernel) (by decide +kernel))
set_option maxRecDepth 20000 in
theorem kn_X7_teacher : Cond.instanceMethod yX7_teacher ∈ gl_T := (gl_T_in (by decide +kernel) (by decide +kernel))
set_option maxRecDepth 20000 in
theorem kv_X7_teacher : Cond.selects RX7 yX7_teacher yX7_teacher ∈ gl_T := (gl_T_in (by decide +kernel) (by decide +kernel))
set_option maxRecDepth 20000 in
theorem kw_L_27 : Cond.methodLink RL 27 yX7_teacher ∈ gl_T ∧ Cond.instanceMethod yX7_teacher ∈ gl_T ∧ Cond.selects RX7 yX7_teacher yX7_teacher ∈ gl_T ∧ Cond.initialized yX7_teacher.cls ∈ gl_T ∧ Cond.code yX7_teacher cX7_teacher 5 (some .int) ∈ gl_T ∧ gl_Lk yX7_teacher 3 := ⟨(gl_T_in (by decide +kernel) (by decide +kernel)), kn_X7_teacher, kv_X7_teacher, ki_X7_teacher, kc_X7_teacher, kl_X7_teacher⟩
set_option maxRecDepth 20000 in
theorem kc_X6_way : Cond.code yX6_way cX6_way 5 (some .boolean) ∈ gl_T := (gl_T_in (by decide +kernel) (by decide +kernel))
theorem kl_X6_way : gl_Lk yX6_way 3 := ⟨by decide +kernel, by decide +kernel, by decide +kernel⟩
set_option maxRecDepth 20000 in
theorem ki_X6_way : Cond.initialized yX6_way.cls ∈ gl_T := (gl_T_in (by decide +kernel) (by decide +kernel))
set_option maxRecDepth 20000 in
theorem kn_X6_way : Cond.instanceMethod yX6_way ∈ gl_T := (gl_T_in (by decide +kernel) (by decide +kernel))
set_option maxRecDepth 20000 in
theorem kv_X6_way : Cond.selects RX6 yX6_way yX6_way ∈ gl_T := (gl_T_in (by decide +kernel) (by decide +kernel))
set_option maxRecDepth 20000 in
theorem kw_L_28 : Cond.methodLink RL 28 yX6_way ∈ gl_T ∧ Cond.instanceMethod yX6_way ∈ gl_T ∧ Cond.selects RX6 yX6_way yX6_way ∈ gl_T ∧ Cond.initialized yX6_way.cls ∈ gl_T ∧ Cond.code yX6_way cX6_way 5 (some .boolean) ∈ gl_T ∧ gl_Lk yX6_way 3 := ⟨(gl_T_in (by decide +kernel) (by decide +kernel)), kn_X6_way, kv_X6_way, ki_X6_way, kc_X6_way, kl_X6_way⟩
set_option maxRecDepth 20000 in
theorem kc_X7_way : Cond.code yX7_way cX7_way 4 (some .boolean) ∈ gl_T := (gl_T_in (by decide +kernel) (by decide +kernel))
theorem kl_X7_way : gl_Lk yX7_way 3 := ⟨by decide +kernel, by decide +kernel, by decide +kernel⟩
set_option maxRecDepth 20000 in
theorem ki_X7_way : Cond.initialized yX7_way.cls ∈ gl_T := (gl_T_in (by decide +kernel) (by decide +kernel))
set_option maxRecDepth 20000 in
theorem kn_X7_way : Cond.instanceMethod yX7_way ∈ gl_T := (gl_T_in (by decide +kernel) (by decide +kernel))
set_option maxRecDepth 20000 in
theorem kv_X7_way : Cond.selects RX7 yX7_way yX7_way ∈ gl_T := (gl_T_in (by decide +kernel) (by decide +kernel))
set_option maxRecDepth 20000 in
theorem kw_L_32 : Cond.methodLink RL 32 yX7_way ∈ gl_T ∧ Cond.instanceMethod yX7_way ∈ gl_T ∧ Cond.selects RX7 yX7_way yX7_way ∈ gl_T ∧ Cond.initialized yX7_way.cls ∈ gl_T ∧ Cond.code yX7_way cX7_way 4 (some .boolean) ∈ gl_T ∧ gl_Lk yX7_way 3 := ⟨(gl_T_in (by decide +kernel) (by decide +kernel)), kn_X7_way, kv_X7_way, ki_X7_way, kc_X7_way, kl_X7_way⟩
set_option maxRecDepth 20000 in
theorem kc_X6_likes : Cond.code yX6_likes cX6_likes 5 (some .boolean) ∈ gl_T := (gl_T_in (by decide +kernel) (by decide +kernel))
theorem kl_X6_likes : gl_Lk yX6_likes 3 := ⟨by decide +kernel, by decide +kernel, by decide +kernel⟩
set_option maxRecDepth 20000 in
theorem ki_X6_likes : Cond.initialized yX6_likes.cls ∈ gl_T := (gl_T_in (by decide +kernel) (by decide +kernel))
set_option maxRecDepth 20000 in
theorem kn_X6_likes : Cond.instanceMethod yX6_likes ∈ gl_T := (gl_T_in (by decide +kernel) (by decide +kernel))
set_option maxRecDepth 20000 in
theorem kv_X6_likes : Cond.selects RX6 yX6_likes yX6_likes ∈ gl_T := (gl_T_in (by decide +kernel) (by decide +kernel))
set_option maxRecDepth 20000 in
theorem kw_L_33 : Cond.methodLink RL 33 yX6_likes ∈ gl_T ∧ Cond.instanceMethod yX6_likes ∈ gl_T ∧ Cond.selects RX6 yX6_likes yX6_likes ∈ gl_T ∧ Cond.initialized yX6_likes.cls ∈ gl_T ∧ Cond.code yX6_likes cX6_likes 5 (some .boolean) ∈ gl_T ∧ gl_Lk yX6_likes 3 := ⟨(gl_T_in (by decide +kernel) (by decide +kernel)), kn_X6_likes, kv_X6_likes, ki_X6_likes, kc_X6_likes, kl_X6_likes⟩
set_option maxRecDepth 20000 in
theorem kc_X7_likes : Cond.code yX7_likes cX7_likes 4 (some .boolean) ∈ gl_T := (gl_T_in (by decide +kernel) (by decide +kernel))
theorem kl_X7_likes : gl_Lk yX7_likes 3 := ⟨by decide +kernel, by decide +kernel, by decide +kernel⟩
set_option maxRecDepth 20000 in
theorem ki_X7_likes : Cond.initialized yX7_likes.cls ∈ gl_T := (gl_T_in (by decide +kernel) (by decide +kernel))
set_option maxRecDepth 20000 in
theorem kn_X7_likes : Cond.instanceMethod yX7_likes ∈ gl_T := (gl_T_in (by decide +kernel) (by decide +kernel))
set_option maxRecDepth 20000 in
theorem kv_X7_likes : Cond.selects RX7 yX7_likes yX7_likes ∈ gl_T := (gl_T_in (by decide +kernel) (by decide +kernel))
set_option maxRecDepth 20000 in
theorem kw_L_36 : Cond.methodLink RL 36 yX7_likes ∈ gl_T ∧ Cond.instanceMethod yX7_likes ∈ gl_T ∧ Cond.selects RX7 yX7_likes yX7_likes ∈ gl_T ∧ Cond.initialized yX7_likes.cls ∈ gl_T ∧ Cond.code yX7_likes cX7_likes 4 (some .boolean) ∈ gl_T ∧ gl_Lk yX7_likes 3 := ⟨(gl_T_in (by decide +kernel) (by decide +kernel)), kn_X7_likes, kv_X7_likes, ki_X7_likes, kc_X7_likes, kl_X7_likes⟩
set_option maxRecDepth 20000 in
theorem kc_X6_gap : Cond.code yX6_gap cX6_gap 6 (some .int) ∈ gl_T := (gl_T_in (by decide +kernel) (by decide +kernel))
theorem kl_X6_gap : gl_Lk yX6_gap 5 := ⟨by decide +kernel, by decide +kernel, by decide +kernel⟩
set_option maxRecDepth 20000 in
theorem ki_X6_gap : Cond.initialized yX6_gap.cls ∈ gl_T := (gl_T_in (by decide +kernel) (by decide +kernel))
set_option maxRecDepth 20000 in
theorem kn_X6_gap : Cond.instanceMethod yX6_gap ∈ gl_T := (gl_T_in (by decide +kernel) (by decide +kernel))
set_option maxRecDepth 20000 in
theorem kv_X6_gap : Cond.selects RX6 yX6_gap yX6_gap ∈ gl_T := (gl_T_in (by decide +kernel) (by decide +kernel))
set_option maxRecDepth 20000 in
theorem kw_L_37 : Cond.methodLink RL 37 yX6_gap ∈ gl_T ∧ Cond.instanceMethod yX6_gap ∈ gl_T ∧ Cond.selects RX6 yX6_gap yX6_gap ∈ gl_T ∧ Cond.initialized yX6_gap.cls ∈ gl_T ∧ Cond.code yX6_gap cX6_gap 6 (some .int) ∈ gl_T ∧ gl_Lk yX6_gap 5 := ⟨(gl_T_in (by decide +kernel) (by decide +kernel)), kn_X6_gap, kv_X6_gap, ki_X6_gap, kc_X6_gap, kl_X6_gap⟩
set_option maxRecDepth 20000 in
theorem kc_X7_gap : Cond.code yX7_gap cX7_gap 6 (some .int) ∈ gl_T := (gl_T_in (by decide +kernel) (by decide +kernel))
theorem kl_X7_gap : gl_Lk yX7_gap 5 := ⟨by decide +kernel, by decide +kernel, by decide +kernel⟩
set_option maxRecDepth 20000 in
theorem ki_X7_gap : Cond.initialized yX7_gap.cls ∈ gl_T := (gl_T_in (by decide +kernel) (by decide +kernel))
set_option maxRecDepth 20000 in
theorem kn_X7_gap : Cond.instanceMethod yX7_gap ∈ gl_T := (gl_T_in (by decide +kernel) (by decide +kernel))
set_option maxRecDepth 20000 in
theorem kv_X7_gap : Cond.selects RX7 yX7_gap yX7_gap ∈ gl_T := (gl_T_in (by decide +kernel) (by decide +kernel))
set_option maxRecDepth 20000 in
theorem kw_L_40 : Cond.methodLink RL 40 yX7_gap ∈ gl_T ∧ Cond.instanceMethod yX7_gap ∈ gl_T ∧ Cond.selects RX7 yX7_gap yX7_gap ∈ gl_T ∧ Cond.initialized yX7_gap.cls ∈ gl_T ∧ Cond.code yX7_gap cX7_gap 6 (some .int) ∈ gl_T ∧ gl_Lk yX7_gap 5 := ⟨(gl_T_in (by decide +kernel) (by decide +kernel)), kn_X7_gap, kv_X7_gap, ki_X7_gap, kc_X7_gap, kl_X7_gap⟩
set_option maxRecDepth 20000 in
theorem kc_X6_can : Cond.code yX6_can cX6_can 5 (some .int) ∈ gl_T := (gl_T_in (by decide +kernel) (by decide +kernel))
theorem kl_X6_can : gl_Lk yX6_can 2 := ⟨by decide +kernel, by decide +kernel, by decide +kernel⟩
set_option maxRecDepth 20000 in
theorem ki_X6_can : Cond.initialized yX6_can.cls ∈ gl_T := (gl_T_in (by decide +kernel) (by decide +kernel))
set_option maxRecDepth 20000 in
theorem kn_X6_can : Cond.instanceMethod yX6_can ∈ gl_T := (gl_T_in (by decide +kernel) (by decide +kernel))
set_option maxRecDepth 20000 in
theorem kv_X6_can : Cond.selects RX6 yX6_can yX6_can ∈ gl_T := (gl_T_in (by decide +kernel) (by decide +kernel))
set_option maxRecDepth 20000 in
theorem kw_L_41 : Cond.methodLink RL 41 yX6_can ∈ gl_T ∧ Cond.instanceMethod yX6_can ∈ gl_T ∧ Cond.selects RX6 yX6_can yX6_can ∈ gl_T ∧ Cond.initialized yX6_can.cls ∈ gl_T ∧ Cond.code yX6_can cX6_can 5 (some .int) ∈ gl_T ∧ gl_Lk yX6_can 2 := ⟨(gl_T_in (by decide +kernel) (by decide +kernel)), kn_X6_can, kv_X6_can, ki_X6_can, kc_X6_can, kl_X6_can⟩
set_option maxRecDepth 20000 in
theorem kc_X7_can : Cond.code yX7_can cX7_can 3 (some .int) ∈ gl_T := (gl_T_in (by decide +kernel) (by decide +kernel))
theorem kl_X7_can : gl_Lk yX7_can 2 := ⟨by decide +kernel, by decide +kernel, by decide +kernel⟩
set_option maxRecDepth 20000 in
theorem ki_X7_can : Cond.initialized yX7_can.cls ∈ gl_T := (gl_T_in (by decide +kernel) (by decide +kernel))
set_option maxRecDepth 20000 in
theorem kn_X7_can : Cond.instanceMethod yX7_can ∈ gl_T := (gl_T_in (by decide +kernel) (by decide +kernel))
set_option maxRecDepth 20000 in
theorem kv_X7_can : Cond.selects RX7 yX7_can yX7_can ∈ gl_T := (gl_T_in (by decide +kernel) (by decide +kernel))
set_option maxRecDepth 20000 in
theorem kw_L_45 : Cond.methodLink RL 45 yX7_can ∈ gl_T ∧ Cond.instanceMethod yX7_can ∈ gl_T ∧ Cond.selects RX7 yX7_can yX7_can ∈ gl_T ∧ Cond.initialized yX7_can.cls ∈ gl_T ∧ Cond.code yX7_can cX7_can 3 (some .int) ∈ gl_T ∧ gl_Lk yX7_can 2 := ⟨(gl_T_in (by decide +kernel) (by decide +kernel)), kn_X7_can, kv_X7_can, ki_X7_can, kc_X7_can, kl_X7_can⟩
set_option maxRecDepth 20000 in
theorem kc_X6_cost : Cond.code yX6_cost cX6_cost 5 (some .int) ∈ gl_T := (gl_T_in (by decide +kernel) (by decide +kernel))
theorem kl_X6_cost : gl_Lk yX6_cost 2 := ⟨by decide +kernel, by decide +kernel, by decide +kernel⟩
set_option maxRecDepth 20000 in
theorem ki_X6_cost : Cond.initialized yX6_cost.cls ∈ gl_T := (gl_T_in (by decide +kernel) (by decide +kernel))
set_option maxRecDepth 20000 in
theorem kn_X6_cost : Cond.instanceMethod yX6_cost ∈ gl_T := (gl_T_in (by decide +kernel) (by decide +kernel))
set_option maxRecDepth 20000 in
theorem kv_X6_cost : Cond.selects RX6 yX6_cost yX6_cost ∈ gl_T := (gl_T_in (by decide +kernel) (by decide +kernel))
set_option maxRecDepth 20000 in
theorem kw_L_46 : Cond.methodLink RL 46 yX6_cost ∈ gl_T ∧ Cond.instanceMethod yX6_cost ∈ gl_T ∧ Cond.selects RX6 yX6_cost yX6_cost ∈ gl_T ∧ Cond.initialized yX6_cost.cls ∈ gl_T ∧ Cond.code yX6_cost cX6_cost 5 (some .int) ∈ gl_T ∧ gl_Lk yX6_cost 2 := ⟨(gl_T_in (by decide +kernel) (by decide +kernel)), kn_X6_cost, kv_X6_cost, ki_X6_cost, kc_X6_cost, kl_X6_cost⟩
set_option maxRecDepth 20000 in
theorem kc_X7_cost : Cond.code yX7_cost cX7_cost 3 (some .int) ∈ gl_T := (gl_T_in (by decide +kernel) (by decide +kernel))
theorem kl_X7_cost : gl_Lk yX7_cost 2 := ⟨by decide +kernel, by decide +kernel, by decide +kernel⟩
set_option maxRecDepth 20000 in
theorem ki_X7_cost : Cond.initialized yX7_cost.cls ∈ gl_T := (gl_T_in (by decide +kernel) (by decide +kernel))
set_option maxRecDepth 20000 in
theorem kn_X7_cost : Cond.instanceMethod yX7_cost ∈ gl_T := (gl_T_in (by decide +kernel) (by decide +kernel))
set_option maxRecDepth 20000 in
theorem kv_X7_cost : Cond.selects RX7 yX7_cost yX7_cost ∈ gl_T := (gl_T_in (by decide +kernel) (by decide +kernel))
set_option maxRecDepth 20000 in
theorem kw_L_49 : Cond.methodLink RL 49 yX7_cost ∈ gl_T ∧ Cond.instanceMethod yX7_cost ∈ gl_T ∧ Cond.selects RX7 yX7_cost yX7_cost ∈ gl_T ∧ Cond.initialized yX7_cost.cls ∈ gl_T ∧ Cond.code yX7_cost cX7_cost 3 (some .int) ∈ gl_T ∧ gl_Lk yX7_cost 2 := ⟨(gl_T_in (by decide +kernel) (by decide +kernel)), kn_X7_cost, kv_X7_cost, ki_X7_cost, kc_X7_cost, kl_X7_cost⟩
set_option maxRecDepth 20000 in
theorem kc_X6_match : Cond.code yX6_match cX6_match 1 (some .int) ∈ gl_T := (gl_T_in (by decide +kernel) (by decide +kernel))
theorem kl_X6_match : gl_Lk yX6_match 0 := ⟨by decide +kernel, by decide +kernel, by decide +kernel⟩
set_option maxRecDepth 20000 in
theorem ki_X6_match : Cond.initialized yX6_match.cls ∈ gl_T := (gl_T_in (by decide +kernel) (by decide +kernel))
set_option maxRecDepth 20000 in
theorem kn_X6_match : Cond.instanceMethod yX6_match ∈ gl_T := (gl_T_in (by decide +kernel) (by decide +kernel))
set_option maxRecDepth 20000 in
theorem kv_X6_match : Cond.selects RX6 yX6_match yX6_match ∈ gl_T := (gl_T_in (by decide +kernel) (by decide +kernel))
set_option maxRecDepth 20000 in
theorem kw_L_50 : Cond.methodLink RL 50 yX6_match ∈ gl_T ∧ Cond.instanceMethod yX6_match ∈ gl_T ∧ Cond.selects RX6 yX6_match yX6_match ∈ gl_T ∧ Cond.initialized yX6_match.cls ∈ gl_T ∧ Cond.code yX6_match cX6_match 1 (some .int) ∈ gl_T ∧ gl_Lk yX6_match 0 := ⟨(gl_T_in (by decide +kernel) (by decide +kernel)), kn_X6_match, kv_X6_match, ki_X6_match, kc_X6_match, kl_X6_match⟩
set_option maxRecDepth 20000 in
theorem kc_X7_match : Cond.code yX7_match cX7_match 1 (some .int) ∈ gl_T := (gl_T_in (by decide +kernel) (by decide +kernel))
theorem kl_X7_match : gl_Lk yX7_match 0 := ⟨by decide +kernel, by decide +kernel, by decide +kernel⟩
set_option maxRecDepth 20000 in
theorem ki_X7_match : Cond.initialized yX7_match.cls ∈ gl_T := (gl_T_in (by decide +kernel) (by decide +kernel))
set_option maxRecDepth 20000 in
theorem kn_X7_match : Cond.instanceMethod yX7_match ∈ gl_T := (gl_T_in (by decide +kernel) (by decide +kernel))
set_option maxRecDepth 20000 in
theorem kv_X7_match : Cond.selects RX7 yX7_match yX7_match ∈ gl_T := (gl_T_in (by decide +kernel) (by decide +kernel))
set_option maxRecDepth 20000 in
theorem kw_L_54 : Cond.methodLink RL 54 yX7_match ∈ gl_T ∧ Cond.instanceMethod yX7_match ∈ gl_T ∧ Cond.selects RX7 yX7_match yX7_match ∈ gl_T ∧ Cond.initialized yX7_match.cls ∈ gl_T ∧ Cond.code yX7_match cX7_match 1 (some .int) ∈ gl_T ∧ gl_Lk yX7_match 0 := ⟨(gl_T_in (by decide +kernel) (by decide +kernel)), kn_X7_match, kv_X7_match, ki_X7_match, kc_X7_match, kl_X7_match⟩
set_option maxRecDepth 20000 in
theorem kc_X6_costs : Cond.code yX6_costs cX6_costs 1 (some .int) ∈ gl_T := (gl_T_in (by decide +kernel) (by decide +kernel))
theorem kl_X6_costs : gl_Lk yX6_costs 0 := ⟨by decide +kernel, by decide +kernel, by decide +kernel⟩
set_option maxRecDepth 20000 in
theorem ki_X6_costs : Cond.initialized yX6_costs.cls ∈ gl_T := (gl_T_in (by decide +kernel) (by decide +kernel))
set_option maxRecDepth 20000 in
theorem kn_X6_costs : Cond.instanceMethod yX6_costs ∈ gl_T := (gl_T_in (by decide +kernel) (by decide +kernel))
set_option maxRecDepth 20000 in
theorem kv_X6_costs : Cond.selects RX6 yX6_costs yX6_costs ∈ gl_T := (gl_T_in (by decide +kernel) (by decide +kernel))
set_option maxRecDepth 20000 in
theorem kw_L_55 : Cond.methodLink RL 55 yX6_costs ∈ gl_T ∧ Cond.instanceMethod yX6_costs ∈ gl_T ∧ Cond.selects RX6 yX6_costs yX6_costs ∈ gl_T ∧ Cond.initialized yX6_costs.cls ∈ gl_T ∧ Cond.code yX6_costs cX6_costs 1 (some .int) ∈ gl_T ∧ gl_Lk yX6_costs 0 := ⟨(gl_T_in (by decide +kernel) (by decide +kernel)), kn_X6_costs, kv_X6_costs, ki_X6_costs, kc_X6_costs, kl_X6_costs⟩
set_option maxRecDepth 20000 in
theorem kc_X7_costs : Cond.code yX7_costs cX7_costs 1 (some .int) ∈ gl_T := (gl_T_in (by decide +kernel) (by decide +kernel))
theorem kl_X7_costs : gl_Lk yX7_costs 0 := ⟨by decide +kernel, by decide +kernel, by decide +kernel⟩
set_option maxRecDepth 20000 in
theorem ki_X7_costs : Cond.initialized yX7_costs.cls ∈ gl_T := (gl_T_in (by decide +kernel) (by decide +kernel))
set_option maxRecDepth 20000 in
theorem kn_X7_costs : Cond.instanceMethod yX7_costs ∈ gl_T := (gl_T_in (by decide +kernel) (by decide +kernel))
set_option maxRecDepth 20000 in
theorem kv_X7_costs : Cond.selects RX7 yX7_costs yX7_costs ∈ gl_T := (gl_T_in (by decide +kernel) (by decide +kernel))
set_option maxRecDepth 20000 in
theorem kw_L_58 : Cond.methodLink RL 58 yX7_costs ∈ gl_T ∧ Cond.instanceMethod yX7_costs ∈ gl_T ∧ Cond.selects RX7 yX7_costs yX7_costs ∈ gl_T ∧ Cond.initialized yX7_costs.cls ∈ gl_T ∧ Cond.code yX7_costs cX7_costs 1 (some .int) ∈ gl_T ∧ gl_Lk yX7_costs 0 := ⟨(gl_T_in (by decide +kernel) (by decide +kernel)), kn_X7_costs, kv_X7_costs, ki_X7_costs, kc_X7_costs, kl_X7_costs⟩
set_option maxRecDepth 20000 in
theorem kc_X6_who : Cond.code yX6_who cX6_who 3 (some .int) ∈ gl_T := (gl_T_in (by decide +kernel) (by decide +kernel))
theorem kl_X6_who : gl_Lk yX6_who 1 := ⟨by decide +kernel, by decide +kernel, by decide +kernel⟩
set_option maxRecDepth 20000 in
theorem ki_X6_who : Cond.initialized yX6_who.cls ∈ gl_T := (gl_T_in (by decide +kernel) (by decide +kernel))
set_option maxRecDepth 20000 in
theorem kn_X6_who : Cond.instanceMethod yX6_who ∈ gl_T := (gl_T_in (by decide +kernel) (by decide +kernel))
set_option maxRecDepth 20000 in
theorem kv_X6_who : Cond.selects RX6 yX6_who yX6_who ∈ gl_T := (gl_T_in (by decide +kernel) (by decide +kernel))
set_option maxRecDepth 20000 in
theorem kw_L_59 : Cond.methodLink RL 59 yX6_who ∈ gl_T ∧ Cond.instanceMethod yX6_who ∈ gl_T ∧ Cond.selects RX6 yX6_who yX6_who ∈ gl_T ∧ Cond.initialized yX6_who.cls ∈ gl_T ∧ Cond.code yX6_who cX6_who 3 (some .int) ∈ gl_T ∧ gl_Lk yX6_who 1 := ⟨(gl_T_in (by decide +kernel) (by decide +kernel)), kn_X6_who, kv_X6_who, ki_X6_who, kc_X6_who, kl_X6_who⟩
set_option maxRecDepth 20000 in
theorem kc_X7_who : Cond.code yX7_who cX7_who 3 (some .int) ∈ gl_T := (gl_T_in (by decide +kernel) (by decide +kernel))
theorem kl_X7_who : gl_Lk yX7_who 1 := ⟨by decide +kernel, by decide +kernel, by decide +kernel⟩
set_option maxRecDepth 20000 in
theorem ki_X7_who : Cond.initialized yX7_who.cls ∈ gl_T := (gl_T_in (by decide +kernel) (by decide +kernel))
set_option maxRecDepth 20000 in
theorem kn_X7_who : Cond.instanceMethod yX7_who ∈ gl_T := (gl_T_in (by decide +kernel) (by decide +kernel))
set_option maxRecDepth 20000 in
theorem kv_X7_who : Cond.selects RX7 yX7_who yX7_who ∈ gl_T := (gl_T_in (by decide +kernel) (by decide +kernel))
set_option maxRecDepth 20000 in
theorem kw_L_62 : Cond.methodLink RL 62 yX7_who ∈ gl_T ∧ Cond.instanceMethod yX7_who ∈ gl_T ∧ Cond.selects RX7 yX7_who yX7_who ∈ gl_T ∧ Cond.initialized yX7_who.cls ∈ gl_T ∧ Cond.code yX7_who cX7_who 3 (some .int) ∈ gl_T ∧ gl_Lk yX7_who 1 := ⟨(gl_T_in (by decide +kernel) (by decide +kernel)), kn_X7_who, kv_X7_who, ki_X7_who, kc_X7_who, kl_X7_who⟩
set_option maxRecDepth 20000 in
theorem kc_X6_next : Cond.code yX6_next cX6_next 3 (some .int) ∈ gl_T := (gl_T_in (by decide +kernel) (by decide +kernel))
theorem kl_X6_next : gl_Lk yX6_next 0 := ⟨by decide +kernel, by decide +kernel, by decide +kernel⟩
set_option maxRecDepth 20000 in
theorem ki_X6_next : Cond.initialized yX6_next.cls ∈ gl_T := (gl_T_in (by decide +kernel) (by decide +kernel))
set_option maxRecDepth 20000 in
theorem kn_X6_next : Cond.instanceMethod yX6_next ∈ gl_T := (gl_T_in (by decide +kernel) (by decide +kernel))
set_option maxRecDepth 20000 in
theorem kv_X6_next : Cond.selects RX6 yX6_next yX6_next ∈ gl_T := (gl_T_in (by decide +kernel) (by decide +kernel))
set_option maxRecDepth 20000 in
theorem kw_L_63 : Cond.methodLink RL 63 yX6_next ∈ gl_T ∧ Cond.instanceMethod yX6_next ∈ gl_T ∧ Cond.selects RX6 yX6_next yX6_next ∈ gl_T ∧ Cond.initialized yX6_next.cls ∈ gl_T ∧ Cond.code yX6_next cX6_next 3 (some .int) ∈ gl_T ∧ gl_Lk yX6_next 0 := ⟨(gl_T_in (by decide +kernel) (by decide +kernel)), kn_X6_next, kv_X6_next, ki_X6_next, kc_X6_next, kl_X6_next⟩
set_option maxRecDepth 20000 in
theorem kc_X7_next : Cond.code yX7_next cX7_next 3 (some .int) ∈ gl_T := (gl_T_in (by decide +kernel) (by decide +kernel))
theorem kl_X7_next : gl_Lk yX7_next 0 := ⟨by decide +kernel, by decide +kernel, by decide +kernel⟩
set_option maxRecDepth 20000 in
theorem ki_X7_next : Cond.initialized yX7_next.cls ∈ gl_T := (gl_T_in (by decide +kernel) (by decide +kernel))
set_option maxRecDepth 20000 in
theorem kn_X7_next : Cond.instanceMethod yX7_next ∈ gl_T := (gl_T_in (by decide +kernel) (by decide +kernel))
set_option maxRecDepth 20000 in
theorem kv_X7_next : Cond.selects RX7 yX7_next yX7_next ∈ gl_T := (gl_T_in (by decide +kernel) (by decide +kernel))
set_option maxRecDepth 20000 in
theorem kw_L_66 : Cond.methodLink RL 66 yX7_next ∈ gl_T ∧ Cond.instanceMethod yX7_next ∈ gl_T ∧ Cond.selects RX7 yX7_next yX7_next ∈ gl_T ∧ Cond.initialized yX7_next.cls ∈ gl_T ∧ Cond.code yX7_next cX7_next 3 (some .int) ∈ gl_T ∧ gl_Lk yX7_next 0 := ⟨(gl_T_in (by decide +kernel) (by decide +kernel)), kn_X7_next, kv_X7_next, ki_X7_next, kc_X7_next, kl_X7_next⟩
set_option maxRecDepth 20000 in
theorem kc_X6_answer : Cond.code yX6_answer cX6_answer 5 (some .boolean) ∈ gl_T := (gl_T_in (by decide +kernel) (by decide +kernel))
theorem kl_X6_answer : gl_Lk yX6_answer 2 := ⟨by decide +kernel, by decide +kernel, by decide +kernel⟩
set_option maxRecDepth 20000 in
theorem ki_X6_answer : Cond.initialized yX6_answer.cls ∈ gl_T := (gl_T_in (by decide +kernel) (by decide +kernel))
set_option maxRecDepth 20000 in
theorem kn_X6_answer : Cond.instanceMethod yX6_answer ∈ gl_T := (gl_T_in (by decide +kernel) (by decide +kernel))
set_option maxRecDepth 20000 in
theorem kv_X6_answer : Cond.selects RX6 yX6_answer yX6_answer ∈ gl_T := (gl_T_in (by decide +kernel) (by decide +kernel))
set_option maxRecDepth 20000 in
theorem kw_L_67 : Cond.methodLink RL 67 yX6_answer ∈ gl_T ∧ Cond.instanceMethod yX6_answer ∈ gl_T ∧ Cond.selects RX6 yX6_answer yX6_answer ∈ gl_T ∧ Cond.initialized yX6_answer.cls ∈ gl_T ∧ Cond.code yX6_answer cX6_answer 5 (some .boolean) ∈ gl_T ∧ gl_Lk yX6_answer 2 := ⟨(gl_T_in (by decide +kernel) (by decide +kernel)), kn_X6_answer, kv_X6_answer, ki_X6_answer, kc_X6_answer, kl_X6_answer⟩
set_option maxRecDepth 20000 in
theorem kc_X7_answer : Cond.code yX7_answer cX7_answer 5 (some .boolean) ∈ gl_T := (gl_T_in (by decide +kernel) (by decide +kernel))
theorem kl_X7_answer : gl_Lk yX7_answer 2 := ⟨by decide +kernel, by decide +kernel, by decide +kernel⟩
set_option maxRecDepth 20000 in
theorem ki_X7_answer : Cond.initialized yX7_answer.cls ∈ gl_T := (gl_T_in (by decide +kernel) (by decide +kernel))
set_option maxRecDepth 20000 in
theorem kn_X7_answer : Cond.instanceMethod yX7_answer ∈ gl_T := (gl_T_in (by decide +kernel) (by decide +kernel))
set_option maxRecDepth 20000 in
theorem kv_X7_answer : Cond.selects RX7 yX7_answer yX7_answer ∈ gl_T := (gl_T_in (by decide +kernel) (by decide +kernel))
set_option maxRecDepth 20000 in
theorem kw_L_71 : Cond.methodLink RL 71 yX7_answer ∈ gl_T ∧ Cond.instanceMethod yX7_answer ∈ gl_T ∧ Cond.selects RX7 yX7_answer yX7_answer ∈ gl_T ∧ Cond.initialized yX7_answer.cls ∈ gl_T ∧ Cond.code yX7_answer cX7_answer 5 (some .boolean) ∈ gl_T ∧ gl_Lk yX7_answer 2 := ⟨(gl_T_in (by decide +kernel) (by decide +kernel)), kn_X7_answer, kv_X7_answer, ki_X7_answer, kc_X7_answer, kl_X7_answer⟩
set_option maxRecDepth 20000 in
theorem kc_X6_hall : Cond.code yX6_hall cX6_hall 1 (some .int) ∈ gl_T := (gl_T_in (by decide +kernel) (by decide +kernel))
theorem kl_X6_hall : gl_Lk yX6_hall 0 := ⟨by decide +kernel, by decide +kernel, by decide +kernel⟩
set_option maxRecDepth 20000 in
theorem ki_X6_hall : Cond.initialized yX6_hall.cls ∈ gl_T := (gl_T_in (by decide +kernel) (by decide +kernel))
set_option maxRecDepth 20000 in
theorem kn_X6_hall : Cond.instanceMethod yX6_hall ∈ gl_T := (gl_T_in (by decide +kernel) (by decide +kernel))
set_option maxRecDepth 20000 in
theorem kv_X6_hall : Cond.selects RX6 yX6_hall yX6_hall ∈ gl_T := (gl_T_in (by decide +kernel) (by decide +kernel))
set_option maxRecDepth 20000 in
theorem kw_L_72 : Cond.methodLink RL 72 yX6_hall ∈ gl_T ∧ Cond.instanceMethod yX6_hall ∈ gl_T ∧ Cond.selects RX6 yX6_hall yX6_hall ∈ gl_T ∧ Cond.initialized yX6_hall.cls ∈ gl_T ∧ Cond.code yX6_hall cX6_hall 1 (some .int) ∈ gl_T ∧ gl_Lk yX6_hall 0 := ⟨(gl_T_in (by decide +kernel) (by decide +kernel)), kn_X6_hall, kv_X6_hall, ki_X6_hall, kc_X6_hall, kl_X6_hall⟩
set_option maxRecDepth 20000 in
theorem kc_X7_hall : Cond.code yX7_hall cX7_hall 8 (some .int) ∈ gl_T := (gl_T_in (by decide +kernel) (by decide +kernel))
theorem kl_X7_hall : gl_Lk yX7_hall 0 := ⟨by decide +kernel, by decide +kernel, by decide +kernel⟩
set_option maxRecDepth 20000 in
theorem ki_X7_hall : Cond.initialized yX7_hall.cls ∈ gl_T := (gl_T_in (by decide +kernel) (by decide +kernel))
set_option maxRecDepth 20000 in
theorem kn_X7_hall : Cond.instanceMethod yX7_hall ∈ gl_T := (gl_T_in (by decide +kernel) (by decide +kernel))
set_option maxRecDepth 20000 in
theorem kv_X7_hall : Cond.selects RX7 yX7_hall yX7_hall ∈ gl_T := (gl_T_in (by decide +kernel) (by decide +kernel))
set_option maxRecDepth 20000 in
theorem kw_L_75 : Cond.methodLink RL 75 yX7_hall ∈ gl_T ∧ Cond.instanceMethod yX7_hall ∈ gl_T ∧ Cond.selects RX7 yX7_hall yX7_hall ∈ gl_T ∧ Cond.initialized yX7_hall.cls ∈ gl_T ∧ Cond.code yX7_hall cX7_hall 8 (some .int) ∈ gl_T ∧ gl_Lk yX7_hall 0 := ⟨(gl_T_in (by decide +kernel) (by decide +kernel)), kn_X7_hall, kv_X7_hall, ki_X7_hall, kc_X7_hall, kl_X7_hall⟩
set_option maxRecDepth 20000 in
theorem kc_X6_day : Cond.code yX6_day cX6_day 2 (some .int) ∈ gl_T := (gl_T_in (by decide +kernel) (by decide +kernel))
theorem kl_X6_day : gl_Lk yX6_day 0 := ⟨by decide +kernel, by decide +kernel, by decide +kernel⟩
set_option maxRecDepth 20000 in
theorem ki_X6_day : Cond.initialized yX6_day.cls ∈ gl_T := (gl_T_in (by decide +kernel) (by decide +kernel))
set_option maxRecDepth 20000 in
theorem kn_X6_day : Cond.instanceMethod yX6_day ∈ gl_T := (gl_T_in (by decide +kernel) (by decide +kernel))
set_option maxRecDepth 20000 in
theorem kv_X6_day : Cond.selects RX6 yX6_day yX6_day ∈ gl_T := (gl_T_in (by decide +kernel) (by decide +kernel))
set_option maxRecDepth 20000 in
theorem kw_L_76 : Cond.methodLink RL 76 yX6_day ∈ gl_T ∧ Cond.instanceMethod yX6_day ∈ gl_T ∧ Cond.selects RX6 yX6_day yX6_day ∈ gl_T ∧ Cond.initialized yX6_day.cls ∈ gl_T ∧ Cond.code yX6_day cX6_day 2 (some .int) ∈ gl_T ∧ gl_Lk yX6_day 0 := ⟨(gl_T_in (by decide +kernel) (by decide +kernel)), kn_X6_day, kv_X6_day, ki_X6_day, kc_X6_day, kl_X6_day⟩
set_option maxRecDepth 20000 in
theorem kc_X7_day : Cond.code yX7_day cX7_day 2 (some .int) ∈ gl_T := (gl_T_in (by decide +kernel) (by decide +kernel))
theorem kl_X7_day : gl_Lk yX7_day 0 := ⟨by decide +kernel, by decide +kernel, by decide +kernel⟩
set_option maxRecDepth 20000 in
theorem ki_X7_day : Cond.initialized yX7_day.cls ∈ gl_T := (gl_T_in (by decide +kernel) (by decide +kernel))
set_option maxRecDepth 20000 in
theorem kn_X7_day : Cond.instanceMethod yX7_day ∈ gl_T := (gl_T_in (by decide +kernel) (by decide +kernel))
set_option maxRecDepth 20000 in
theorem kv_X7_day : Cond.selects RX7 yX7_day yX7_day ∈ gl_T := (gl_T_in (by decide +kernel) (by decide +kernel))
set_option maxRecDepth 20000 in
theorem kw_L_79 : Cond.methodLink RL 79 yX7_day ∈ gl_T ∧ Cond.instanceMethod yX7_day ∈ gl_T ∧ Cond.selects RX7 yX7_day yX7_day ∈ gl_T ∧ Cond.initialized yX7_day.cls ∈ gl_T ∧ Cond.code yX7_day cX7_day 2 (some .int) ∈ gl_T ∧ gl_Lk yX7_day 0 := ⟨(gl_T_in (by decide +kernel) (by decide +kernel)), kn_X7_day, kv_X7_day, ki_X7_day, kc_X7_day, kl_X7_day⟩
set_option maxRecDepth 20000 in
theorem kc_X6_pay : Cond.code yX6_pay cX6_pay 3 (some .long) ∈ gl_T := (gl_T_in (by decide +kernel) (by decide +kernel))
theorem kl_X6_pay : gl_Lk yX6_pay 1 := ⟨by decide +kernel, by decide +kernel, by decide +kernel⟩
set_option maxRecDepth 20000 in
theorem ki_X6_pay : Cond.initialized yX6_pay.cls ∈ gl_T := (gl_T_in (by decide +kernel) (by decide +kernel))
set_option maxRecDepth 20000 in
theorem kn_X6_pay : Cond.instanceMethod yX6_pay ∈ gl_T := (gl_T_in (by decide +kernel) (by decide +kernel))
set_option maxRecDepth 20000 in
theorem kv_X6_pay : Cond.selects RX6 yX6_pay yX6_pay ∈ gl_T := (gl_T_in (by decide +kernel) (by decide +kernel))
set_option maxRecDepth 20000 in
theorem kw_L_80 : Cond.methodLink RL 80 yX6_pay ∈ gl_T ∧ Cond.instanceMethod yX6_pay ∈ gl_T ∧ Cond.selects RX6 yX6_pay yX6_pay ∈ gl_T ∧ Cond.initialized yX6_pay.cls ∈ gl_T ∧ Cond.code yX6_pay cX6_pay 3 (some .long) ∈ gl_T ∧ gl_Lk yX6_pay 1 := ⟨(gl_T_in (by decide +kernel) (by decide +kernel)), kn_X6_pay, kv_X6_pay, ki_X6_pay, kc_X6_pay, kl_X6_pay⟩
set_option maxRecDepth 20000 in
theorem kc_X7_pay : Cond.code yX7_pay cX7_pay 2 (some .long) ∈ gl_T := (gl_T_in (by decide +kernel) (by decide +kernel))
theorem kl_X7_pay : gl_Lk yX7_pay 1 := ⟨by decide +kernel, by decide +kernel, by decide +kernel⟩
set_option maxRecDepth 20000 in
theorem ki_X7_pay : Cond.initialized yX7_pay.cls ∈ gl_T := (gl_T_in (by decide +kernel) (by decide +kernel))
set_option maxRecDepth 20000 in
theorem kn_X7_pay : Cond.instanceMethod yX7_pay ∈ gl_T := (gl_T_in (by decide +kernel) (by decide +kernel))
set_option maxRecDepth 20000 in
theorem kv_X7_pay : Cond.selects RX7 yX7_pay yX7_pay ∈ gl_T := (gl_T_in (by decide +kernel) (by decide +kernel))
set_option maxRecDepth 20000 in
theorem kw_L_84 : Cond.methodLink RL 84 yX7_pay ∈ gl_T ∧ Cond.instanceMethod yX7_pay ∈ gl_T ∧ Cond.selects RX7 yX7_pay yX7_pay ∈ gl_T ∧ Cond.initialized yX7_pay.cls ∈ gl_T ∧ Cond.code yX7_pay cX7_pay 2 (some .long) ∈ gl_T ∧ gl_Lk yX7_pay 1 := ⟨(gl_T_in (by decide +kernel) (by decide +kernel)), kn_X7_pay, kv_X7_pay, ki_X7_pay, kc_X7_pay, kl_X7_pay⟩
set_option maxRecDepth 20000 in
theorem kc_X6_strangers : Cond.code yX6_strangers cX6_strangers 3 (some .int) ∈ gl_T := (gl_T_in (by decide +kernel) (by decide +kernel))
theorem kl_X6_strangers : gl_Lk yX6_strangers 2 := ⟨by decide +kernel, by decide +kernel, by decide +kernel⟩
set_option maxRecDepth 20000 in
theorem ki_X6_strangers : Cond.initialized yX6_strangers.cls ∈ gl_T := (gl_T_in (by decide +kernel) (by decide +kernel))
set_option maxRecDepth 20000 in
theorem kn_X6_strangers : Cond.instanceMethod yX6_strangers ∈ gl_T := (gl_T_in (by decide +kernel) (by decide +kernel))
set_option maxRecDepth 20000 in
theorem kv_X6_strangers : Cond.selects RX6 yX6_strangers yX6_strangers ∈ gl_T := (gl_T_in (by decide +kernel) (by decide +kernel))
set_option maxRecDepth 20000 in
theorem kw_L_85 : Cond.methodLink RL 85 yX6_strangers ∈ gl_T ∧ Cond.instanceMethod yX6_strangers ∈ gl_T ∧ Cond.selects RX6 yX6_strangers yX6_strangers ∈ gl_T ∧ Cond.initialized yX6_strangers.cls ∈ gl_T ∧ Cond.code yX6_strangers cX6_strangers 3 (some .int) ∈ gl_T ∧ gl_Lk yX6_strangers 2 := ⟨(gl_T_in (by decide +kernel) (by decide +kernel)), kn_X6_strangers, kv_X6_strangers, ki_X6_strangers, kc_X6_strangers, kl_X6_strangers⟩
set_option maxRecDepth 20000 in
theorem kc_X7_strangers : Cond.code yX7_strangers cX7_strangers 5 (some .int) ∈ gl_T := (gl_T_in (by decide +kernel) (by decide +kernel))
theorem kl_X7_strangers : gl_Lk yX7_strangers 2 := ⟨by decide +kernel, by decide +kernel, by decide +kernel⟩
set_option maxRecDepth 20000 in
theorem ki_X7_strangers : Cond.initialized yX7_strangers.cls ∈ gl_T := (gl_T_in (by decide +kernel) (by decide +kernel))
set_option maxRecDepth 20000 in
theorem kn_X7_strangers : Cond.instanceMethod yX7_strangers ∈ gl_T := (gl_T_in (by decide +kernel) (by decide +kernel))
set_option maxRecDepth 20000 in
theorem kv_X7_strangers : Cond.selects RX7 yX7_strangers yX7_strangers ∈ gl_T := (gl_T_in (by decide +kernel) (by decide +kernel))
set_option maxRecDepth 20000 in
theorem kw_L_88 : Cond.methodLink RL 88 yX7_strangers ∈ gl_T ∧ Cond.instanceMethod yX7_strangers ∈ gl_T ∧ Cond.selects RX7 yX7_strangers yX7_strangers ∈ gl_T ∧ Cond.initialized yX7_strangers.cls ∈ gl_T ∧ Cond.code yX7_strangers cX7_strangers 5 (some .int) ∈ gl_T ∧ gl_Lk yX7_strangers 2 := ⟨(gl_T_in (by decide +kernel) (by decide +kernel)), kn_X7_strangers, kv_X7_strangers, ki_X7_strangers, kc_X7_strangers, kl_X7_strangers⟩
set_option maxRecDepth 20000 in
theorem kc_X6_look : Cond.code yX6_look cX6_look 4 (some .int) ∈ gl_T := (gl_T_in (by decide +kernel) (by decide +kernel))
theorem kl_X6_look : gl_Lk yX6_look 2 := ⟨by decide +kernel, by decide +kernel, by decide +kernel⟩
set_option maxRecDepth 20000 in
theorem ki_X6_look : Cond.initialized yX6_look.cls ∈ gl_T := (gl_T_in (by decide +kernel) (by decide +kernel))
set_option maxRecDepth 20000 in
theorem kn_X6_look : Cond.instanceMethod yX6_look ∈ gl_T := (gl_T_in (by decide +kernel) (by decide +kernel))
set_option maxRecDepth 20000 in
theorem kv_X6_look : Cond.selects RX6 yX6_look yX6_look ∈ gl_T := (gl_T_in (by decide +kernel) (by decide +kernel))
set_option maxRecDepth 20000 in
theorem kw_L_89 : Cond.methodLink RL 89 yX6_look ∈ gl_T ∧ Cond.instanceMethod yX6_look ∈ gl_T ∧ Cond.selects RX6 yX6_look yX6_look ∈ gl_T ∧ Cond.initialized yX6_look.cls ∈ gl_T ∧ Cond.code yX6_look cX6_look 4 (some .int) ∈ gl_T ∧ gl_Lk yX6_look 2 := ⟨(gl_T_in (by decide +kernel) (by decide +kernel)), kn_X6_look, kv_X6_look, ki_X6_look, kc_X6_look, kl_X6_look⟩
set_option maxRecDepth 20000 in
theorem kc_X7_look : Cond.code yX7_look cX7_look 3 (some .int) ∈ gl_T := (gl_T_in (by decide +kernel) (by decide +kernel))
theorem kl_X7_look : gl_Lk yX7_look 2 := ⟨by decide +kernel, by decide +kernel, by decide +kernel⟩
set_option maxRecDepth 20000 in
theorem ki_X7_look : Cond.initialized yX7_look.cls ∈ gl_T := (gl_T_in (by decide +kernel) (by decide +kernel))
set_option maxRecDepth 20000 in
theorem kn_X7_look : Cond.instanceMethod yX7_look ∈ gl_T := (gl_T_in (by decide +kernel) (by decide +kernel))
set_option maxRecDepth 20000 in
theorem kv_X7_look : Cond.selects RX7 yX7_look yX7_look ∈ gl_T := (gl_T_in (by decide +kernel) (by decide +kernel))
set_option maxRecDepth 20000 in
theorem kw_L_92 : Cond.methodLink RL 92 yX7_look ∈ gl_T ∧ Cond.instanceMethod yX7_look ∈ gl_T ∧ Cond.selects RX7 yX7_look yX7_look ∈ gl_T ∧ Cond.initialized yX7_look.cls ∈ gl_T ∧ Cond.code yX7_look cX7_look 3 (some .int) ∈ gl_T ∧ gl_Lk yX7_look 2 := ⟨(gl_T_in (by decide +kernel) (by decide +kernel)), kn_X7_look, kv_X7_look, ki_X7_look, kc_X7_look, kl_X7_look⟩
set_option maxRecDepth 20000 in
theorem kc_X6_about : Cond.code yX6_about cX6_about 4 (some .int) ∈ gl_T := (gl_T_in (by decide +kernel) (by decide +kernel))
theorem kl_X6_about : gl_Lk yX6_about 2 := ⟨by decide +kernel, by decide +kernel, by decide +kernel⟩
set_option maxRecDepth 20000 in
theorem ki_X6_about : Cond.initialized yX6_about.cls ∈ gl_T := (gl_T_in (by decide +kernel) (by decide +kernel))
set_option maxRecDepth 20000 in
theorem kn_X6_about : Cond.instanceMethod yX6_about ∈ gl_T := (gl_T_in (by decide +kernel) (by decide +kernel))
set_option maxRecDepth 20000 in
theorem kv_X6_about : Cond.selects RX6 yX6_about yX6_about ∈ gl_T := (gl_T_in (by decide +kernel) (by decide +kernel))
set_option maxRecDepth 20000 in
theorem kw_L_93 : Cond.methodLink RL 93 yX6_about ∈ gl_T ∧ Cond.instanceMethod yX6_about ∈ gl_T ∧ Cond.selects RX6 yX6_about yX6_about ∈ gl_T ∧ Cond.initialized yX6_about.cls ∈ gl_T ∧ Cond.code yX6_about cX6_about 4 (some .int) ∈ gl_T ∧ gl_Lk yX6_about 2 := ⟨(gl_T_in (by decide +kernel) (by decide +kernel)), kn_X6_about, kv_X6_about, ki_X6_about, kc_X6_about, kl_X6_about⟩
set_option maxRecDepth 20000 in
theorem kc_X7_about : Cond.code yX7_about cX7_about 3 (some .int) ∈ gl_T := (gl_T_in (by decide +kernel) (by decide +kernel))
theorem kl_X7_about : gl_Lk yX7_about 2 := ⟨by decide +kernel, by decide +kernel, by decide +kernel⟩
set_option maxRecDepth 20000 in
theorem ki_X7_about : Cond.initialized yX7_about.cls ∈ gl_T := (gl_T_in (by decide +kernel) (by decide +kernel))
set_option maxRecDepth 20000 in
theorem kn_X7_about : Cond.instanceMethod yX7_about ∈ gl_T := (gl_T_in (by decide +kernel) (by decide +kernel))
set_option maxRecDepth 20000 in
theorem kv_X7_about : Cond.selects RX7 yX7_about yX7_about ∈ gl_T := (gl_T_in (by decide +kernel) (by decide +kernel))
set_option maxRecDepth 20000 in
theorem kw_L_96 : Cond.methodLink RL 96 yX7_about ∈ gl_T ∧ Cond.instanceMethod yX7_about ∈ gl_T ∧ Cond.selects RX7 yX7_about yX7_about ∈ gl_T ∧ Cond.initialized yX7_about.cls ∈ gl_T ∧ Cond.code yX7_about cX7_about 3 (some .int) ∈ gl_T ∧ gl_Lk yX7_about 2 := ⟨(gl_T_in (by decide +kernel) (by decide +kernel)), kn_X7_about, kv_X7_about, ki_X7_about, kc_X7_about, kl_X7_about⟩
set_option maxRecDepth 20000 in
theorem kc_X6_count : Cond.code yX6_count cX6_count 2 (some .int) ∈ gl_T := (gl_T_in (by decide +kernel) (by decide +kernel))
theorem kl_X6_count : gl_Lk yX6_count 1 := ⟨by decide +kernel, by decide +kernel, by decide +kernel⟩
set_option maxRecDepth 20000 in
theorem ki_X6_count : Cond.initialized yX6_count.cls ∈ gl_T := (gl_T_in (by decide +kernel) (by decide +kernel))
set_option maxRecDepth 20000 in
theorem kn_X6_count : Cond.instanceMethod yX6_count ∈ gl_T := (gl_T_in (by decide +kernel) (by decide +kernel))
set_option maxRecDepth 20000 in
theorem kv_X6_count : Cond.selects RX6 yX6_count yX6_count ∈ gl_T := (gl_T_in (by decide +kernel) (by decide +kernel))
set_option maxRecDepth 20000 in
theorem kw_L_97 : Cond.methodLink RL 97 yX6_count ∈ gl_T ∧ Cond.instanceMethod yX6_count ∈ gl_T ∧ Cond.selects RX6 yX6_count yX6_count ∈ gl_T ∧ Cond.initialized yX6_count.cls ∈ gl_T ∧ Cond.code yX6_count cX6_count 2 (some .int) ∈ gl_T ∧ gl_Lk yX6_count 1 := ⟨(gl_T_in (by decide +kernel) (by decide +kernel)), kn_X6_count, kv_X6_count, ki_X6_count, kc_X6_count, kl_X6_count⟩
set_option maxRecDepth 20000 in
theorem kc_X7_count : Cond.code yX7_count cX7_count 2 (some .int) ∈ gl_T := (gl_T_in (by decide +kernel) (by decide +kernel))
theorem kl_X7_count : gl_Lk yX7_count 1 := ⟨by decide +kernel, by decide +kernel, by decide +kernel⟩
set_option maxRecDepth 20000 in
theorem ki_X7_count : Cond.initialized yX7_count.cls ∈ gl_T := (gl_T_in (by decide +kernel) (by decide +kernel))
set_option maxRecDepth 20000 in
theorem kn_X7_count : Cond.instanceMethod yX7_count ∈ gl_T := (gl_T_in (by decide +kernel) (by decide +kernel))
set_option maxRecDepth 20000 in
theorem kv_X7_count : Cond.selects RX7 yX7_count yX7_count ∈ gl_T := (gl_T_in (by decide +kernel) (by decide +kernel))
set_option maxRecDepth 20000 in
theorem kw_L_100 : Cond.methodLink RL 100 yX7_count ∈ gl_T ∧ Cond.instanceMethod yX7_count ∈ gl_T ∧ Cond.selects RX7 yX7_count yX7_count ∈ gl_T ∧ Cond.initialized yX7_count.cls ∈ gl_T ∧ Cond.code yX7_count cX7_count 2 (some .int) ∈ gl_T ∧ gl_Lk yX7_count 1 := ⟨(gl_T_in (by decide +kernel) (by decide +kernel)), kn_X7_count, kv_X7_count, ki_X7_count, kc_X7_count, kl_X7_count⟩
set_option maxRecDepth 20000 in
theorem kw_X0_1 : Cond.methodLink RX0 1 Lib.objectInit ∈ gl_T ∧ Cond.instanceMethod Lib.objectInit ∈ gl_T ∧ Cond.code Lib.objectInit ⟨#[0xb1]⟩ 1 none ∈ gl_T := ⟨(gl_T_in (by decide +kernel) (by decide +kernel)), (gl_T_in (by decide +kernel) (by decide +kernel)), (gl_T_in (by decide +kernel) (by decide +kernel))⟩
set_option maxRecDepth 20000 in
theorem kw_X1_5 : Cond.methodLink RX1 5 Lib.objectInit ∈ gl_T ∧ Cond.instanceMethod Lib.objectInit ∈ gl_T ∧ Cond.code Lib.objectInit ⟨#[0xb1]⟩ 1 none ∈ gl_T := ⟨(gl_T_in (by decide +kernel) (by decide +kernel)), (gl_T_in (by decide +kernel) (by decide +kernel)), (gl_T_in (by decide +kernel) (by decide +kernel))⟩
set_option maxRecDepth 20000 in
theorem kc_J7_fill_d0a16 : Cond.code yJ7_fill_d0a16 cJ7_fill_d0a16 5 none ∈ gl_T := (gl_T_in (by decide +kernel) (by decide +kernel))
theorem kl_J7_fill_d0a16 : gl_Lk yJ7_fill_d0a16 2 := ⟨by decide +kernel, by decide +kernel, by decide +kernel⟩
set_option maxRecDepth 20000 in
theorem ki_J7_fill_d0a16 : Cond.initialized yJ7_fill_d0a16.cls ∈ gl_T := (gl_T_in (by decide +kernel) (by decide +kernel))
set_option maxRecDepth 20000 in
theorem ks_J7_fill_d0a16 : Cond.static yJ7_fill_d0a16 ∈ gl_T := (gl_T_in (by decide +kernel) (by decide +kernel))
set_option maxRecDepth 20000 in
theorem kw_X1_32 : Cond.methodLink RX1 32 yJ7_fill_d0a16 ∈ gl_T ∧ Cond.static yJ7_fill_d0a16 ∈ gl_T ∧ Cond.initialized yJ7_fill_d0a16.cls ∈ gl_T ∧ Cond.code yJ7_fill_d0a16 cJ7_fill_d0a16 5 none ∈ gl_T ∧ gl_Lk yJ7_fill_d0a16 2 := ⟨(gl_T_in (by decide +kernel) (by decide +kernel)), ks_J7_fill_d0a16, ki_J7_fill_d0a16, kc_J7_fill_d0a16, kl_J7_fill_d0a16⟩
set_option maxRecDepth 20000 in
theorem kc_J7_fill_53178 : Cond.code yJ7_fill_53178 cJ7_fill_53178 4 none ∈ gl_T := (gl_T_in (by decide +kernel) (by decide +kernel))
theorem kl_J7_fill_53178 : gl_Lk yJ7_fill_53178 2 := ⟨by decide +kernel, by decide +kernel, by decide +kernel⟩
set_option maxRecDepth 20000 in
theorem ki_J7_fill_53178 : Cond.initialized yJ7_fill_53178.cls ∈ gl_T := (gl_T_in (by decide +kernel) (by decide +kernel))
set_option maxRecDepth 20000 in
theorem ks_J7_fill_53178 : Cond.static yJ7_fill_53178 ∈ gl_T := (gl_T_in (by decide +kernel) (by decide +kernel))
set_option maxRecDepth 20000 in
theorem kw_X1_38 : Cond.methodLink RX1 38 yJ7_fill_53178 ∈ gl_T ∧ Cond.static yJ7_fill_53178 ∈ gl_T ∧ Cond.initialized yJ7_fill_53178.cls ∈ gl_T ∧ Cond.code yJ7_fill_53178 cJ7_fill_53178 4 none ∈ gl_T ∧ gl_Lk yJ7_fill_53178 2 := ⟨(gl_T_in (by decide +kernel) (by decide +kernel)), ks_J7_fill_53178, ki_J7_fill_53178, kc_J7_fill_53178, kl_J7_fill_53178⟩
set_option maxRecDepth 20000 in
theorem kc_X1_isGap : Cond.code yX1_isGap cX1_isGap 1 (some .boolean) ∈ gl_T := (gl_T_in (by decide +kernel) (by decide +kernel))
theorem kl_X1_isGap : gl_Lk yX1_isGap 1 := ⟨by decide +kernel, by decide +kernel, by decide +kernel⟩
set_option maxRecDepth 20000 in
theorem ki_X1_isGap : Cond.initialized yX1_isGap.cls ∈ gl_T := (gl_T_in (by decide +kernel) (by decide +kernel))
set_option maxRecDepth 20000 in
theorem ks_X1_isGap : Cond.static yX1_isGap ∈ gl_T := (gl_T_in (by decide +kernel) (by decide +kernel))
set_option maxRecDepth 20000 in
theorem kw_X1_48 : Cond.methodLink RX1 48 yX1_isGap ∈ gl_T ∧ Cond.static yX1_isGap ∈ gl_T ∧ Cond.initialized yX1_isGap.cls ∈ gl_T ∧ Cond.code yX1_isGap cX1_isGap 1 (some .boolean) ∈ gl_T ∧ gl_Lk yX1_isGap 1 := ⟨(gl_T_in (by decide +kernel) (by decide +kernel)), ks_X1_isGap, ki_X1_isGap, kc_X1_isGap, kl_X1_isGap⟩
set_option maxRecDepth 20000 in
theorem kc_X1_digit : Cond.code yX1_digit cX1_digit 2 (some .long) ∈ gl_T := (gl_T_in (by decide +kernel) (by decide +kernel))
theorem kl_X1_digit : gl_Lk yX1_digit 2 := ⟨by decide +kernel, by decide +kernel, by decide +kernel⟩
set_option maxRecDepth 20000 in
theorem ki_X1_digit : Cond.initialized yX1_digit.cls ∈ gl_T := (gl_T_in (by decide +kernel) (by decide +kernel))
set_option maxRecDepth 20000 in
theorem ks_X1_digit : Cond.static yX1_digit ∈ gl_T := (gl_T_in (by decide +kernel) (by decide +kernel))
set_option maxRecDepth 20000 in
theorem kw_X1_54 : Cond.methodLink RX1 54 yX1_digit ∈ gl_T ∧ Cond.static yX1_digit ∈ gl_T ∧ Cond.initialized yX1_digit.cls ∈ gl_T ∧ Cond.code yX1_digit cX1_digit 2 (some .long) ∈ gl_T ∧ gl_Lk yX1_digit 2 := ⟨(gl_T_in (by decide +kernel) (by decide +kernel)), ks_X1_digit, ki_X1_digit, kc_X1_digit, kl_X1_digit⟩
set_option maxRecDepth 20000 in
theorem kc_X6_hasBit : Cond.code yX6_hasBit cX6_hasBit 2 (some .boolean) ∈ gl_T := (gl_T_in (by decide +kernel) (by decide +kernel))
theorem kl_X6_hasBit : gl_Lk yX6_hasBit 2 := ⟨by decide +kernel, by decide +kernel, by decide +kernel⟩
set_option maxRecDepth 20000 in
theorem ki_X6_hasBit : Cond.initialized yX6_hasBit.cls ∈ gl_T := (gl_T_in (by decide +kernel) (by decide +kernel))
set_option maxRecDepth 20000 in
theorem ks_X6_hasBit : Cond.static yX6_hasBit ∈ gl_T := (gl_T_in (by decide +kernel) (by decide +kernel))
set_option maxRecDepth 20000 in
theorem kw_X1_58 : Cond.static yX6_hasBit ∈ gl_T ∧ Cond.initialized yX6_hasBit.cls ∈ gl_T ∧ Cond.code yX6_hasBit cX6_hasBit 2 (some .boolean) ∈ gl_T ∧ gl_Lk yX6_hasBit 2 := ⟨ks_X6_hasBit, ki_X6_hasBit, kc_X6_hasBit, kl_X6_hasBit⟩
set_option maxRecDepth 20000 in
theorem kc_X1_bringIn : Cond.code yX1_bringIn cX1_bringIn 8 none ∈ gl_T := (gl_T_in (by decide +kernel) (by decide +kernel))
theorem kl_X1_bringIn : gl_Lk yX1_bringIn 1 := ⟨by decide +kernel, by decide +kernel, by decide +kernel⟩
set_option maxRecDepth 20000 in
theorem ki_X1_bringIn : Cond.initialized yX1_bringIn.cls ∈ gl_T := (gl_T_in (by decide +kernel) (by decide +kernel))
set_option maxRecDepth 20000 in
theorem kn_X1_bringIn : Cond.instanceMethod yX1_bringIn ∈ gl_T := (gl_T_in (by decide +kernel) (by decide +kernel))
set_option maxRecDepth 20000 in
theorem kv_X1_bringIn : Cond.selects RX1 yX1_bringIn yX1_bringIn ∈ gl_T := (gl_T_in (by decide +kernel) (by decide +kernel))
set_option maxRecDepth 20000 in
theorem kw_X1_62 : Cond.methodLink RX1 62 yX1_bringIn ∈ gl_T ∧ Cond.instanceMethod yX1_bringIn ∈ gl_T ∧ Cond.selects RX1 yX1_bringIn yX1_bringIn ∈ gl_T ∧ Cond.initialized yX1_bringIn.cls ∈ gl_T ∧ Cond.code yX1_bringIn cX1_bringIn 8 none ∈ gl_T ∧ gl_Lk yX1_bringIn 1 := ⟨(gl_T_in (by decide +kernel) (by decide +kernel)), kn_X1_bringIn, kv_X1_bringIn, ki_X1_bringIn, kc_X1_bringIn, kl_X1_bringIn⟩
set_option maxRecDepth 20000 in
theorem kc_X1_weightOf : Cond.code yX1_weightOf cX1_weightOf 3 (some .long) ∈ gl_T := (gl_T_in (by decide +kernel) (by decide +kernel))
theorem kl_X1_weightOf : gl_Lk yX1_weightOf 2 := ⟨by decide +kernel, by decide +kernel, by decide +kernel⟩
set_option maxRecDepth 20000 in
theorem ki_X1_weightOf : Cond.initialized yX1_weightOf.cls ∈ gl_T := (gl_T_in (by decide +kernel) (by decide +kernel))
set_option maxRecDepth 20000 in
theorem kn_X1_weightOf : Cond.instanceMethod yX1_weightOf ∈ gl_T := (gl_T_in (by decide +kernel) (by decide +kernel))
set_option maxRecDepth 20000 in
theorem kv_X1_weightOf : Cond.selects RX1 yX1_weightOf yX1_weightOf ∈ gl_T := (gl_T_in (by decide +kernel) (by decide +kernel))
set_option maxRecDepth 20000 in
theorem kw_X1_66 : Cond.methodLink RX1 66 yX1_weightOf ∈ gl_T ∧ Cond.instanceMethod yX1_weightOf ∈ gl_T ∧ Cond.selects RX1 yX1_weightOf yX1_weightOf ∈ gl_T ∧ Cond.initialized yX1_weightOf.cls ∈ gl_T ∧ Cond.code yX1_weightOf cX1_weightOf 3 (some .long) ∈ gl_T ∧ gl_Lk yX1_weightOf 2 := ⟨(gl_T_in (by decide +kernel) (by decide +kernel)), kn_X1_weightOf, kv_X1_weightOf, ki_X1_weightOf, kc_X1_weightOf, kl_X1_weightOf⟩
set_option maxRecDepth 20000 in
theorem kc_J6_bitCount_0f7a4 : Cond.code yJ6_bitCount_0f7a4 cJ6_bitCount_0f7a4 1 (some .int) ∈ gl_T := (gl_T_in (by decide +kernel) (by decide +kernel))
theorem kl_J6_bitCount_0f7a4 : gl_Lk yJ6_bitCount_0f7a4 1 := ⟨by decide +kernel, by decide +kernel, by decide +kernel⟩
set_option maxRecDepth 20000 in
theorem ki_J6_bitCount_0f7a4 : Cond.initialized yJ6_bitCount_0f7a4.cls ∈ gl_T := (gl_T_in (by decide +kernel) (by decide +kernel))
set_option maxRecDepth 20000 in
theorem ks_J6_bitCount_0f7a4 : Cond.static yJ6_bitCount_0f7a4 ∈ gl_T := (gl_T_in (by decide +kernel) (by decide +kernel))
set_option maxRecDepth 20000 in
theorem kw_X1_69 : Cond.methodLink RX1 69 yJ6_bitCount_0f7a4 ∈ gl_T ∧ Cond.static yJ6_bitCount_0f7a4 ∈ gl_T ∧ Cond.initialized yJ6_bitCount_0f7a4.cls ∈ gl_T ∧ Cond.code yJ6_bitCount_0f7a4 cJ6_bitCount_0f7a4 1 (some .int) ∈ gl_T ∧ gl_Lk yJ6_bitCount_0f7a4 1 := ⟨(gl_T_in (by decide +kernel) (by decide +kernel)), ks_J6_bitCount_0f7a4, ki_J6_bitCount_0f7a4, kc_J6_bitCount_0f7a4, kl_J6_bitCount_0f7a4⟩
set_option maxRecDepth 20000 in
theorem kc_X1_takersOf : Cond.code yX1_takersOf cX1_takersOf 4 (some .int) ∈ gl_T := (gl_T_in (by decide +kernel) (by decide +kernel))
theorem kl_X1_takersOf : gl_Lk yX1_takersOf 1 := ⟨by decide +kernel, by decide +kernel, by decide +kernel⟩
set_option maxRecDepth 20000 in
theorem ki_X1_takersOf : Cond.initialized yX1_takersOf.cls ∈ gl_T := (gl_T_in (by decide +kernel) (by decide +kernel))
set_option maxRecDepth 20000 in
theorem kn_X1_takersOf : Cond.instanceMethod yX1_takersOf ∈ gl_T := (gl_T_in (by decide +kernel) (by decide +kernel))
set_option maxRecDepth 20000 in
theorem kv_X1_takersOf : Cond.selects RX1 yX1_takersOf yX1_takersOf ∈ gl_T := (gl_T_in (by decide +kernel) (by decide +kernel))
set_option maxRecDepth 20000 in
theorem kw_X1_75 : Cond.methodLink RX1 75 yX1_takersOf ∈ gl_T ∧ Cond.instanceMethod yX1_takersOf ∈ gl_T ∧ Cond.selects RX1 yX1_takersOf yX1_takersOf ∈ gl_T ∧ Cond.initialized yX1_takersOf.cls ∈ gl_T ∧ Cond.code yX1_takersOf cX1_takersOf 4 (some .int) ∈ gl_T ∧ gl_Lk yX1_takersOf 1 := ⟨(gl_T_in (by decide +kernel) (by decide +kernel)), kn_X1_takersOf, kv_X1_takersOf, ki_X1_takersOf, kc_X1_takersOf, kl_X1_takersOf⟩
set_option maxRecDepth 20000 in
theorem kc_X1_findChains : Cond.code yX1_findChains cX1_findChains 5 none ∈ gl_T := (gl_T_in (by decide +kernel) (by decide +kernel))
theorem kl_X1_findChains : gl_Lk yX1_findChains 1 := ⟨by decide +kernel, by decide +kernel, by decide +kernel⟩
set_option maxRecDepth 20000 in
theorem ki_X1_findChains : Cond.initialized yX1_findChains.cls ∈ gl_T := (gl_T_in (by decide +kernel) (by decide +kernel))
set_option maxRecDepth 20000 in
theorem kn_X1_findChains : Cond.instanceMethod yX1_findChains ∈ gl_T := (gl_T_in (by decide +kernel) (by decide +kernel))
set_option maxRecDepth 20000 in
theorem kv_X1_findChains : Cond.selects RX1 yX1_findChains yX1_findChains ∈ gl_T := (gl_T_in (by decide +kernel) (by decide +kernel))
set_option maxRecDepth 20000 in
theorem kw_X1_78 : Cond.methodLink RX1 78 yX1_findChains ∈ gl_T ∧ Cond.instanceMethod yX1_findChains ∈ gl_T ∧ Cond.selects RX1 yX1_findChains yX1_findChains ∈ gl_T ∧ Cond.initialized yX1_findChains.cls ∈ gl_T ∧ Cond.code yX1_findChains cX1_findChains 5 none ∈ gl_T ∧ gl_Lk yX1_findChains 1 := ⟨(gl_T_in (by decide +kernel) (by decide +kernel)), kn_X1_findChains, kv_X1_findChains, ki_X1_findChains, kc_X1_findChains, kl_X1_findChains⟩
set_option maxRecDepth 20000 in
theorem kc_X1_cheapestEnd : Cond.code yX1_cheapestEnd cX1_cheapestEnd 5 (some .int) ∈ gl_T := (gl_T_in (by decide +kernel) (by decide +kernel))
theorem kl_X1_cheapestEnd : gl_Lk yX1_cheapestEnd 1 := ⟨by decide +kernel, by decide +kernel, by decide +kernel⟩
set_option maxRecDepth 20000 in
theorem ki_X1_cheapestEnd : Cond.initialized yX1_cheapestEnd.cls ∈ gl_T := (gl_T_in (by decide +kernel) (by decide +kernel))
set_option maxRecDepth 20000 in
theorem kn_X1_cheapestEnd : Cond.instanceMethod yX1_cheapestEnd ∈ gl_T := (gl_T_in (by decide +kernel) (by decide +kernel))
set_option maxRecDepth 20000 in
theorem kv_X1_cheapestEnd : Cond.selects RX1 yX1_cheapestEnd yX1_cheapestEnd ∈ gl_T := (gl_T_in (by decide +kernel) (by decide +kernel))
set_option maxRecDepth 20000 in
theorem kw_X1_83 : Cond.methodLink RX1 83 yX1_cheapestEnd ∈ gl_T ∧ Cond.instanceMethod yX1_cheapestEnd ∈ gl_T ∧ Cond.selects RX1 yX1_cheapestEnd yX1_cheapestEnd ∈ gl_T ∧ Cond.initialized yX1_cheapestEnd.cls ∈ gl_T ∧ Cond.code yX1_cheapestEnd cX1_cheapestEnd 5 (some .int) ∈ gl_T ∧ gl_Lk yX1_cheapestEnd 1 := ⟨(gl_T_in (by decide +kernel) (by decide +kernel)), kn_X1_cheapestEnd, kv_X1_cheapestEnd, ki_X1_cheapestEnd, kc_X1_cheapestEnd, kl_X1_cheapestEnd⟩
set_option maxRecDepth 20000 in
theorem kc_X1_shiftAlong : Cond.code yX1_shiftAlong cX1_shiftAlong 8 none ∈ gl_T := (gl_T_in (by decide +kernel) (by decide +kernel))
theorem kl_X1_shiftAlong : gl_Lk yX1_shiftAlong 3 := ⟨by decide +kernel, by decide +kernel, by decide +kernel⟩
set_option maxRecDepth 20000 in
theorem ki_X1_shiftAlong : Cond.initialized yX1_shiftAlong.cls ∈ gl_T := (gl_T_in (by decide +kernel) (by decide +kernel))
set_option maxRecDepth 20000 in
theorem kn_X1_shiftAlong : Cond.instanceMethod yX1_shiftAlong ∈ gl_T := (gl_T_in (by decide +kernel) (by decide +kernel))
set_option maxRecDepth 20000 in
theorem kv_X1_shiftAlong : Cond.selects RX1 yX1_shiftAlong yX1_shiftAlong ∈ gl_T := (gl_T_in (by decide +kernel) (by decide +kernel))
set_option maxRecDepth 20000 in
theorem kw_X1_86 : Cond.methodLink RX1 86 yX1_shiftAlong ∈ gl_T ∧ Cond.instanceMethod yX1_shiftAlong ∈ gl_T ∧ Cond.selects RX1 yX1_shiftAlong yX1_shiftAlong ∈ gl_T ∧ Cond.initialized yX1_shiftAlong.cls ∈ gl_T ∧ Cond.code yX1_shiftAlong cX1_shiftAlong 8 none ∈ gl_T ∧ gl_Lk yX1_shiftAlong 3 := ⟨(gl_T_in (by decide +kernel) (by decide +kernel)), kn_X1_shiftAlong, kv_X1_shiftAlong, ki_X1_shiftAlong, kc_X1_shiftAlong, kl_X1_shiftAlong⟩
set_option maxRecDepth 20000 in
theorem kc_X1_lengthenChains : Cond.code yX1_lengthenChains cX1_lengthenChains 8 (some .boolean) ∈ gl_T := (gl_T_in (by decide +kernel) (by decide +kernel))
theorem kl_X1_lengthenChains : gl_Lk yX1_lengthenChains 2 := ⟨by decide +kernel, by decide +kernel, by decide +kernel⟩
set_option maxRecDepth 20000 in
theorem ki_X1_lengthenChains : Cond.initialized yX1_lengthenChains.cls ∈ gl_T := (gl_T_in (by decide +kernel) (by decide +kernel))
set_option maxRecDepth 20000 in
theorem kn_X1_lengthenChains : Cond.instanceMethod yX1_lengthenChains ∈ gl_T := (gl_T_in (by decide +kernel) (by decide +kernel))
set_option maxRecDepth 20000 in
theorem kv_X1_lengthenChains : Cond.selects RX1 yX1_lengthenChains yX1_lengthenChains ∈ gl_T := (gl_T_in (by decide +kernel) (by decide +kernel))
set_option maxRecDepth 20000 in
theorem kw_X1_90 : Cond.methodLink RX1 90 yX1_lengthenChains ∈ gl_T ∧ Cond.instanceMethod yX1_lengthenChains ∈ gl_T ∧ Cond.selects RX1 yX1_lengthenChains yX1_lengthenChains ∈ gl_T ∧ Cond.initialized yX1_lengthenChains.cls ∈ gl_T ∧ Cond.code yX1_lengthenChains cX1_lengthenChains 8 (some .boolean) ∈ gl_T ∧ gl_Lk yX1_lengthenChains 2 := ⟨(gl_T_in (by decide +kernel) (by decide +kernel)), kn_X1_lengthenChains, kv_X1_lengthenChains, ki_X1_lengthenChains, kc_X1_lengthenChains, kl_X1_lengthenChains⟩
set_option maxRecDepth 20000 in
theorem kw_X2_3 : Cond.methodLink RX2 3 Lib.objectInit ∈ gl_T ∧ Cond.instanceMethod Lib.objectInit ∈ gl_T ∧ Cond.code Lib.objectInit ⟨#[0xb1]⟩ 1 none ∈ gl_T := ⟨(gl_T_in (by decide +kernel) (by decide +kernel)), (gl_T_in (by decide +kernel) (by decide +kernel)), (gl_T_in (by decide +kernel) (by decide +kernel))⟩
set_option maxRecDepth 20000 in
theorem kw_X2_21 : Cond.methodLink RX2 21 arraycopyName ∈ gl_T ∧ Cond.native arraycopyName ∈ gl_T ∧ Cond.static arraycopyName ∈ gl_T ∧ Cond.initialized "java/lang/System" ∈ gl_T := ⟨(gl_T_in (by decide +kernel) (by decide +kernel)), (gl_T_in (by decide +kernel) (by decide +kernel)), (gl_T_in (by decide +kernel) (by decide +kernel)), (gl_T_in (by decide +kernel) (by decide +kernel))⟩
set_option maxRecDepth 20000 in
theorem kc_X2_readClause : Cond.code yX2_readClause cX2_readClause 6 (some .int) ∈ gl_T := (gl_T_in (by decide +kernel) (by decide +kernel))
theorem kl_X2_readClause : gl_Lk yX2_readClause 2 := ⟨by decide +kernel, by decide +kernel, by decide +kernel⟩
set_option maxRecDepth 20000 in
theorem ki_X2_readClause : Cond.initialized yX2_readClause.cls ∈ gl_T := (gl_T_in (by decide +kernel) (by decide +kernel))
set_option maxRecDepth 20000 in
theorem kn_X2_readClause : Cond.instanceMethod yX2_readClause ∈ gl_T := (gl_T_in (by decide +kernel) (by decide +kernel))
set_option maxRecDepth 20000 in
theorem kv_X2_readClause : Cond.selects RX2 yX2_readClause yX2_readClause ∈ gl_T := (gl_T_in (by decide +kernel) (by decide +kernel))
set_option maxRecDepth 20000 in
theorem kw_X2_31 : Cond.methodLink RX2 31 yX2_readClause ∈ gl_T ∧ Cond.instanceMethod yX2_readClause ∈ gl_T ∧ Cond.selects RX2 yX2_readClause yX2_readClause ∈ gl_T ∧ Cond.initialized yX2_readClause.cls ∈ gl_T ∧ Cond.code yX2_readClause cX2_readClause 6 (some .int) ∈ gl_T ∧ gl_Lk yX2_readClause 2 := ⟨(gl_T_in (by decide +kernel) (by decide +kernel)), kn_X2_readClause, kv_X2_readClause, ki_X2_readClause, kc_X2_readClause, kl_X2_readClause⟩
set_option maxRecDepth 20000 in
theorem kc_X3_signAt : Cond.code yX3_signAt cX3_signAt 3 (some .int) ∈ gl_T := (gl_T_in (by decide +kernel) (by decide +kernel))
theorem kl_X3_signAt : gl_Lk yX3_signAt 2 := ⟨by decide +kernel, by decide +kernel, by decide +kernel⟩
set_option maxRecDepth 20000 in
theorem ki_X3_signAt : Cond.initialized yX3_signAt.cls ∈ gl_T := (gl_T_in (by decide +kernel) (by decide +kernel))
set_option maxRecDepth 20000 in
theorem kn_X3_signAt : Cond.instanceMethod yX3_signAt ∈ gl_T := (gl_T_in (by decide +kernel) (by decide +kernel))
set_option maxRecDepth 20000 in
theorem kv_X3_signAt : Cond.selects RX3 yX3_signAt yX3_signAt ∈ gl_T := (gl_T_in (by decide +kernel) (by decide +kernel))
set_option maxRecDepth 20000 in
theorem kw_X2_35 : Cond.methodLink RX2 35 yX3_signAt ∈ gl_T ∧ Cond.instanceMethod yX3_signAt ∈ gl_T ∧ Cond.selects RX3 yX3_signAt yX3_signAt ∈ gl_T ∧ Cond.initialized yX3_signAt.cls ∈ gl_T ∧ Cond.code yX3_signAt cX3_signAt 3 (some .int) ∈ gl_T ∧ gl_Lk yX3_signAt 2 := ⟨(gl_T_in (by decide +kernel) (by decide +kernel)), kn_X3_signAt, kv_X3_signAt, ki_X3_signAt, kc_X3_signAt, kl_X3_signAt⟩
set_option maxRecDepth 20000 in
theorem kc_X2_kindOf : Cond.code yX2_kindOf cX2_kindOf 2 (some .int) ∈ gl_T := (gl_T_in (by decide +kernel) (by decide +kernel))
theorem kl_X2_kindOf : gl_Lk yX2_kindOf 1 := ⟨by decide +kernel, by decide +kernel, by decide +kernel⟩
set_option maxRecDepth 20000 in
theorem ki_X2_kindOf : Cond.initialized yX2_kindOf.cls ∈ gl_T := (gl_T_in (by decide +kernel) (by decide +kernel))
set_option maxRecDepth 20000 in
theorem ks_X2_kindOf : Cond.static yX2_kindOf ∈ gl_T := (gl_T_in (by decide +kernel) (by decide +kernel))
set_option maxRecDepth 20000 in
theorem kw_X2_41 : Cond.methodLink RX2 41 yX2_kindOf ∈ gl_T ∧ Cond.static yX2_kindOf ∈ gl_T ∧ Cond.initialized yX2_kindOf.cls ∈ gl_T ∧ Cond.code yX2_kindOf cX2_kindOf 2 (some .int) ∈ gl_T ∧ gl_Lk yX2_kindOf 1 := ⟨(gl_T_in (by decide +kernel) (by decide +kernel)), ks_X2_kindOf, ki_X2_kindOf, kc_X2_kindOf, kl_X2_kindOf⟩
set_option maxRecDepth 20000 in
theorem kc_X2_isDigit : Cond.code yX2_isDigit cX2_isDigit 1 (some .boolean) ∈ gl_T := (gl_T_in (by decide +kernel) (by decide +kernel))
theorem kl_X2_isDigit : gl_Lk yX2_isDigit 1 := ⟨by decide +kernel, by decide +kernel, by decide +kernel⟩
set_option maxRecDepth 20000 in
theorem ki_X2_isDigit : Cond.initialized yX2_isDigit.cls ∈ gl_T := (gl_T_in (by decide +kernel) (by decide +kernel))
set_option maxRecDepth 20000 in
theorem ks_X2_isDigit : Cond.static yX2_isDigit ∈ gl_T := (gl_T_in (by decide +kernel) (by decide +kernel))
set_option maxRecDepth 20000 in
theorem kw_X2_45 : Cond.methodLink RX2 45 yX2_isDigit ∈ gl_T ∧ Cond.static yX2_isDigit ∈ gl_T ∧ Cond.initialized yX2_isDigit.cls ∈ gl_T ∧ Cond.code yX2_isDigit cX2_isDigit 1 (some .boolean) ∈ gl_T ∧ gl_Lk yX2_isDigit 1 := ⟨(gl_T_in (by decide +kernel) (by decide +kernel)), ks_X2_isDigit, ki_X2_isDigit, kc_X2_isDigit, kl_X2_isDigit⟩
set_option maxRecDepth 20000 in
theorem kc_X2_readDigits : Cond.code yX2_readDigits cX2_readDigits 5 (some .int) ∈ gl_T := (gl_T_in (by decide +kernel) (by decide +kernel))
theorem kl_X2_readDigits : gl_Lk yX2_readDigits 2 := ⟨by decide +kernel, by decide +kernel, by decide +kernel⟩
set_option maxRecDepth 20000 in
theorem ki_X2_readDigits : Cond.initialized yX2_readDigits.cls ∈ gl_T := (gl_T_in (by decide +kernel) (by decide +kernel))
set_option maxRecDepth 20000 in
theorem kn_X2_readDigits : Cond.instanceMethod yX2_readDigits ∈ gl_T := (gl_T_in (by decide +kernel) (by decide +kernel))
set_option maxRecDepth 20000 in
theorem kv_X2_readDigits : Cond.selects RX2 yX2_readDigits yX2_readDigits ∈ gl_T := (gl_T_in (by decide +kernel) (by decide +kernel))
set_option maxRecDepth 20000 in
theorem kw_X2_49 : Cond.methodLink RX2 49 yX2_readDigits ∈ gl_T ∧ Cond.instanceMethod yX2_readDigits ∈ gl_T ∧ Cond.selects RX2 yX2_readDigits yX2_readDigits ∈ gl_T ∧ Cond.initialized yX2_readDigits.cls ∈ gl_T ∧ Cond.code yX2_readDigits cX2_readDigits 5 (some .int) ∈ gl_T ∧ gl_Lk yX2_readDigits 2 := ⟨(gl_T_in (by decide +kernel) (by decide +kernel)), kn_X2_readDigits, kv_X2_readDigits, ki_X2_readDigits, kc_X2_readDigits, kl_X2_readDigits⟩
set_option maxRecDepth 20000 in
theorem kw_X3_3 : Cond.methodLink RX3 3 Lib.objectInit ∈ gl_T ∧ Cond.instanceMethod Lib.objectInit ∈ gl_T ∧ Cond.code Lib.objectInit ⟨#[0xb1]⟩ 1 none ∈ gl_T := ⟨(gl_T_in (by decide +kernel) (by decide +kernel)), (gl_T_in (by decide +kernel) (by decide +kernel)), (gl_T_in (by decide +kernel) (by decide +kernel))⟩
set_option maxRecDepth 20000 in
theorem kw_X4_3 : Cond.methodLink RX4 3 Lib.objectInit ∈ gl_T ∧ Cond.instanceMethod Lib.objectInit ∈ gl_T ∧ Cond.code Lib.objectInit ⟨#[0xb1]⟩ 1 none ∈ gl_T := ⟨(gl_T_in (by decide +kernel) (by decide +kernel)), (gl_T_in (by decide +kernel) (by decide +kernel)), (gl_T_in (by decide +kernel) (by decide +kernel))⟩
set_option maxRecDepth 20000 in
theorem kw_X4_25 : Cond.methodLink RX4 25 yJ7_fill_53178 ∈ gl_T ∧ Cond.static yJ7_fill_53178 ∈ gl_T ∧ Cond.initialized yJ7_fill_53178.cls ∈ gl_T ∧ Cond.code yJ7_fill_53178 cJ7_fill_53178 4 none ∈ gl_T ∧ gl_Lk yJ7_fill_53178 2 := ⟨(gl_T_in (by decide +kernel) (by decide +kernel)), ks_J7_fill_53178, ki_J7_fill_53178, kc_J7_fill_53178, kl_J7_fill_53178⟩
set_option maxRecDepth 20000 in
theorem kc_X4_startDay : Cond.code yX4_startDay cX4_startDay 1 none ∈ gl_T := (gl_T_in (by decide +kernel) (by decide +kernel))
theorem kl_X4_startDay : gl_Lk yX4_startDay 0 := ⟨by decide +kernel, by decide +kernel, by decide +kernel⟩
set_option maxRecDepth 20000 in
theorem ki_X4_startDay : Cond.initialized yX4_startDay.cls ∈ gl_T := (gl_T_in (by decide +kernel) (by decide +kernel))
set_option maxRecDepth 20000 in
theorem kn_X4_startDay : Cond.instanceMethod yX4_startDay ∈ gl_T := (gl_T_in (by decide +kernel) (by decide +kernel))
set_option maxRecDepth 20000 in
theorem kv_X4_startDay : Cond.selects RX4 yX4_startDay yX4_startDay ∈ gl_T := (gl_T_in (by decide +kernel) (by decide +kernel))
set_option maxRecDepth 20000 in
theorem kw_X4_31 : Cond.methodLink RX4 31 yX4_startDay ∈ gl_T ∧ Cond.instanceMethod yX4_startDay ∈ gl_T ∧ Cond.selects RX4 yX4_startDay yX4_startDay ∈ gl_T ∧ Cond.initialized yX4_startDay.cls ∈ gl_T ∧ Cond.code yX4_startDay cX4_startDay 1 none ∈ gl_T ∧ gl_Lk yX4_startDay 0 := ⟨(gl_T_in (by decide +kernel) (by decide +kernel)), kn_X4_startDay, kv_X4_startDay, ki_X4_startDay, kc_X4_startDay, kl_X4_startDay⟩
set_option maxRecDepth 20000 in
theorem kw_X4_48 : Cond.static yX6_hasBit ∈ gl_T ∧ Cond.initialized yX6_hasBit.cls ∈ gl_T ∧ Cond.code yX6_hasBit cX6_hasBit 2 (some .boolean) ∈ gl_T ∧ gl_Lk yX6_hasBit 2 := ⟨ks_X6_hasBit, ki_X6_hasBit, kc_X6_hasBit, kl_X6_hasBit⟩
set_option maxRecDepth 20000 in
theorem kc_X4_minutesTo : Cond.code yX4_minutesTo cX4_minutesTo 2 (some .int) ∈ gl_T := (gl_T_in (by decide +kernel) (by decide +kernel))
theorem kl_X4_minutesTo : gl_Lk yX4_minutesTo 1 := ⟨by decide +kernel, by decide +kernel, by decide +kernel⟩
set_option maxRecDepth 20000 in
theorem ki_X4_minutesTo : Cond.initialized yX4_minutesTo.cls ∈ gl_T := (gl_T_in (by decide +kernel) (by decide +kernel))
set_option maxRecDepth 20000 in
theorem kn_X4_minutesTo : Cond.instanceMethod yX4_minutesTo ∈ gl_T := (gl_T_in (by decide +kernel) (by decide +kernel))
set_option maxRecDepth 20000 in
theorem kv_X4_minutesTo : Cond.selects RX4 yX4_minutesTo yX4_minutesTo ∈ gl_T := (gl_T_in (by decide +kernel) (by decide +kernel))
set_option maxRecDepth 20000 in
theorem kw_X4_58 : Cond.methodLink RX4 58 yX4_minutesTo ∈ gl_T ∧ Cond.instanceMethod yX4_minutesTo ∈ gl_T ∧ Cond.selects RX4 yX4_minutesTo yX4_minutesTo ∈ gl_T ∧ Cond.initialized yX4_minutesTo.cls ∈ gl_T ∧ Cond.code yX4_minutesTo cX4_minutesTo 2 (some .int) ∈ gl_T ∧ gl_Lk yX4_minutesTo 1 := ⟨(gl_T_in (by decide +kernel) (by decide +kernel)), kn_X4_minutesTo, kv_X4_minutesTo, ki_X4_minutesTo, kc_X4_minutesTo, kl_X4_minutesTo⟩
set_option maxRecDepth 20000 in
theorem kc_X2_number : Cond.code yX2_number cX2_number 2 (some .int) ∈ gl_T := (gl_T_in (by decide +kernel) (by decide +kernel))
theorem kl_X2_number : gl_Lk yX2_number 1 := ⟨by decide +kernel, by decide +kernel, by decide +kernel⟩
set_option maxRecDepth 20000 in
theorem ki_X2_number : Cond.initialized yX2_number.cls ∈ gl_T := (gl_T_in (by decide +kernel) (by decide +kernel))
set_option maxRecDepth 20000 in
theorem kn_X2_number : Cond.instanceMethod yX2_number ∈ gl_T := (gl_T_in (by decide +kernel) (by decide +kernel))
set_option maxRecDepth 20000 in
theorem kv_X2_number : Cond.selects RX2 yX2_number yX2_number ∈ gl_T := (gl_T_in (by decide +kernel) (by decide +kernel))
set_option maxRecDepth 20000 in
theorem kw_X4_64 : Cond.methodLink RX4 64 yX2_number ∈ gl_T ∧ Cond.instanceMethod yX2_number ∈ gl_T ∧ Cond.selects RX2 yX2_number yX2_number ∈ gl_T ∧ Cond.initialized yX2_number.cls ∈ gl_T ∧ Cond.code yX2_number cX2_number 2 (some .int) ∈ gl_T ∧ gl_Lk yX2_number 1 := ⟨(gl_T_in (by decide +kernel) (by decide +kernel)), kn_X2_number, kv_X2_number, ki_X2_number, kc_X2_number, kl_X2_number⟩
set_option maxRecDepth 20000 in
theorem kw_X4_76 : Cond.methodLink RX4 76 Lib.Math.max.name ∈ gl_T ∧ Cond.static Lib.Math.max.name ∈ gl_T ∧ Cond.initialized "java/lang/Math" ∈ gl_T ∧ Cond.code Lib.Math.max.name Lib.Math.max.code 2 (some .int) ∈ gl_T := ⟨(gl_T_in (by decide +kernel) (by decide +kernel)), (gl_T_in (by decide +kernel) (by decide +kernel)), (gl_T_in (by decide +kernel) (by decide +kernel)), (gl_T_in (by decide +kernel) (by decide +kernel))⟩
set_option maxRecDepth 20000 in
theorem kw_X5_3 : Cond.methodLink RX5 3 Lib.objectInit ∈ gl_T ∧ Cond.instanceMethod Lib.objectInit ∈ gl_T ∧ Cond.code Lib.objectInit ⟨#[0xb1]⟩ 1 none ∈ gl_T := ⟨(gl_T_in (by decide +kernel) (by decide +kernel)), (gl_T_in (by decide +kernel) (by decide +kernel)), (gl_T_in (by decide +kernel) (by decide +kernel))⟩
set_option maxRecDepth 20000 in
theorem kc_X5_roomOf : Cond.code yX5_roomOf cX5_roomOf 2 (some .int) ∈ gl_T := (gl_T_in (by decide +kernel) (by decide +kernel))
theorem kl_X5_roomOf : gl_Lk yX5_roomOf 2 := ⟨by decide +kernel, by decide +kernel, by decide +kernel⟩
set_option maxRecDepth 20000 in
theorem ki_X5_roomOf : Cond.initialized yX5_roomOf.cls ∈ gl_T := (gl_T_in (by decide +kernel) (by decide +kernel))
set_option maxRecDepth 20000 in
theorem ks_X5_roomOf : Cond.static yX5_roomOf ∈ gl_T := (gl_T_in (by decide +kernel) (by decide +kernel))
set_option maxRecDepth 20000 in
theorem kw_X5_34 : Cond.methodLink RX5 34 yX5_roomOf ∈ gl_T ∧ Cond.static yX5_roomOf ∈ gl_T ∧ Cond.initialized yX5_roomOf.cls ∈ gl_T ∧ Cond.code yX5_roomOf cX5_roomOf 2 (some .int) ∈ gl_T ∧ gl_Lk yX5_roomOf 2 := ⟨(gl_T_in (by decide +kernel) (by decide +kernel)), ks_X5_roomOf, ki_X5_roomOf, kc_X5_roomOf, kl_X5_roomOf⟩
set_option maxRecDepth 20000 in
theorem kw_X5_41 : Cond.methodLink RX5 41 Lib.Math.min.name ∈ gl_T ∧ Cond.static Lib.Math.min.name ∈ gl_T ∧ Cond.initialized "java/lang/Math" ∈ gl_T ∧ Cond.code Lib.Math.min.name Lib.Math.min.code 2 (some .int) ∈ gl_T := ⟨(gl_T_in (by decide +kernel) (by decide +kernel)), (gl_T_in (by decide +kernel) (by decide +kernel)), (gl_T_in (by decide +kernel) (by decide +kernel)), (gl_T_in (by decide +kernel) (by decide +kernel))⟩
set_option maxRecDepth 20000 in
theorem kw_X5_46 : Cond.methodLink RX5 46 yJ6_bitCount_0f7a4 ∈ gl_T ∧ Cond.static yJ6_bitCount_0f7a4 ∈ gl_T ∧ Cond.initialized yJ6_bitCount_0f7a4.cls ∈ gl_T ∧ Cond.code yJ6_bitCount_0f7a4 cJ6_bitCount_0f7a4 1 (some .int) ∈ gl_T ∧ gl_Lk yJ6_bitCount_0f7a4 1 := ⟨(gl_T_in (by decide +kernel) (by decide +kernel)), ks_J6_bitCount_0f7a4, ki_J6_bitCount_0f7a4, kc_J6_bitCount_0f7a4, kl_J6_bitCount_0f7a4⟩
set_option maxRecDepth 20000 in
theorem kw_X6_1 : Cond.methodLink RX6 1 Lib.objectInit ∈ gl_T ∧ Cond.instanceMethod Lib.objectInit ∈ gl_T ∧ Cond.code Lib.objectInit ⟨#[0xb1]⟩ 1 none ∈ gl_T := ⟨(gl_T_in (by decide +kernel) (by decide +kernel)), (gl_T_in (by decide +kernel) (by decide +kernel)), (gl_T_in (by decide +kernel) (by decide +kernel))⟩
set_option maxRecDepth 20000 in
theorem kc_X3_init : Cond.code yX3_init cX3_init 1 none ∈ gl_T := (gl_T_in (by decide +kernel) (by decide +kernel))
theorem kl_X3_init : gl_Lk yX3_init 0 := ⟨by decide +kernel, by decide +kernel, by decide +kernel⟩
set_option maxRecDepth 20000 in
theorem ki_X3_init : Cond.initialized yX3_init.cls ∈ gl_T := (gl_T_in (by decide +kernel) (by decide +kernel))
set_option maxRecDepth 20000 in
theorem kn_X3_init : Cond.instanceMethod yX3_init ∈ gl_T := (gl_T_in (by decide +kernel) (by decide +kernel))
set_option maxRecDepth 20000 in
theorem kw_X6_9 : Cond.instanceMethod yX3_init ∈ gl_T ∧ Cond.initialized yX3_init.cls ∈ gl_T ∧ Cond.code yX3_init cX3_init 1 none ∈ gl_T ∧ gl_Lk yX3_init 0 := ⟨kn_X3_init, ki_X3_init, kc_X3_init, kl_X3_init⟩
set_option maxRecDepth 20000 in
theorem kc_X2_init : Cond.code yX2_init cX2_init 1 none ∈ gl_T := (gl_T_in (by decide +kernel) (by decide +kernel))
theorem kl_X2_init : gl_Lk yX2_init 0 := ⟨by decide +kernel, by decide +kernel, by decide +kernel⟩
set_option maxRecDepth 20000 in
theorem ki_X2_init : Cond.initialized yX2_init.cls ∈ gl_T := (gl_T_in (by decide +kernel) (by decide +kernel))
set_option maxRecDepth 20000 in
theorem kn_X2_init : Cond.instanceMethod yX2_init ∈ gl_T := (gl_T_in (by decide +kernel) (by decide +kernel))
set_option maxRecDepth 20000 in
theorem kw_X6_18 : Cond.methodLink RX6 18 yX2_init ∈ gl_T ∧ Cond.instanceMethod yX2_init ∈ gl_T ∧ Cond.initialized yX2_init.cls ∈ gl_T ∧ Cond.code yX2_init cX2_init 1 none ∈ gl_T ∧ gl_Lk yX2_init 0 := ⟨(gl_T_in (by decide +kernel) (by decide +kernel)), kn_X2_init, ki_X2_init, kc_X2_init, kl_X2_init⟩
set_option maxRecDepth 20000 in
theorem kc_X5_init : Cond.code yX5_init cX5_init 1 none ∈ gl_T := (gl_T_in (by decide +kernel) (by decide +kernel))
theorem kl_X5_init : gl_Lk yX5_init 0 := ⟨by decide +kernel, by decide +kernel, by decide +kernel⟩
set_option maxRecDepth 20000 in
theorem ki_X5_init : Cond.initialized yX5_init.cls ∈ gl_T := (gl_T_in (by decide +kernel) (by decide +kernel))
set_option maxRecDepth 20000 in
theorem kn_X5_init : Cond.instanceMethod yX5_init ∈ gl_T := (gl_T_in (by decide +kernel) (by decide +kernel))
set_option maxRecDepth 20000 in
theorem kw_X6_37 : Cond.instanceMethod yX5_init ∈ gl_T ∧ Cond.initialized yX5_init.cls ∈ gl_T ∧ Cond.code yX5_init cX5_init 1 none ∈ gl_T ∧ gl_Lk yX5_init 0 := ⟨kn_X5_init, ki_X5_init, kc_X5_init, kl_X5_init⟩
set_option maxRecDepth 20000 in
theorem kc_X1_init : Cond.code yX1_init cX1_init 1 none ∈ gl_T := (gl_T_in (by decide +kernel) (by decide +kernel))
theorem kl_X1_init : gl_Lk yX1_init 0 := ⟨by decide +kernel, by decide +kernel, by decide +kernel⟩
set_option maxRecDepth 20000 in
theorem ki_X1_init : Cond.initialized yX1_init.cls ∈ gl_T := (gl_T_in (by decide +kernel) (by decide +kernel))
set_option maxRecDepth 20000 in
theorem kn_X1_init : Cond.instanceMethod yX1_init ∈ gl_T := (gl_T_in (by decide +kernel) (by decide +kernel))
set_option maxRecDepth 20000 in
theorem kw_X6_44 : Cond.instanceMethod yX1_init ∈ gl_T ∧ Cond.initialized yX1_init.cls ∈ gl_T ∧ Cond.code yX1_init cX1_init 1 none ∈ gl_T ∧ gl_Lk yX1_init 0 := ⟨kn_X1_init, ki_X1_init, kc_X1_init, kl_X1_init⟩
set_option maxRecDepth 20000 in
theorem kc_X3_hasRoom : Cond.code yX3_hasRoom cX3_hasRoom 1 (some .boolean) ∈ gl_T := (gl_T_in (by decide +kernel) (by decide +kernel))
theorem kl_X3_hasRoom : gl_Lk yX3_hasRoom 0 := ⟨by decide +kernel, by decide +kernel, by decide +kernel⟩
set_option maxRecDepth 20000 in
theorem ki_X3_hasRoom : Cond.initialized yX3_hasRoom.cls ∈ gl_T := (gl_T_in (by decide +kernel) (by decide +kernel))
set_option maxRecDepth 20000 in
theorem kn_X3_hasRoom : Cond.instanceMethod yX3_hasRoom ∈ gl_T := (gl_T_in (by decide +kernel) (by decide +kernel))
set_option maxRecDepth 20000 in
theorem kv_X3_hasRoom : Cond.selects RX3 yX3_hasRoom yX3_hasRoom ∈ gl_T := (gl_T_in (by decide +kernel) (by decide +kernel))
set_option maxRecDepth 20000 in
theorem kw_X6_49 : Cond.methodLink RX6 49 yX3_hasRoom ∈ gl_T ∧ Cond.instanceMethod yX3_hasRoom ∈ gl_T ∧ Cond.selects RX3 yX3_hasRoom yX3_hasRoom ∈ gl_T ∧ Cond.initialized yX3_hasRoom.cls ∈ gl_T ∧ Cond.code yX3_hasRoom cX3_hasRoom 1 (some .boolean) ∈ gl_T ∧ gl_Lk yX3_hasRoom 0 := ⟨(gl_T_in (by decide +kernel) (by decide +kernel)), kn_X3_hasRoom, kv_X3_hasRoom, ki_X3_hasRoom, kc_X3_hasRoom, kl_X3_hasRoom⟩
set_option maxRecDepth 20000 in
theorem kc_X3_append : Cond.code yX3_append cX3_append 3 none ∈ gl_T := (gl_T_in (by decide +kernel) (by decide +kernel))
theorem kl_X3_append : gl_Lk yX3_append 1 := ⟨by decide +kernel, by decide +kernel, by decide +kernel⟩
set_option maxRecDepth 20000 in
theorem ki_X3_append : Cond.initialized yX3_append.cls ∈ gl_T := (gl_T_in (by decide +kernel) (by decide +kernel))
set_option maxRecDepth 20000 in
theorem kn_X3_append : Cond.instanceMethod yX3_append ∈ gl_T := (gl_T_in (by decide +kernel) (by decide +kernel))
set_option maxRecDepth 20000 in
theorem kv_X3_append : Cond.selects RX3 yX3_append yX3_append ∈ gl_T := (gl_T_in (by decide +kernel) (by decide +kernel))
set_option maxRecDepth 20000 in
theorem kw_X6_53 : Cond.methodLink RX6 53 yX3_append ∈ gl_T ∧ Cond.instanceMethod yX3_append ∈ gl_T ∧ Cond.selects RX3 yX3_append yX3_append ∈ gl_T ∧ Cond.initialized yX3_append.cls ∈ gl_T ∧ Cond.code yX3_append cX3_append 3 none ∈ gl_T ∧ gl_Lk yX3_append 1 := ⟨(gl_T_in (by decide +kernel) (by decide +kernel)), kn_X3_append, kv_X3_append, ki_X3_append, kc_X3_append, kl_X3_append⟩
set_option maxRecDepth 20000 in
theorem kc_X6_within : Cond.code yX6_within cX6_within 3 (some .boolean) ∈ gl_T := (gl_T_in (by decide +kernel) (by decide +kernel))
theorem kl_X6_within : gl_Lk yX6_within 3 := ⟨by decide +kernel, by decide +kernel, by decide +kernel⟩
set_option maxRecDepth 20000 in
theorem ki_X6_within : Cond.initialized yX6_within.cls ∈ gl_T := (gl_T_in (by decide +kernel) (by decide +kernel))
set_option maxRecDepth 20000 in
theorem ks_X6_within : Cond.static yX6_within ∈ gl_T := (gl_T_in (by decide +kernel) (by decide +kernel))
set_option maxRecDepth 20000 in
theorem kw_X6_61 : Cond.methodLink RX6 61 yX6_within ∈ gl_T ∧ Cond.static yX6_within ∈ gl_T ∧ Cond.initialized yX6_within.cls ∈ gl_T ∧ Cond.code yX6_within cX6_within 3 (some .boolean) ∈ gl_T ∧ gl_Lk yX6_within 3 := ⟨(gl_T_in (by decide +kernel) (by decide +kernel)), ks_X6_within, ki_X6_within, kc_X6_within, kl_X6_within⟩
set_option maxRecDepth 20000 in
theorem kc_X2_read : Cond.code yX2_read cX2_read 5 (some .int) ∈ gl_T := (gl_T_in (by decide +kernel) (by decide +kernel))
theorem kl_X2_read : gl_Lk yX2_read 2 := ⟨by decide +kernel, by decide +kernel, by decide +kernel⟩
set_option maxRecDepth 20000 in
theorem ki_X2_read : Cond.initialized yX2_read.cls ∈ gl_T := (gl_T_in (by decide +kernel) (by decide +kernel))
set_option maxRecDepth 20000 in
theorem kn_X2_read : Cond.instanceMethod yX2_read ∈ gl_T := (gl_T_in (by decide +kernel) (by decide +kernel))
set_option maxRecDepth 20000 in
theorem kv_X2_read : Cond.selects RX2 yX2_read yX2_read ∈ gl_T := (gl_T_in (by decide +kernel) (by decide +kernel))
set_option maxRecDepth 20000 in
theorem kw_X6_65 : Cond.methodLink RX6 65 yX2_read ∈ gl_T ∧ Cond.instanceMethod yX2_read ∈ gl_T ∧ Cond.selects RX2 yX2_read yX2_read ∈ gl_T ∧ Cond.initialized yX2_read.cls ∈ gl_T ∧ Cond.code yX2_read cX2_read 5 (some .int) ∈ gl_T ∧ gl_Lk yX2_read 2 := ⟨(gl_T_in (by decide +kernel) (by decide +kernel)), kn_X2_read, kv_X2_read, ki_X2_read, kc_X2_read, kl_X2_read⟩
set_option maxRecDepth 20000 in
theorem kc_X4_init : Cond.code yX4_init cX4_init 4 none ∈ gl_T := (gl_T_in (by decide +kernel) (by decide +kernel))
theorem kl_X4_init : gl_Lk yX4_init 3 := ⟨by decide +kernel, by decide +kernel, by decide +kernel⟩
set_option maxRecDepth 20000 in
theorem ki_X4_init : Cond.initialized yX4_init.cls ∈ gl_T := (gl_T_in (by decide +kernel) (by decide +kernel))
set_option maxRecDepth 20000 in
theorem kn_X4_init : Cond.instanceMethod yX4_init ∈ gl_T := (gl_T_in (by decide +kernel) (by decide +kernel))
set_option maxRecDepth 20000 in
theorem kw_X6_72 : Cond.methodLink RX6 72 yX4_init ∈ gl_T ∧ Cond.instanceMethod yX4_init ∈ gl_T ∧ Cond.initialized yX4_init.cls ∈ gl_T ∧ Cond.code yX4_init cX4_init 4 none ∈ gl_T ∧ gl_Lk yX4_init 3 := ⟨(gl_T_in (by decide +kernel) (by decide +kernel)), kn_X4_init, ki_X4_init, kc_X4_init, kl_X4_init⟩
set_option maxRecDepth 20000 in
theorem kc_X6_teacherAt : Cond.code yX6_teacherAt cX6_teacherAt 2 (some (.object "MorningDesk$Teacher")) ∈ gl_T := (gl_T_in (by decide +kernel) (by decide +kernel))
theorem kl_X6_teacherAt : gl_Lk yX6_teacherAt 1 := ⟨by decide +kernel, by decide +kernel, by decide +kernel⟩
set_option maxRecDepth 20000 in
theorem ki_X6_teacherAt : Cond.initialized yX6_teacherAt.cls ∈ gl_T := (gl_T_in (by decide +kernel) (by decide +kernel))
set_option maxRecDepth 20000 in
theorem kn_X6_teacherAt : Cond.instanceMethod yX6_teacherAt ∈ gl_T := (gl_T_in (by decide +kernel) (by decide +kernel))
set_option maxRecDepth 20000 in
theorem kv_X6_teacherAt : Cond.selects RX6 yX6_teacherAt yX6_teacherAt ∈ gl_T := (gl_T_in (by decide +kernel) (by decide +kernel))
set_option maxRecDepth 20000 in
theorem kw_X6_75 : Cond.methodLink RX6 75 yX6_teacherAt ∈ gl_T ∧ Cond.instanceMethod yX6_teacherAt ∈ gl_T ∧ Cond.selects RX6 yX6_teacherAt yX6_teacherAt ∈ gl_T ∧ Cond.initialized yX6_teacherAt.cls ∈ gl_T ∧ Cond.code yX6_teacherAt cX6_teacherAt 2 (some (.object "MorningDesk$Teacher")) ∈ gl_T ∧ gl_Lk yX6_teacherAt 1 := ⟨(gl_T_in (by decide +kernel) (by decide +kernel)), kn_X6_teacherAt, kv_X6_teacherAt, ki_X6_teacherAt, kc_X6_teacherAt, kl_X6_teacherAt⟩
set_option maxRecDepth 20000 in
theorem kc_X6_isSchool : Cond.code yX6_isSchool cX6_isSchool 1 (some .boolean) ∈ gl_T := (gl_T_in (by decide +kernel) (by decide +kernel))
theorem kl_X6_isSchool : gl_Lk yX6_isSchool 1 := ⟨by decide +kernel, by decide +kernel, by decide +kernel⟩
set_option maxRecDepth 20000 in
theorem ki_X6_isSchool : Cond.initialized yX6_isSchool.cls ∈ gl_T := (gl_T_in (by decide +kernel) (by decide +kernel))
set_option maxRecDepth 20000 in
theorem ks_X6_isSchool : Cond.static yX6_isSchool ∈ gl_T := (gl_T_in (by decide +kernel) (by decide +kernel))
set_option maxRecDepth 20000 in
theorem kw_X6_79 : Cond.methodLink RX6 79 yX6_isSchool ∈ gl_T ∧ Cond.static yX6_isSchool ∈ gl_T ∧ Cond.initialized yX6_isSchool.cls ∈ gl_T ∧ Cond.code yX6_isSchool cX6_isSchool 1 (some .boolean) ∈ gl_T ∧ gl_Lk yX6_isSchool 1 := ⟨(gl_T_in (by decide +kernel) (by decide +kernel)), ks_X6_isSchool, ki_X6_isSchool, kc_X6_isSchool, kl_X6_isSchool⟩
set_option maxRecDepth 20000 in
theorem kc_X6_isClass : Cond.code yX6_isClass cX6_isClass 1 (some .boolean) ∈ gl_T := (gl_T_in (by decide +kernel) (by decide +kernel))
theorem kl_X6_isClass : gl_Lk yX6_isClass 1 := ⟨by decide +kernel, by decide +kernel, by decide +kernel⟩
set_option maxRecDepth 20000 in
theorem ki_X6_isClass : Cond.initialized yX6_isClass.cls ∈ gl_T := (gl_T_in (by decide +kernel) (by decide +kernel))
set_option maxRecDepth 20000 in
theorem ks_X6_isClass : Cond.static yX6_isClass ∈ gl_T := (gl_T_in (by decide +kernel) (by decide +kernel))
set_option maxRecDepth 20000 in
theorem kw_X6_96 : Cond.methodLink RX6 96 yX6_isClass ∈ gl_T ∧ Cond.static yX6_isClass ∈ gl_T ∧ Cond.initialized yX6_isClass.cls ∈ gl_T ∧ Cond.code yX6_isClass cX6_isClass 1 (some .boolean) ∈ gl_T ∧ gl_Lk yX6_isClass 1 := ⟨(gl_T_in (by decide +kernel) (by decide +kernel)), ks_X6_isClass, ki_X6_isClass, kc_X6_isClass, kl_X6_isClass⟩
set_option maxRecDepth 20000 in
theorem kc_X0_init : Cond.code yX0_init cX0_init 6 none ∈ gl_T := (gl_T_in (by decide +kernel) (by decide +kernel))
theorem kl_X0_init : gl_Lk yX0_init 5 := ⟨by decide +kernel, by decide +kernel, by decide +kernel⟩
set_option maxRecDepth 20000 in
theorem ki_X0_init : Cond.initialized yX0_init.cls ∈ gl_T := (gl_T_in (by decide +kernel) (by decide +kernel))
set_option maxRecDepth 20000 in
theorem kn_X0_init : Cond.instanceMethod yX0_init ∈ gl_T := (gl_T_in (by decide +kernel) (by decide +kernel))
set_option maxRecDepth 20000 in
theorem kw_X6_99 : Cond.methodLink RX6 99 yX0_init ∈ gl_T ∧ Cond.instanceMethod yX0_init ∈ gl_T ∧ Cond.initialized yX0_init.cls ∈ gl_T ∧ Cond.code yX0_init cX0_init 6 none ∈ gl_T ∧ gl_Lk yX0_init 5 := ⟨(gl_T_in (by decide +kernel) (by decide +kernel)), kn_X0_init, ki_X0_init, kc_X0_init, kl_X0_init⟩
set_option maxRecDepth 20000 in
theorem kc_X6_gapAt : Cond.code yX6_gapAt cX6_gapAt 2 (some (.object "MorningDesk$Gap")) ∈ gl_T := (gl_T_in (by decide +kernel) (by decide +kernel))
theorem kl_X6_gapAt : gl_Lk yX6_gapAt 1 := ⟨by decide +kernel, by decide +kernel, by decide +kernel⟩
set_option maxRecDepth 20000 in
theorem ki_X6_gapAt : Cond.initialized yX6_gapAt.cls ∈ gl_T := (gl_T_in (by decide +kernel) (by decide +kernel))
set_option maxRecDepth 20000 in
theorem kn_X6_gapAt : Cond.instanceMethod yX6_gapAt ∈ gl_T := (gl_T_in (by decide +kernel) (by decide +kernel))
set_option maxRecDepth 20000 in
theorem kv_X6_gapAt : Cond.selects RX6 yX6_gapAt yX6_gapAt ∈ gl_T := (gl_T_in (by decide +kernel) (by decide +kernel))
set_option maxRecDepth 20000 in
theorem kw_X6_102 : Cond.methodLink RX6 102 yX6_gapAt ∈ gl_T ∧ Cond.instanceMethod yX6_gapAt ∈ gl_T ∧ Cond.selects RX6 yX6_gapAt yX6_gapAt ∈ gl_T ∧ Cond.initialized yX6_gapAt.cls ∈ gl_T ∧ Cond.code yX6_gapAt cX6_gapAt 2 (some (.object "MorningDesk$Gap")) ∈ gl_T ∧ gl_Lk yX6_gapAt 1 := ⟨(gl_T_in (by decide +kernel) (by decide +kernel)), kn_X6_gapAt, kv_X6_gapAt, ki_X6_gapAt, kc_X6_gapAt, kl_X6_gapAt⟩
set_option maxRecDepth 20000 in
theorem kc_X4_fills : Cond.code yX4_fills cX4_fills 4 (some .boolean) ∈ gl_T := (gl_T_in (by decide +kernel) (by decide +kernel))
theorem kl_X4_fills : gl_Lk yX4_fills 3 := ⟨by decide +kernel, by decide +kernel, by decide +kernel⟩
set_option maxRecDepth 20000 in
theorem ki_X4_fills : Cond.initialized yX4_fills.cls ∈ gl_T := (gl_T_in (by decide +kernel) (by decide +kernel))
set_option maxRecDepth 20000 in
theorem kn_X4_fills : Cond.instanceMethod yX4_fills ∈ gl_T := (gl_T_in (by decide +kernel) (by decide +kernel))
set_option maxRecDepth 20000 in
theorem kv_X4_fills : Cond.selects RX4 yX4_fills yX4_fills ∈ gl_T := (gl_T_in (by decide +kernel) (by decide +kernel))
set_option maxRecDepth 20000 in
theorem kw_X6_109 : Cond.methodLink RX6 109 yX4_fills ∈ gl_T ∧ Cond.instanceMethod yX4_fills ∈ gl_T ∧ Cond.selects RX4 yX4_fills yX4_fills ∈ gl_T ∧ Cond.initialized yX4_fills.cls ∈ gl_T ∧ Cond.code yX4_fills cX4_fills 4 (some .boolean) ∈ gl_T ∧ gl_Lk yX4_fills 3 := ⟨(gl_T_in (by decide +kernel) (by decide +kernel)), kn_X4_fills, kv_X4_fills, ki_X4_fills, kc_X4_fills, kl_X4_fills⟩
set_option maxRecDepth 20000 in
theorem kc_X4_costFor : Cond.code yX4_costFor cX4_costFor 4 (some .int) ∈ gl_T := (gl_T_in (by decide +kernel) (by decide +kernel))
theorem kl_X4_costFor : gl_Lk yX4_costFor 2 := ⟨by decide +kernel, by decide +kernel, by decide +kernel⟩
set_option maxRecDepth 20000 in
theorem ki_X4_costFor : Cond.initialized yX4_costFor.cls ∈ gl_T := (gl_T_in (by decide +kernel) (by decide +kernel))
set_option maxRecDepth 20000 in
theorem kn_X4_costFor : Cond.instanceMethod yX4_costFor ∈ gl_T := (gl_T_in (by decide +kernel) (by decide +kernel))
set_option maxRecDepth 20000 in
theorem kv_X4_costFor : Cond.selects RX4 yX4_costFor yX4_costFor ∈ gl_T := (gl_T_in (by decide +kernel) (by decide +kernel))
set_option maxRecDepth 20000 in
theorem kw_X6_113 : Cond.methodLink RX6 113 yX4_costFor ∈ gl_T ∧ Cond.instanceMethod yX4_costFor ∈ gl_T ∧ Cond.selects RX4 yX4_costFor yX4_costFor ∈ gl_T ∧ Cond.initialized yX4_costFor.cls ∈ gl_T ∧ Cond.code yX4_costFor cX4_costFor 4 (some .int) ∈ gl_T ∧ gl_Lk yX4_costFor 2 := ⟨(gl_T_in (by decide +kernel) (by decide +kernel)), kn_X4_costFor, kv_X4_costFor, ki_X4_costFor, kc_X4_costFor, kl_X4_costFor⟩
set_option maxRecDepth 20000 in
theorem kc_X6_findMatch : Cond.code yX6_findMatch cX6_findMatch 1 none ∈ gl_T := (gl_T_in (by decide +kernel) (by decide +kernel))
theorem kl_X6_findMatch : gl_Lk yX6_findMatch 0 := ⟨by decide +kernel, by decide +kernel, by decide +kernel⟩
set_option maxRecDepth 20000 in
theorem ki_X6_findMatch : Cond.initialized yX6_findMatch.cls ∈ gl_T := (gl_T_in (by decide +kernel) (by decide +kernel))
set_option maxRecDepth 20000 in
theorem kn_X6_findMatch : Cond.instanceMethod yX6_findMatch ∈ gl_T := (gl_T_in (by decide +kernel) (by decide +kernel))
set_option maxRecDepth 20000 in
theorem kv_X6_findMatch : Cond.selects RX6 yX6_findMatch yX6_findMatch ∈ gl_T := (gl_T_in (by decide +kernel) (by decide +kernel))
set_option maxRecDepth 20000 in
theorem kw_X6_117 : Cond.methodLink RX6 117 yX6_findMatch ∈ gl_T ∧ Cond.instanceMethod yX6_findMatch ∈ gl_T ∧ Cond.selects RX6 yX6_findMatch yX6_findMatch ∈ gl_T ∧ Cond.initialized yX6_findMatch.cls ∈ gl_T ∧ Cond.code yX6_findMatch cX6_findMatch 1 none ∈ gl_T ∧ gl_Lk yX6_findMatch 0 := ⟨(gl_T_in (by decide +kernel) (by decide +kernel)), kn_X6_findMatch, kv_X6_findMatch, ki_X6_findMatch, kc_X6_findMatch, kl_X6_findMatch⟩
set_option maxRecDepth 20000 in
theorem kc_X1_filled : Cond.code yX1_filled cX1_filled 3 (some .int) ∈ gl_T := (gl_T_in (by decide +kernel) (by decide +kernel))
theorem kl_X1_filled : gl_Lk yX1_filled 0 := ⟨by decide +kernel, by decide +kernel, by decide +kernel⟩
set_option maxRecDepth 20000 in
theorem ki_X1_filled : Cond.initialized yX1_filled.cls ∈ gl_T := (gl_T_in (by decide +kernel) (by decide +kernel))
set_option maxRecDepth 20000 in
theorem kn_X1_filled : Cond.instanceMethod yX1_filled ∈ gl_T := (gl_T_in (by decide +kernel) (by decide +kernel))
set_option maxRecDepth 20000 in
theorem kv_X1_filled : Cond.selects RX1 yX1_filled yX1_filled ∈ gl_T := (gl_T_in (by decide +kernel) (by decide +kernel))
set_option maxRecDepth 20000 in
theorem kw_X6_120 : Cond.methodLink RX6 120 yX1_filled ∈ gl_T ∧ Cond.instanceMethod yX1_filled ∈ gl_T ∧ Cond.selects RX1 yX1_filled yX1_filled ∈ gl_T ∧ Cond.initialized yX1_filled.cls ∈ gl_T ∧ Cond.code yX1_filled cX1_filled 3 (some .int) ∈ gl_T ∧ gl_Lk yX1_filled 0 := ⟨(gl_T_in (by decide +kernel) (by decide +kernel)), kn_X1_filled, kv_X1_filled, ki_X1_filled, kc_X1_filled, kl_X1_filled⟩
set_option maxRecDepth 20000 in
theorem kc_X1_costInAll : Cond.code yX1_costInAll cX1_costInAll 3 (some .int) ∈ gl_T := (gl_T_in (by decide +kernel) (by decide +kernel))
theorem kl_X1_costInAll : gl_Lk yX1_costInAll 0 := ⟨by decide +kernel, by decide +kernel, by decide +kernel⟩
set_option maxRecDepth 20000 in
theorem ki_X1_costInAll : Cond.initialized yX1_costInAll.cls ∈ gl_T := (gl_T_in (by decide +kernel) (by decide +kernel))
set_option maxRecDepth 20000 in
theorem kn_X1_costInAll : Cond.instanceMethod yX1_costInAll ∈ gl_T := (gl_T_in (by decide +kernel) (by decide +kernel))
set_option maxRecDepth 20000 in
theorem kv_X1_costInAll : Cond.selects RX1 yX1_costInAll yX1_costInAll ∈ gl_T := (gl_T_in (by decide +kernel) (by decide +kernel))
set_option maxRecDepth 20000 in
theorem kw_X6_124 : Cond.methodLink RX6 124 yX1_costInAll ∈ gl_T ∧ Cond.instanceMethod yX1_costInAll ∈ gl_T ∧ Cond.selects RX1 yX1_costInAll yX1_costInAll ∈ gl_T ∧ Cond.initialized yX1_costInAll.cls ∈ gl_T ∧ Cond.code yX1_costInAll cX1_costInAll 3 (some .int) ∈ gl_T ∧ gl_Lk yX1_costInAll 0 := ⟨(gl_T_in (by decide +kernel) (by decide +kernel)), kn_X1_costInAll, kv_X1_costInAll, ki_X1_costInAll, kc_X1_costInAll, kl_X1_costInAll⟩
set_option maxRecDepth 20000 in
theorem kc_X6_sentTo : Cond.code yX6_sentTo cX6_sentTo 4 (some .int) ∈ gl_T := (gl_T_in (by decide +kernel) (by decide +kernel))
theorem kl_X6_sentTo : gl_Lk yX6_sentTo 1 := ⟨by decide +kernel, by decide +kernel, by decide +kernel⟩
set_option maxRecDepth 20000 in
theorem ki_X6_sentTo : Cond.initialized yX6_sentTo.cls ∈ gl_T := (gl_T_in (by decide +kernel) (by decide +kernel))
set_option maxRecDepth 20000 in
theorem kn_X6_sentTo : Cond.instanceMethod yX6_sentTo ∈ gl_T := (gl_T_in (by decide +kernel) (by decide +kernel))
set_option maxRecDepth 20000 in
theorem kv_X6_sentTo : Cond.selects RX6 yX6_sentTo yX6_sentTo ∈ gl_T := (gl_T_in (by decide +kernel) (by decide +kernel))
set_option maxRecDepth 20000 in
theorem kw_X6_127 : Cond.methodLink RX6 127 yX6_sentTo ∈ gl_T ∧ Cond.instanceMethod yX6_sentTo ∈ gl_T ∧ Cond.selects RX6 yX6_sentTo yX6_sentTo ∈ gl_T ∧ Cond.initialized yX6_sentTo.cls ∈ gl_T ∧ Cond.code yX6_sentTo cX6_sentTo 4 (some .int) ∈ gl_T ∧ gl_Lk yX6_sentTo 1 := ⟨(gl_T_in (by decide +kernel) (by decide +kernel)), kn_X6_sentTo, kv_X6_sentTo, ki_X6_sentTo, kc_X6_sentTo, kl_X6_sentTo⟩
set_option maxRecDepth 20000 in
theorem kc_X1_teacherFor : Cond.code yX1_teacherFor cX1_teacherFor 2 (some .int) ∈ gl_T := (gl_T_in (by decide +kernel) (by decide +kernel))
theorem kl_X1_teacherFor : gl_Lk yX1_teacherFor 1 := ⟨by decide +kernel, by decide +kernel, by decide +kernel⟩
set_option maxRecDepth 20000 in
theorem ki_X1_teacherFor : Cond.initialized yX1_teacherFor.cls ∈ gl_T := (gl_T_in (by decide +kernel) (by decide +kernel))
set_option maxRecDepth 20000 in
theorem kn_X1_teacherFor : Cond.instanceMethod yX1_teacherFor ∈ gl_T := (gl_T_in (by decide +kernel) (by decide +kernel))
set_option maxRecDepth 20000 in
theorem kv_X1_teacherFor : Cond.selects RX1 yX1_teacherFor yX1_teacherFor ∈ gl_T := (gl_T_in (by decide +kernel) (by decide +kernel))
set_option maxRecDepth 20000 in
theorem kw_X6_131 : Cond.methodLink RX6 131 yX1_teacherFor ∈ gl_T ∧ Cond.instanceMethod yX1_teacherFor ∈ gl_T ∧ Cond.selects RX1 yX1_teacherFor yX1_teacherFor ∈ gl_T ∧ Cond.initialized yX1_teacherFor.cls ∈ gl_T ∧ Cond.code yX1_teacherFor cX1_teacherFor 2 (some .int) ∈ gl_T ∧ gl_Lk yX1_teacherFor 1 := ⟨(gl_T_in (by decide +kernel) (by decide +kernel)), kn_X1_teacherFor, kv_X1_teacherFor, ki_X1_teacherFor, kc_X1_teacherFor, kl_X1_teacherFor⟩
set_option maxRecDepth 20000 in
theorem kc_X6_isCalledAhead : Cond.code yX6_isCalledAhead cX6_isCalledAhead 7 (some .boolean) ∈ gl_T := (gl_T_in (by decide +kernel) (by decide +kernel))
theorem kl_X6_isCalledAhead : gl_Lk yX6_isCalledAhead 2 := ⟨by decide +kernel, by decide +kernel, by decide +kernel⟩
set_option maxRecDepth 20000 in
theorem ki_X6_isCalledAhead : Cond.initialized yX6_isCalledAhead.cls ∈ gl_T := (gl_T_in (by decide +kernel) (by decide +kernel))
set_option maxRecDepth 20000 in
theorem kn_X6_isCalledAhead : Cond.instanceMethod yX6_isCalledAhead ∈ gl_T := (gl_T_in (by decide +kernel) (by decide +kernel))
set_option maxRecDepth 20000 in
theorem kv_X6_isCalledAhead : Cond.selects RX6 yX6_isCalledAhead yX6_isCalledAhead ∈ gl_T := (gl_T_in (by decide +kernel) (by decide +kernel))
set_option maxRecDepth 20000 in
theorem kw_X6_134 : Cond.methodLink RX6 134 yX6_isCalledAhead ∈ gl_T ∧ Cond.instanceMethod yX6_isCalledAhead ∈ gl_T ∧ Cond.selects RX6 yX6_isCalledAhead yX6_isCalledAhead ∈ gl_T ∧ Cond.initialized yX6_isCalledAhead.cls ∈ gl_T ∧ Cond.code yX6_isCalledAhead cX6_isCalledAhead 7 (some .boolean) ∈ gl_T ∧ gl_Lk yX6_isCalledAhead 2 := ⟨(gl_T_in (by decide +kernel) (by decide +kernel)), kn_X6_isCalledAhead, kv_X6_isCalledAhead, ki_X6_isCalledAhead, kc_X6_isCalledAhead, kl_X6_isCalledAhead⟩
set_option maxRecDepth 20000 in
theorem kc_X1_gapFor : Cond.code yX1_gapFor cX1_gapFor 3 (some .int) ∈ gl_T := (gl_T_in (by decide +kernel) (by decide +kernel))
theorem kl_X1_gapFor : gl_Lk yX1_gapFor 1 := ⟨by decide +kernel, by decide +kernel, by decide +kernel⟩
set_option maxRecDepth 20000 in
theorem ki_X1_gapFor : Cond.initialized yX1_gapFor.cls ∈ gl_T := (gl_T_in (by decide +kernel) (by decide +kernel))
set_option maxRecDepth 20000 in
theorem kn_X1_gapFor : Cond.instanceMethod yX1_gapFor ∈ gl_T := (gl_T_in (by decide +kernel) (by decide +kernel))
set_option maxRecDepth 20000 in
theorem kv_X1_gapFor : Cond.selects RX1 yX1_gapFor yX1_gapFor ∈ gl_T := (gl_T_in (by decide +kernel) (by decide +kernel))
set_option maxRecDepth 20000 in
theorem kw_X6_138 : Cond.methodLink RX6 138 yX1_gapFor ∈ gl_T ∧ Cond.instanceMethod yX1_gapFor ∈ gl_T ∧ Cond.selects RX1 yX1_gapFor yX1_gapFor ∈ gl_T ∧ Cond.initialized yX1_gapFor.cls ∈ gl_T ∧ Cond.code yX1_gapFor cX1_gapFor 3 (some .int) ∈ gl_T ∧ gl_Lk yX1_gapFor 1 := ⟨(gl_T_in (by decide +kernel) (by decide +kernel)), kn_X1_gapFor, kv_X1_gapFor, ki_X1_gapFor, kc_X1_gapFor, kl_X1_gapFor⟩
set_option maxRecDepth 20000 in
theorem kw_X6_141 : Cond.methodLink RX6 141 yX2_number ∈ gl_T ∧ Cond.instanceMethod yX2_number ∈ gl_T ∧ Cond.selects RX2 yX2_number yX2_number ∈ gl_T ∧ Cond.initialized yX2_number.cls ∈ gl_T ∧ Cond.code yX2_number cX2_number 2 (some .int) ∈ gl_T ∧ gl_Lk yX2_number 1 := ⟨(gl_T_in (by decide +kernel) (by decide +kernel)), kn_X2_number, kv_X2_number, ki_X2_number, kc_X2_number, kl_X2_number⟩
set_option maxRecDepth 20000 in
theorem kc_X4_takeAnswer : Cond.code yX4_takeAnswer cX4_takeAnswer 4 none ∈ gl_T := (gl_T_in (by decide +kernel) (by decide +kernel))
theorem kl_X4_takeAnswer : gl_Lk yX4_takeAnswer 3 := ⟨by decide +kernel, by decide +kernel, by decide +kernel⟩
set_option maxRecDepth 20000 in
theorem ki_X4_takeAnswer : Cond.initialized yX4_takeAnswer.cls ∈ gl_T := (gl_T_in (by decide +kernel) (by decide +kernel))
set_option maxRecDepth 20000 in
theorem kn_X4_takeAnswer : Cond.instanceMethod yX4_takeAnswer ∈ gl_T := (gl_T_in (by decide +kernel) (by decide +kernel))
set_option maxRecDepth 20000 in
theorem kv_X4_takeAnswer : Cond.selects RX4 yX4_takeAnswer yX4_takeAnswer ∈ gl_T := (gl_T_in (by decide +kernel) (by decide +kernel))
set_option maxRecDepth 20000 in
theorem kw_X6_144 : Cond.methodLink RX6 144 yX4_takeAnswer ∈ gl_T ∧ Cond.instanceMethod yX4_takeAnswer ∈ gl_T ∧ Cond.selects RX4 yX4_takeAnswer yX4_takeAnswer ∈ gl_T ∧ Cond.initialized yX4_takeAnswer.cls ∈ gl_T ∧ Cond.code yX4_takeAnswer cX4_takeAnswer 4 none ∈ gl_T ∧ gl_Lk yX4_takeAnswer 3 := ⟨(gl_T_in (by decide +kernel) (by decide +kernel)), kn_X4_takeAnswer, kv_X4_takeAnswer, ki_X4_takeAnswer, kc_X4_takeAnswer, kl_X4_takeAnswer⟩
set_option maxRecDepth 20000 in
theorem kc_X6_offerAll : Cond.code yX6_offerAll cX6_offerAll 3 none ∈ gl_T := (gl_T_in (by decide +kernel) (by decide +kernel))
theorem kl_X6_offerAll : gl_Lk yX6_offerAll 0 := ⟨by decide +kernel, by decide +kernel, by decide +kernel⟩
set_option maxRecDepth 20000 in
theorem ki_X6_offerAll : Cond.initialized yX6_offerAll.cls ∈ gl_T := (gl_T_in (by decide +kernel) (by decide +kernel))
set_option maxRecDepth 20000 in
theorem kn_X6_offerAll : Cond.instanceMethod yX6_offerAll ∈ gl_T := (gl_T_in (by decide +kernel) (by decide +kernel))
set_option maxRecDepth 20000 in
theorem kv_X6_offerAll : Cond.selects RX6 yX6_offerAll yX6_offerAll ∈ gl_T := (gl_T_in (by decide +kernel) (by decide +kernel))
set_option maxRecDepth 20000 in
theorem kw_X6_147 : Cond.methodLink RX6 147 yX6_offerAll ∈ gl_T ∧ Cond.instanceMethod yX6_offerAll ∈ gl_T ∧ Cond.selects RX6 yX6_offerAll yX6_offerAll ∈ gl_T ∧ Cond.initialized yX6_offerAll.cls ∈ gl_T ∧ Cond.code yX6_offerAll cX6_offerAll 3 none ∈ gl_T ∧ gl_Lk yX6_offerAll 0 := ⟨(gl_T_in (by decide +kernel) (by decide +kernel)), kn_X6_offerAll, kv_X6_offerAll, ki_X6_offerAll, kc_X6_offerAll, kl_X6_offerAll⟩
set_option maxRecDepth 20000 in
theorem kc_X1_fewestUnfillable : Cond.code yX1_fewestUnfillable cX1_fewestUnfillable 5 (some .int) ∈ gl_T := (gl_T_in (by decide +kernel) (by decide +kernel))
theorem kl_X1_fewestUnfillable : gl_Lk yX1_fewestUnfillable 0 := ⟨by decide +kernel, by decide +kernel, by decide +kernel⟩
set_option maxRecDepth 20000 in
theorem ki_X1_fewestUnfillable : Cond.initialized yX1_fewestUnfillable.cls ∈ gl_T := (gl_T_in (by decide +kernel) (by decide +kernel))
set_option maxRecDepth 20000 in
theorem kn_X1_fewestUnfillable : Cond.instanceMethod yX1_fewestUnfillable ∈ gl_T := (gl_T_in (by decide +kernel) (by decide +kernel))
set_option maxRecDepth 20000 in
theorem kv_X1_fewestUnfillable : Cond.selects RX1 yX1_fewestUnfillable yX1_fewestUnfillable ∈ gl_T := (gl_T_in (by decide +kernel) (by decide +kernel))
set_option maxRecDepth 20000 in
theorem kw_X6_150 : Cond.methodLink RX6 150 yX1_fewestUnfillable ∈ gl_T ∧ Cond.instanceMethod yX1_fewestUnfillable ∈ gl_T ∧ Cond.selects RX1 yX1_fewestUnfillable yX1_fewestUnfillable ∈ gl_T ∧ Cond.initialized yX1_fewestUnfillable.cls ∈ gl_T ∧ Cond.code yX1_fewestUnfillable cX1_fewestUnfillable 5 (some .int) ∈ gl_T ∧ gl_Lk yX1_fewestUnfillable 0 := ⟨(gl_T_in (by decide +kernel) (by decide +kernel)), kn_X1_fewestUnfillable, kv_X1_fewestUnfillable, ki_X1_fewestUnfillable, kc_X1_fewestUnfillable, kl_X1_fewestUnfillable⟩
set_option maxRecDepth 20000 in
theorem kc_X6_endDayOf : Cond.code yX6_endDayOf cX6_endDayOf 4 none ∈ gl_T := (gl_T_in (by decide +kernel) (by decide +kernel))
theorem kl_X6_endDayOf : gl_Lk yX6_endDayOf 1 := ⟨by decide +kernel, by decide +kernel, by decide +kernel⟩
set_option maxRecDepth 20000 in
theorem ki_X6_endDayOf : Cond.initialized yX6_endDayOf.cls ∈ gl_T := (gl_T_in (by decide +kernel) (by decide +kernel))
set_option maxRecDepth 20000 in
theorem kn_X6_endDayOf : Cond.instanceMethod yX6_endDayOf ∈ gl_T := (gl_T_in (by decide +kernel) (by decide +kernel))
set_option maxRecDepth 20000 in
theorem kv_X6_endDayOf : Cond.selects RX6 yX6_endDayOf yX6_endDayOf ∈ gl_T := (gl_T_in (by decide +kernel) (by decide +kernel))
set_option maxRecDepth 20000 in
theorem kw_X6_153 : Cond.methodLink RX6 153 yX6_endDayOf ∈ gl_T ∧ Cond.instanceMethod yX6_endDayOf ∈ gl_T ∧ Cond.selects RX6 yX6_endDayOf yX6_endDayOf ∈ gl_T ∧ Cond.initialized yX6_endDayOf.cls ∈ gl_T ∧ Cond.code yX6_endDayOf cX6_endDayOf 4 none ∈ gl_T ∧ gl_Lk yX6_endDayOf 1 := ⟨(gl_T_in (by decide +kernel) (by decide +kernel)), kn_X6_endDayOf, kv_X6_endDayOf, ki_X6_endDayOf, kc_X6_endDayOf, kl_X6_endDayOf⟩
set_option maxRecDepth 20000 in
theorem kc_X5_teachersSeen : Cond.code yX5_teachersSeen cX5_teachersSeen 7 (some .int) ∈ gl_T := (gl_T_in (by decide +kernel) (by decide +kernel))
theorem kl_X5_teachersSeen : gl_Lk yX5_teachersSeen 3 := ⟨by decide +kernel, by decide +kernel, by decide +kernel⟩
set_option maxRecDepth 20000 in
theorem ki_X5_teachersSeen : Cond.initialized yX5_teachersSeen.cls ∈ gl_T := (gl_T_in (by decide +kernel) (by decide +kernel))
set_option maxRecDepth 20000 in
theorem kn_X5_teachersSeen : Cond.instanceMethod yX5_teachersSeen ∈ gl_T := (gl_T_in (by decide +kernel) (by decide +kernel))
set_option maxRecDepth 20000 in
theorem kv_X5_teachersSeen : Cond.selects RX5 yX5_teachersSeen yX5_teachersSeen ∈ gl_T := (gl_T_in (by decide +kernel) (by decide +kernel))
set_option maxRecDepth 20000 in
theorem kw_X6_160 : Cond.methodLink RX6 160 yX5_teachersSeen ∈ gl_T ∧ Cond.instanceMethod yX5_teachersSeen ∈ gl_T ∧ Cond.selects RX5 yX5_teachersSeen yX5_teachersSeen ∈ gl_T ∧ Cond.initialized yX5_teachersSeen.cls ∈ gl_T ∧ Cond.code yX5_teachersSeen cX5_teachersSeen 7 (some .int) ∈ gl_T ∧ gl_Lk yX5_teachersSeen 3 := ⟨(gl_T_in (by decide +kernel) (by decide +kernel)), kn_X5_teachersSeen, kv_X5_teachersSeen, ki_X5_teachersSeen, kc_X5_teachersSeen, kl_X5_teachersSeen⟩
set_option maxRecDepth 20000 in
theorem kw_X6_185 : Cond.methodLink RX6 185 yX4_minutesTo ∈ gl_T ∧ Cond.instanceMethod yX4_minutesTo ∈ gl_T ∧ Cond.selects RX4 yX4_minutesTo yX4_minutesTo ∈ gl_T ∧ Cond.initialized yX4_minutesTo.cls ∈ gl_T ∧ Cond.code yX4_minutesTo cX4_minutesTo 2 (some .int) ∈ gl_T ∧ gl_Lk yX4_minutesTo 1 := ⟨(gl_T_in (by decide +kernel) (by decide +kernel)), kn_X4_minutesTo, kv_X4_minutesTo, ki_X4_minutesTo, kc_X4_minutesTo, kl_X4_minutesTo⟩
set_option maxRecDepth 20000 in
theorem kc_X6_countInState : Cond.code yX6_countInState cX6_countInState 5 (some .int) ∈ gl_T := (gl_T_in (by decide +kernel) (by decide +kernel))
theorem kl_X6_countInState : gl_Lk yX6_countInState 1 := ⟨by decide +kernel, by decide +kernel, by decide +kernel⟩
set_option maxRecDepth 20000 in
theorem ki_X6_countInState : Cond.initialized yX6_countInState.cls ∈ gl_T := (gl_T_in (by decide +kernel) (by decide +kernel))
set_option maxRecDepth 20000 in
theorem kn_X6_countInState : Cond.instanceMethod yX6_countInState ∈ gl_T := (gl_T_in (by decide +kernel) (by decide +kernel))
set_option maxRecDepth 20000 in
theorem kv_X6_countInState : Cond.selects RX6 yX6_countInState yX6_countInState ∈ gl_T := (gl_T_in (by decide +kernel) (by decide +kernel))
set_option maxRecDepth 20000 in
theorem kw_X6_203 : Cond.methodLink RX6 203 yX6_countInState ∈ gl_T ∧ Cond.instanceMethod yX6_countInState ∈ gl_T ∧ Cond.selects RX6 yX6_countInState yX6_countInState ∈ gl_T ∧ Cond.initialized yX6_countInState.cls ∈ gl_T ∧ Cond.code yX6_countInState cX6_countInState 5 (some .int) ∈ gl_T ∧ gl_Lk yX6_countInState 1 := ⟨(gl_T_in (by decide +kernel) (by decide +kernel)), kn_X6_countInState, kv_X6_countInState, ki_X6_countInState, kc_X6_countInState, kl_X6_countInState⟩
set_option maxRecDepth 20000 in
theorem kc_X1_solve : Cond.code yX1_solve cX1_solve 2 none ∈ gl_T := (gl_T_in (by decide +kernel) (by decide +kernel))
theorem kl_X1_solve : gl_Lk yX1_solve 0 := ⟨by decide +kernel, by decide +kernel, by decide +kernel⟩
set_option maxRecDepth 20000 in
theorem ki_X1_solve : Cond.initialized yX1_solve.cls ∈ gl_T := (gl_T_in (by decide +kernel) (by decide +kernel))
set_option maxRecDepth 20000 in
theorem kn_X1_solve : Cond.instanceMethod yX1_solve ∈ gl_T := (gl_T_in (by decide +kernel) (by decide +kernel))
set_option maxRecDepth 20000 in
theorem kv_X1_solve : Cond.selects RX1 yX1_solve yX1_solve ∈ gl_T := (gl_T_in (by decide +kernel) (by decide +kernel))
set_option maxRecDepth 20000 in
theorem kw_X6_209 : Cond.methodLink RX6 209 yX1_solve ∈ gl_T ∧ Cond.instanceMethod yX1_solve ∈ gl_T ∧ Cond.selects RX1 yX1_solve yX1_solve ∈ gl_T ∧ Cond.initialized yX1_solve.cls ∈ gl_T ∧ Cond.code yX1_solve cX1_solve 2 none ∈ gl_T ∧ gl_Lk yX1_solve 0 := ⟨(gl_T_in (by decide +kernel) (by decide +kernel)), kn_X1_solve, kv_X1_solve, ki_X1_solve, kc_X1_solve, kl_X1_solve⟩
set_option maxRecDepth 20000 in
theorem kc_X1_clear : Cond.code yX1_clear cX1_clear 2 none ∈ gl_T := (gl_T_in (by decide +kernel) (by decide +kernel))
theorem kl_X1_clear : gl_Lk yX1_clear 0 := ⟨by decide +kernel, by decide +kernel, by decide +kernel⟩
set_option maxRecDepth 20000 in
theorem ki_X1_clear : Cond.initialized yX1_clear.cls ∈ gl_T := (gl_T_in (by decide +kernel) (by decide +kernel))
set_option maxRecDepth 20000 in
theorem kn_X1_clear : Cond.instanceMethod yX1_clear ∈ gl_T := (gl_T_in (by decide +kernel) (by decide +kernel))
set_option maxRecDepth 20000 in
theorem kv_X1_clear : Cond.selects RX1 yX1_clear yX1_clear ∈ gl_T := (gl_T_in (by decide +kernel) (by decide +kernel))
set_option maxRecDepth 20000 in
theorem kw_X6_212 : Cond.methodLink RX6 212 yX1_clear ∈ gl_T ∧ Cond.instanceMethod yX1_clear ∈ gl_T ∧ Cond.selects RX1 yX1_clear yX1_clear ∈ gl_T ∧ Cond.initialized yX1_clear.cls ∈ gl_T ∧ Cond.code yX1_clear cX1_clear 2 none ∈ gl_T ∧ gl_Lk yX1_clear 0 := ⟨(gl_T_in (by decide +kernel) (by decide +kernel)), kn_X1_clear, kv_X1_clear, ki_X1_clear, kc_X1_clear, kl_X1_clear⟩
set_option maxRecDepth 20000 in
theorem kc_X1_open : Cond.code yX1_open cX1_open 2 none ∈ gl_T := (gl_T_in (by decide +kernel) (by decide +kernel))
theorem kl_X1_open : gl_Lk yX1_open 1 := ⟨by decide +kernel, by decide +kernel, by decide +kernel⟩
set_option maxRecDepth 20000 in
theorem ki_X1_open : Cond.initialized yX1_open.cls ∈ gl_T := (gl_T_in (by decide +kernel) (by decide +kernel))
set_option maxRecDepth 20000 in
theorem kn_X1_open : Cond.instanceMethod yX1_open ∈ gl_T := (gl_T_in (by decide +kernel) (by decide +kernel))
set_option maxRecDepth 20000 in
theorem kv_X1_open : Cond.selects RX1 yX1_open yX1_open ∈ gl_T := (gl_T_in (by decide +kernel) (by decide +kernel))
set_option maxRecDepth 20000 in
theorem kw_X6_215 : Cond.methodLink RX6 215 yX1_open ∈ gl_T ∧ Cond.instanceMethod yX1_open ∈ gl_T ∧ Cond.selects RX1 yX1_open yX1_open ∈ gl_T ∧ Cond.initialized yX1_open.cls ∈ gl_T ∧ Cond.code yX1_open cX1_open 2 none ∈ gl_T ∧ gl_Lk yX1_open 1 := ⟨(gl_T_in (by decide +kernel) (by decide +kernel)), kn_X1_open, kv_X1_open, ki_X1_open, kc_X1_open, kl_X1_open⟩
set_option maxRecDepth 20000 in
theorem kc_X6_offerTeachers : Cond.code yX6_offerTeachers cX6_offerTeachers 5 none ∈ gl_T := (gl_T_in (by decide +kernel) (by decide +kernel))
theorem kl_X6_offerTeachers : gl_Lk yX6_offerTeachers 2 := ⟨by decide +kernel, by decide +kernel, by decide +kernel⟩
set_option maxRecDepth 20000 in
theorem ki_X6_offerTeachers : Cond.initialized yX6_offerTeachers.cls ∈ gl_T := (gl_T_in (by decide +kernel) (by decide +kernel))
set_option maxRecDepth 20000 in
theorem kn_X6_offerTeachers : Cond.instanceMethod yX6_offerTeachers ∈ gl_T := (gl_T_in (by decide +kernel) (by decide +kernel))
set_option maxRecDepth 20000 in
theorem kv_X6_offerTeachers : Cond.selects RX6 yX6_offerTeachers yX6_offerTeachers ∈ gl_T := (gl_T_in (by decide +kernel) (by decide +kernel))
set_option maxRecDepth 20000 in
theorem kw_X6_218 : Cond.methodLink RX6 218 yX6_offerTeachers ∈ gl_T ∧ Cond.instanceMethod yX6_offerTeachers ∈ gl_T ∧ Cond.selects RX6 yX6_offerTeachers yX6_offerTeachers ∈ gl_T ∧ Cond.initialized yX6_offerTeachers.cls ∈ gl_T ∧ Cond.code yX6_offerTeachers cX6_offerTeachers 5 none ∈ gl_T ∧ gl_Lk yX6_offerTeachers 2 := ⟨(gl_T_in (by decide +kernel) (by decide +kernel)), kn_X6_offerTeachers, kv_X6_offerTeachers, ki_X6_offerTeachers, kc_X6_offerTeachers, kl_X6_offerTeachers⟩
set_option maxRecDepth 20000 in
theorem kc_X1_offer : Cond.code yX1_offer cX1_offer 4 none ∈ gl_T := (gl_T_in (by decide +kernel) (by decide +kernel))
theorem kl_X1_offer : gl_Lk yX1_offer 3 := ⟨by decide +kernel, by decide +kernel, by decide +kernel⟩
set_option maxRecDepth 20000 in
theorem ki_X1_offer : Cond.initialized yX1_offer.cls ∈ gl_T := (gl_T_in (by decide +kernel) (by decide +kernel))
set_option maxRecDepth 20000 in
theorem kn_X1_offer : Cond.instanceMethod yX1_offer ∈ gl_T := (gl_T_in (by decide +kernel) (by decide +kernel))
set_option maxRecDepth 20000 in
theorem kv_X1_offer : Cond.selects RX1 yX1_offer yX1_offer ∈ gl_T := (gl_T_in (by decide +kernel) (by decide +kernel))
set_option maxRecDepth 20000 in
theorem kw_X6_222 : Cond.methodLink RX6 222 yX1_offer ∈ gl_T ∧ Cond.instanceMethod yX1_offer ∈ gl_T ∧ Cond.selects RX1 yX1_offer yX1_offer ∈ gl_T ∧ Cond.initialized yX1_offer.cls ∈ gl_T ∧ Cond.code yX1_offer cX1_offer 4 none ∈ gl_T ∧ gl_Lk yX1_offer 3 := ⟨(gl_T_in (by decide +kernel) (by decide +kernel)), kn_X1_offer, kv_X1_offer, ki_X1_offer, kc_X1_offer, kl_X1_offer⟩
set_option maxRecDepth 20000 in
theorem kc_X4_workAt : Cond.code yX4_workAt cX4_workAt 4 none ∈ gl_T := (gl_T_in (by decide +kernel) (by decide +kernel))
theorem kl_X4_workAt : gl_Lk yX4_workAt 2 := ⟨by decide +kernel, by decide +kernel, by decide +kernel⟩
set_option maxRecDepth 20000 in
theorem ki_X4_workAt : Cond.initialized yX4_workAt.cls ∈ gl_T := (gl_T_in (by decide +kernel) (by decide +kernel))
set_option maxRecDepth 20000 in
theorem kn_X4_workAt : Cond.instanceMethod yX4_workAt ∈ gl_T := (gl_T_in (by decide +kernel) (by decide +kernel))
set_option maxRecDepth 20000 in
theorem kv_X4_workAt : Cond.selects RX4 yX4_workAt yX4_workAt ∈ gl_T := (gl_T_in (by decide +kernel) (by decide +kernel))
set_option maxRecDepth 20000 in
theorem kw_X6_225 : Cond.methodLink RX6 225 yX4_workAt ∈ gl_T ∧ Cond.instanceMethod yX4_workAt ∈ gl_T ∧ Cond.selects RX4 yX4_workAt yX4_workAt ∈ gl_T ∧ Cond.initialized yX4_workAt.cls ∈ gl_T ∧ Cond.code yX4_workAt cX4_workAt 4 none ∈ gl_T ∧ gl_Lk yX4_workAt 2 := ⟨(gl_T_in (by decide +kernel) (by decide +kernel)), kn_X4_workAt, kv_X4_workAt, ki_X4_workAt, kc_X4_workAt, kl_X4_workAt⟩
set_option maxRecDepth 20000 in
theorem kc_X5_keep : Cond.code yX5_keep cX5_keep 4 none ∈ gl_T := (gl_T_in (by decide +kernel) (by decide +kernel))
theorem kl_X5_keep : gl_Lk yX5_keep 3 := ⟨by decide +kernel, by decide +kernel, by decide +kernel⟩
set_option maxRecDepth 20000 in
theorem ki_X5_keep : Cond.initialized yX5_keep.cls ∈ gl_T := (gl_T_in (by decide +kernel) (by decide +kernel))
set_option maxRecDepth 20000 in
theorem kn_X5_keep : Cond.instanceMethod yX5_keep ∈ gl_T := (gl_T_in (by decide +kernel) (by decide +kernel))
set_option maxRecDepth 20000 in
theorem kv_X5_keep : Cond.selects RX5 yX5_keep yX5_keep ∈ gl_T := (gl_T_in (by decide +kernel) (by decide +kernel))
set_option maxRecDepth 20000 in
theorem kw_X6_229 : Cond.methodLink RX6 229 yX5_keep ∈ gl_T ∧ Cond.instanceMethod yX5_keep ∈ gl_T ∧ Cond.selects RX5 yX5_keep yX5_keep ∈ gl_T ∧ Cond.initialized yX5_keep.cls ∈ gl_T ∧ Cond.code yX5_keep cX5_keep 4 none ∈ gl_T ∧ gl_Lk yX5_keep 3 := ⟨(gl_T_in (by decide +kernel) (by decide +kernel)), kn_X5_keep, kv_X5_keep, ki_X5_keep, kc_X5_keep, kl_X5_keep⟩
set_option maxRecDepth 20000 in
theorem kw_X6_233 : Cond.methodLink RX6 233 yX4_startDay ∈ gl_T ∧ Cond.instanceMethod yX4_startDay ∈ gl_T ∧ Cond.selects RX4 yX4_startDay yX4_startDay ∈ gl_T ∧ Cond.initialized yX4_startDay.cls ∈ gl_T ∧ Cond.code yX4_startDay cX4_startDay 1 none ∈ gl_T ∧ gl_Lk yX4_startDay 0 := ⟨(gl_T_in (by decide +kernel) (by decide +kernel)), kn_X4_startDay, kv_X4_startDay, ki_X4_startDay, kc_X4_startDay, kl_X4_startDay⟩
set_option maxRecDepth 20000 in
theorem kw_X7_1 : Cond.methodLink RX7 1 Lib.objectInit ∈ gl_T ∧ Cond.instanceMethod Lib.objectInit ∈ gl_T ∧ Cond.code Lib.objectInit ⟨#[0xb1]⟩ 1 none ∈ gl_T := ⟨(gl_T_in (by decide +kernel) (by decide +kernel)), (gl_T_in (by decide +kernel) (by decide +kernel)), (gl_T_in (by decide +kernel) (by decide +kernel))⟩
set_option maxRecDepth 20000 in
theorem kc_X7_asAtFirst : Cond.code yX7_asAtFirst cX7_asAtFirst 1 none ∈ gl_T := (gl_T_in (by decide +kernel) (by decide +kernel))
theorem kl_X7_asAtFirst : gl_Lk yX7_asAtFirst 1 := ⟨by decide +kernel, by decide +kernel, by decide +kernel⟩
set_option maxRecDepth 20000 in
theorem ki_X7_asAtFirst : Cond.initialized yX7_asAtFirst.cls ∈ gl_T := (gl_T_in (by decide +kernel) (by decide +kernel))
set_option maxRecDepth 20000 in
theorem ks_X7_asAtFirst : Cond.static yX7_asAtFirst ∈ gl_T := (gl_T_in (by decide +kernel) (by decide +kernel))
set_option maxRecDepth 20000 in
theorem kw_X7_85 : Cond.methodLink RX7 85 yX7_asAtFirst ∈ gl_T ∧ Cond.static yX7_asAtFirst ∈ gl_T ∧ Cond.initialized yX7_asAtFirst.cls ∈ gl_T ∧ Cond.code yX7_asAtFirst cX7_asAtFirst 1 none ∈ gl_T ∧ gl_Lk yX7_asAtFirst 1 := ⟨(gl_T_in (by decide +kernel) (by decide +kernel)), ks_X7_asAtFirst, ki_X7_asAtFirst, kc_X7_asAtFirst, kl_X7_asAtFirst⟩
set_option maxRecDepth 20000 in
theorem kc_X7_push : Cond.code yX7_push cX7_push 3 none ∈ gl_T := (gl_T_in (by decide +kernel) (by decide +kernel))
theorem kl_X7_push : gl_Lk yX7_push 1 := ⟨by decide +kernel, by decide +kernel, by decide +kernel⟩
set_option maxRecDepth 20000 in
theorem ki_X7_push : Cond.initialized yX7_push.cls ∈ gl_T := (gl_T_in (by decide +kernel) (by decide +kernel))
set_option maxRecDepth 20000 in
theorem kn_X7_push : Cond.instanceMethod yX7_push ∈ gl_T := (gl_T_in (by decide +kernel) (by decide +kernel))
set_option maxRecDepth 20000 in
theorem kv_X7_push : Cond.selects RX7 yX7_push yX7_push ∈ gl_T := (gl_T_in (by decide +kernel) (by decide +kernel))
set_option maxRecDepth 20000 in
theorem kw_X7_93 : Cond.methodLink RX7 93 yX7_push ∈ gl_T ∧ Cond.instanceMethod yX7_push ∈ gl_T ∧ Cond.selects RX7 yX7_push yX7_push ∈ gl_T ∧ Cond.initialized yX7_push.cls ∈ gl_T ∧ Cond.code yX7_push cX7_push 3 none ∈ gl_T ∧ gl_Lk yX7_push 1 := ⟨(gl_T_in (by decide +kernel) (by decide +kernel)), kn_X7_push, kv_X7_push, ki_X7_push, kc_X7_push, kl_X7_push⟩
set_option maxRecDepth 20000 in
theorem kc_X7_lies : Cond.code yX7_lies cX7_lies 3 (some .boolean) ∈ gl_T := (gl_T_in (by decide +kernel) (by decide +kernel))
theorem kl_X7_lies : gl_Lk yX7_lies 3 := ⟨by decide +kernel, by decide +kernel, by decide +kernel⟩
set_option maxRecDepth 20000 in
theorem ki_X7_lies : Cond.initialized yX7_lies.cls ∈ gl_T := (gl_T_in (by decide +kernel) (by decide +kernel))
set_option maxRecDepth 20000 in
theorem ks_X7_lies : Cond.static yX7_lies ∈ gl_T := (gl_T_in (by decide +kernel) (by decide +kernel))
set_option maxRecDepth 20000 in
theorem kw_X7_97 : Cond.methodLink RX7 97 yX7_lies ∈ gl_T ∧ Cond.static yX7_lies ∈ gl_T ∧ Cond.initialized yX7_lies.cls ∈ gl_T ∧ Cond.code yX7_lies cX7_lies 3 (some .boolean) ∈ gl_T ∧ gl_Lk yX7_lies 3 := ⟨(gl_T_in (by decide +kernel) (by decide +kernel)), ks_X7_lies, ki_X7_lies, kc_X7_lies, kl_X7_lies⟩
set_option maxRecDepth 20000 in
theorem kc_X7_at : Cond.code yX7_at cX7_at 3 (some .int) ∈ gl_T := (gl_T_in (by decide +kernel) (by decide +kernel))
theorem kl_X7_at : gl_Lk yX7_at 2 := ⟨by decide +kernel, by decide +kernel, by decide +kernel⟩
set_option maxRecDepth 20000 in
theorem ki_X7_at : Cond.initialized yX7_at.cls ∈ gl_T := (gl_T_in (by decide +kernel) (by decide +kernel))
set_option maxRecDepth 20000 in
theorem kn_X7_at : Cond.instanceMethod yX7_at ∈ gl_T := (gl_T_in (by decide +kernel) (by decide +kernel))
set_option maxRecDepth 20000 in
theorem kv_X7_at : Cond.selects RX7 yX7_at yX7_at ∈ gl_T := (gl_T_in (by decide +kernel) (by decide +kernel))
set_option maxRecDepth 20000 in
theorem kw_X7_101 : Cond.methodLink RX7 101 yX7_at ∈ gl_T ∧ Cond.instanceMethod yX7_at ∈ gl_T ∧ Cond.selects RX7 yX7_at yX7_at ∈ gl_T ∧ Cond.initialized yX7_at.cls ∈ gl_T ∧ Cond.code yX7_at cX7_at 3 (some .int) ∈ gl_T ∧ gl_Lk yX7_at 2 := ⟨(gl_T_in (by decide +kernel) (by decide +kernel)), kn_X7_at, kv_X7_at, ki_X7_at, kc_X7_at, kl_X7_at⟩
set_option maxRecDepth 20000 in
theorem kc_X7_letter : Cond.code yX7_letter cX7_letter 1 (some .int) ∈ gl_T := (gl_T_in (by decide +kernel) (by decide +kernel))
theorem kl_X7_letter : gl_Lk yX7_letter 1 := ⟨by decide +kernel, by decide +kernel, by decide +kernel⟩
set_option maxRecDepth 20000 in
theorem ki_X7_letter : Cond.initialized yX7_letter.cls ∈ gl_T := (gl_T_in (by decide +kernel) (by decide +kernel))
set_option maxRecDepth 20000 in
theorem ks_X7_letter : Cond.static yX7_letter ∈ gl_T := (gl_T_in (by decide +kernel) (by decide +kernel))
set_option maxRecDepth 20000 in
theorem kw_X7_105 : Cond.methodLink RX7 105 yX7_letter ∈ gl_T ∧ Cond.static yX7_letter ∈ gl_T ∧ Cond.initialized yX7_letter.cls ∈ gl_T ∧ Cond.code yX7_letter cX7_letter 1 (some .int) ∈ gl_T ∧ gl_Lk yX7_letter 1 := ⟨(gl_T_in (by decide +kernel) (by decide +kernel)), ks_X7_letter, ki_X7_letter, kc_X7_letter, kl_X7_letter⟩
set_option maxRecDepth 20000 in
theorem kc_X7_canBe : Cond.code yX7_canBe cX7_canBe 2 (some .boolean) ∈ gl_T := (gl_T_in (by decide +kernel) (by decide +kernel))
theorem kl_X7_canBe : gl_Lk yX7_canBe 2 := ⟨by decide +kernel, by decide +kernel, by decide +kernel⟩
set_option maxRecDepth 20000 in
theorem ki_X7_canBe : Cond.initialized yX7_canBe.cls ∈ gl_T := (gl_T_in (by decide +kernel) (by decide +kernel))
set_option maxRecDepth 20000 in
theorem ks_X7_canBe : Cond.static yX7_canBe ∈ gl_T := (gl_T_in (by decide +kernel) (by decide +kernel))
set_option maxRecDepth 20000 in
theorem kw_X7_109 : Cond.methodLink RX7 109 yX7_canBe ∈ gl_T ∧ Cond.static yX7_canBe ∈ gl_T ∧ Cond.initialized yX7_canBe.cls ∈ gl_T ∧ Cond.code yX7_canBe cX7_canBe 2 (some .boolean) ∈ gl_T ∧ gl_Lk yX7_canBe 2 := ⟨(gl_T_in (by decide +kernel) (by decide +kernel)), ks_X7_canBe, ki_X7_canBe, kc_X7_canBe, kl_X7_canBe⟩
set_option maxRecDepth 20000 in
theorem kc_X7_reads : Cond.code yX7_reads cX7_reads 7 (some .int) ∈ gl_T := (gl_T_in (by decide +kernel) (by decide +kernel))
theorem kl_X7_reads : gl_Lk yX7_reads 1 := ⟨by decide +kernel, by decide +kernel, by decide +kernel⟩
set_option maxRecDepth 20000 in
theorem ki_X7_reads : Cond.initialized yX7_reads.cls ∈ gl_T := (gl_T_in (by decide +kernel) (by decide +kernel))
set_option maxRecDepth 20000 in
theorem kn_X7_reads : Cond.instanceMethod yX7_reads ∈ gl_T := (gl_T_in (by decide +kernel) (by decide +kernel))
set_option maxRecDepth 20000 in
theorem kv_X7_reads : Cond.selects RX7 yX7_reads yX7_reads ∈ gl_T := (gl_T_in (by decide +kernel) (by decide +kernel))
set_option maxRecDepth 20000 in
theorem kw_X7_113 : Cond.methodLink RX7 113 yX7_reads ∈ gl_T ∧ Cond.instanceMethod yX7_reads ∈ gl_T ∧ Cond.selects RX7 yX7_reads yX7_reads ∈ gl_T ∧ Cond.initialized yX7_reads.cls ∈ gl_T ∧ Cond.code yX7_reads cX7_reads 7 (some .int) ∈ gl_T ∧ gl_Lk yX7_reads 1 := ⟨(gl_T_in (by decide +kernel) (by decide +kernel)), kn_X7_reads, kv_X7_reads, ki_X7_reads, kc_X7_reads, kl_X7_reads⟩
set_option maxRecDepth 20000 in
theorem kc_X7_isTeacher : Cond.code yX7_isTeacher cX7_isTeacher 2 (some .boolean) ∈ gl_T := (gl_T_in (by decide +kernel) (by decide +kernel))
theorem kl_X7_isTeacher : gl_Lk yX7_isTeacher 1 := ⟨by decide +kernel, by decide +kernel, by decide +kernel⟩
set_option maxRecDepth 20000 in
theorem ki_X7_isTeacher : Cond.initialized yX7_isTeacher.cls ∈ gl_T := (gl_T_in (by decide +kernel) (by decide +kernel))
set_option maxRecDepth 20000 in
theorem kn_X7_isTeacher : Cond.instanceMethod yX7_isTeacher ∈ gl_T := (gl_T_in (by decide +kernel) (by decide +kernel))
set_option maxRecDepth 20000 in
theorem kv_X7_isTeacher : Cond.selects RX7 yX7_isTeacher yX7_isTeacher ∈ gl_T := (gl_T_in (by decide +kernel) (by decide +kernel))
set_option maxRecDepth 20000 in
theorem kw_X7_126 : Cond.methodLink RX7 126 yX7_isTeacher ∈ gl_T ∧ Cond.instanceMethod yX7_isTeacher ∈ gl_T ∧ Cond.selects RX7 yX7_isTeacher yX7_isTeacher ∈ gl_T ∧ Cond.initialized yX7_isTeacher.cls ∈ gl_T ∧ Cond.code yX7_isTeacher cX7_isTeacher 2 (some .boolean) ∈ gl_T ∧ gl_Lk yX7_isTeacher 1 := ⟨(gl_T_in (by decide +kernel) (by decide +kernel)), kn_X7_isTeacher, kv_X7_isTeacher, ki_X7_isTeacher, kc_X7_isTeacher, kl_X7_isTeacher⟩
set_option maxRecDepth 20000 in
theorem kc_X7_has : Cond.code yX7_has cX7_has 2 (some .boolean) ∈ gl_T := (gl_T_in (by decide +kernel) (by decide +kernel))
theorem kl_X7_has : gl_Lk yX7_has 2 := ⟨by decide +kernel, by decide +kernel, by decide +kernel⟩
set_option maxRecDepth 20000 in
theorem ki_X7_has : Cond.initialized yX7_has.cls ∈ gl_T := (gl_T_in (by decide +kernel) (by decide +kernel))
set_option maxRecDepth 20000 in
theorem ks_X7_has : Cond.static yX7_has ∈ gl_T := (gl_T_in (by decide +kernel) (by decide +kernel))
set_option maxRecDepth 20000 in
theorem kw_X7_130 : Cond.methodLink RX7 130 yX7_has ∈ gl_T ∧ Cond.static yX7_has ∈ gl_T ∧ Cond.initialized yX7_has.cls ∈ gl_T ∧ Cond.code yX7_has cX7_has 2 (some .boolean) ∈ gl_T ∧ gl_Lk yX7_has 2 := ⟨(gl_T_in (by decide +kernel) (by decide +kernel)), ks_X7_has, ki_X7_has, kc_X7_has, kl_X7_has⟩
set_option maxRecDepth 20000 in
theorem kc_X7_isGap : Cond.code yX7_isGap cX7_isGap 2 (some .boolean) ∈ gl_T := (gl_T_in (by decide +kernel) (by decide +kernel))
theorem kl_X7_isGap : gl_Lk yX7_isGap 1 := ⟨by decide +kernel, by decide +kernel, by decide +kernel⟩
set_option maxRecDepth 20000 in
theorem ki_X7_isGap : Cond.initialized yX7_isGap.cls ∈ gl_T := (gl_T_in (by decide +kernel) (by decide +kernel))
set_option maxRecDepth 20000 in
theorem kn_X7_isGap : Cond.instanceMethod yX7_isGap ∈ gl_T := (gl_T_in (by decide +kernel) (by decide +kernel))
set_option maxRecDepth 20000 in
theorem kv_X7_isGap : Cond.selects RX7 yX7_isGap yX7_isGap ∈ gl_T := (gl_T_in (by decide +kernel) (by decide +kernel))
set_option maxRecDepth 20000 in
theorem kw_X7_136 : Cond.methodLink RX7 136 yX7_isGap ∈ gl_T ∧ Cond.instanceMethod yX7_isGap ∈ gl_T ∧ Cond.selects RX7 yX7_isGap yX7_isGap ∈ gl_T ∧ Cond.initialized yX7_isGap.cls ∈ gl_T ∧ Cond.code yX7_isGap cX7_isGap 2 (some .boolean) ∈ gl_T ∧ gl_Lk yX7_isGap 1 := ⟨(gl_T_in (by decide +kernel) (by decide +kernel)), kn_X7_isGap, kv_X7_isGap, ki_X7_isGap, kc_X7_isGap, kl_X7_isGap⟩
set_option maxRecDepth 20000 in
theorem kc_X7_canFill : Cond.code yX7_canFill cX7_canFill 3 (some .boolean) ∈ gl_T := (gl_T_in (by decide +kernel) (by decide +kernel))
theorem kl_X7_canFill : gl_Lk yX7_canFill 2 := ⟨by decide +kernel, by decide +kernel, by decide +kernel⟩
set_option maxRecDepth 20000 in
theorem ki_X7_canFill : Cond.initialized yX7_canFill.cls ∈ gl_T := (gl_T_in (by decide +kernel) (by decide +kernel))
set_option maxRecDepth 20000 in
theorem kn_X7_canFill : Cond.instanceMethod yX7_canFill ∈ gl_T := (gl_T_in (by decide +kernel) (by decide +kernel))
set_option maxRecDepth 20000 in
theorem kv_X7_canFill : Cond.selects RX7 yX7_canFill yX7_canFill ∈ gl_T := (gl_T_in (by decide +kernel) (by decide +kernel))
set_option maxRecDepth 20000 in
theorem kw_X7_139 : Cond.methodLink RX7 139 yX7_canFill ∈ gl_T ∧ Cond.instanceMethod yX7_canFill ∈ gl_T ∧ Cond.selects RX7 yX7_canFill yX7_canFill ∈ gl_T ∧ Cond.initialized yX7_canFill.cls ∈ gl_T ∧ Cond.code yX7_canFill cX7_canFill 3 (some .boolean) ∈ gl_T ∧ gl_Lk yX7_canFill 2 := ⟨(gl_T_in (by decide +kernel) (by decide +kernel)), kn_X7_canFill, kv_X7_canFill, ki_X7_canFill, kc_X7_canFill, kl_X7_canFill⟩
set_option maxRecDepth 20000 in
theorem kc_X7_costOf : Cond.code yX7_costOf cX7_costOf 4 (some .int) ∈ gl_T := (gl_T_in (by decide +kernel) (by decide +kernel))
theorem kl_X7_costOf : gl_Lk yX7_costOf 2 := ⟨by decide +kernel, by decide +kernel, by decide +kernel⟩
set_option maxRecDepth 20000 in
theorem ki_X7_costOf : Cond.initialized yX7_costOf.cls ∈ gl_T := (gl_T_in (by decide +kernel) (by decide +kernel))
set_option maxRecDepth 20000 in
theorem kn_X7_costOf : Cond.instanceMethod yX7_costOf ∈ gl_T := (gl_T_in (by decide +kernel) (by decide +kernel))
set_option maxRecDepth 20000 in
theorem kv_X7_costOf : Cond.selects RX7 yX7_costOf yX7_costOf ∈ gl_T := (gl_T_in (by decide +kernel) (by decide +kernel))
set_option maxRecDepth 20000 in
theorem kw_X7_142 : Cond.methodLink RX7 142 yX7_costOf ∈ gl_T ∧ Cond.instanceMethod yX7_costOf ∈ gl_T ∧ Cond.selects RX7 yX7_costOf yX7_costOf ∈ gl_T ∧ Cond.initialized yX7_costOf.cls ∈ gl_T ∧ Cond.code yX7_costOf cX7_costOf 4 (some .int) ∈ gl_T ∧ gl_Lk yX7_costOf 2 := ⟨(gl_T_in (by decide +kernel) (by decide +kernel)), kn_X7_costOf, kv_X7_costOf, ki_X7_costOf, kc_X7_costOf, kl_X7_costOf⟩
set_option maxRecDepth 20000 in
theorem kc_X7_senderOf : Cond.code yX7_senderOf cX7_senderOf 3 (some .int) ∈ gl_T := (gl_T_in (by decide +kernel) (by decide +kernel))
theorem kl_X7_senderOf : gl_Lk yX7_senderOf 1 := ⟨by decide +kernel, by decide +kernel, by decide +kernel⟩
set_option maxRecDepth 20000 in
theorem ki_X7_senderOf : Cond.initialized yX7_senderOf.cls ∈ gl_T := (gl_T_in (by decide +kernel) (by decide +kernel))
set_option maxRecDepth 20000 in
theorem kn_X7_senderOf : Cond.instanceMethod yX7_senderOf ∈ gl_T := (gl_T_in (by decide +kernel) (by decide +kernel))
set_option maxRecDepth 20000 in
theorem kv_X7_senderOf : Cond.selects RX7 yX7_senderOf yX7_senderOf ∈ gl_T := (gl_T_in (by decide +kernel) (by decide +kernel))
set_option maxRecDepth 20000 in
theorem kw_X7_146 : Cond.methodLink RX7 146 yX7_senderOf ∈ gl_T ∧ Cond.instanceMethod yX7_senderOf ∈ gl_T ∧ Cond.selects RX7 yX7_senderOf yX7_senderOf ∈ gl_T ∧ Cond.initialized yX7_senderOf.cls ∈ gl_T ∧ Cond.code yX7_senderOf cX7_senderOf 3 (some .int) ∈ gl_T ∧ gl_Lk yX7_senderOf 1 := ⟨(gl_T_in (by decide +kernel) (by decide +kernel)), kn_X7_senderOf, kv_X7_senderOf, ki_X7_senderOf, kc_X7_senderOf, kl_X7_senderOf⟩
set_option maxRecDepth 20000 in
theorem kc_X7_goes : Cond.code yX7_goes cX7_goes 3 (some .boolean) ∈ gl_T := (gl_T_in (by decide +kernel) (by decide +kernel))
theorem kl_X7_goes : gl_Lk yX7_goes 2 := ⟨by decide +kernel, by decide +kernel, by decide +kernel⟩
set_option maxRecDepth 20000 in
theorem ki_X7_goes : Cond.initialized yX7_goes.cls ∈ gl_T := (gl_T_in (by decide +kernel) (by decide +kernel))
set_option maxRecDepth 20000 in
theorem kn_X7_goes : Cond.instanceMethod yX7_goes ∈ gl_T := (gl_T_in (by decide +kernel) (by decide +kernel))
set_option maxRecDepth 20000 in
theorem kv_X7_goes : Cond.selects RX7 yX7_goes yX7_goes ∈ gl_T := (gl_T_in (by decide +kernel) (by decide +kernel))
set_option maxRecDepth 20000 in
theorem kw_X7_149 : Cond.methodLink RX7 149 yX7_goes ∈ gl_T ∧ Cond.instanceMethod yX7_goes ∈ gl_T ∧ Cond.selects RX7 yX7_goes yX7_goes ∈ gl_T ∧ Cond.initialized yX7_goes.cls ∈ gl_T ∧ Cond.code yX7_goes cX7_goes 3 (some .boolean) ∈ gl_T ∧ gl_Lk yX7_goes 2 := ⟨(gl_T_in (by decide +kernel) (by decide +kernel)), kn_X7_goes, kv_X7_goes, ki_X7_goes, kc_X7_goes, kl_X7_goes⟩
set_option maxRecDepth 20000 in
theorem kc_X7_worth : Cond.code yX7_worth cX7_worth 4 (some .int) ∈ gl_T := (gl_T_in (by decide +kernel) (by decide +kernel))
theorem kl_X7_worth : gl_Lk yX7_worth 3 := ⟨by decide +kernel, by decide +kernel, by decide +kernel⟩
set_option maxRecDepth 20000 in
theorem ki_X7_worth : Cond.initialized yX7_worth.cls ∈ gl_T := (gl_T_in (by decide +kernel) (by decide +kernel))
set_option maxRecDepth 20000 in
theorem kn_X7_worth : Cond.instanceMethod yX7_worth ∈ gl_T := (gl_T_in (by decide +kernel) (by decide +kernel))
set_option maxRecDepth 20000 in
theorem kv_X7_worth : Cond.selects RX7 yX7_worth yX7_worth ∈ gl_T := (gl_T_in (by decide +kernel) (by decide +kernel))
set_option maxRecDepth 20000 in
theorem kw_X7_152 : Cond.methodLink RX7 152 yX7_worth ∈ gl_T ∧ Cond.instanceMethod yX7_worth ∈ gl_T ∧ Cond.selects RX7 yX7_worth yX7_worth ∈ gl_T ∧ Cond.initialized yX7_worth.cls ∈ gl_T ∧ Cond.code yX7_worth cX7_worth 4 (some .int) ∈ gl_T ∧ gl_Lk yX7_worth 3 := ⟨(gl_T_in (by decide +kernel) (by decide +kernel)), kn_X7_worth, kv_X7_worth, ki_X7_worth, kc_X7_worth, kl_X7_worth⟩
set_option maxRecDepth 20000 in
theorem kc_X7_works : Cond.code yX7_works cX7_works 7 none ∈ gl_T := (gl_T_in (by decide +kernel) (by decide +kernel))
theorem kl_X7_works : gl_Lk yX7_works 0 := ⟨by decide +kernel, by decide +kernel, by decide +kernel⟩
set_option maxRecDepth 20000 in
theorem ki_X7_works : Cond.initialized yX7_works.cls ∈ gl_T := (gl_T_in (by decide +kernel) (by decide +kernel))
set_option maxRecDepth 20000 in
theorem kn_X7_works : Cond.instanceMethod yX7_works ∈ gl_T := (gl_T_in (by decide +kernel) (by decide +kernel))
set_option maxRecDepth 20000 in
theorem kv_X7_works : Cond.selects RX7 yX7_works yX7_works ∈ gl_T := (gl_T_in (by decide +kernel) (by decide +kernel))
set_option maxRecDepth 20000 in
theorem kw_X7_162 : Cond.methodLink RX7 162 yX7_works ∈ gl_T ∧ Cond.instanceMethod yX7_works ∈ gl_T ∧ Cond.selects RX7 yX7_works yX7_works ∈ gl_T ∧ Cond.initialized yX7_works.cls ∈ gl_T ∧ Cond.code yX7_works cX7_works 7 none ∈ gl_T ∧ gl_Lk yX7_works 0 := ⟨(gl_T_in (by decide +kernel) (by decide +kernel)), kn_X7_works, kv_X7_works, ki_X7_works, kc_X7_works, kl_X7_works⟩
set_option maxRecDepth 20000 in
theorem kc_X7_sizeOf : Cond.code yX7_sizeOf cX7_sizeOf 3 (some .int) ∈ gl_T := (gl_T_in (by decide +kernel) (by decide +kernel))
theorem kl_X7_sizeOf : gl_Lk yX7_sizeOf 1 := ⟨by decide +kernel, by decide +kernel, by decide +kernel⟩
set_option maxRecDepth 20000 in
theorem ki_X7_sizeOf : Cond.initialized yX7_sizeOf.cls ∈ gl_T := (gl_T_in (by decide +kernel) (by decide +kernel))
set_option maxRecDepth 20000 in
theorem ks_X7_sizeOf : Cond.static yX7_sizeOf ∈ gl_T := (gl_T_in (by decide +kernel) (by decide +kernel))
set_option maxRecDepth 20000 in
theorem kw_X7_165 : Cond.methodLink RX7 165 yX7_sizeOf ∈ gl_T ∧ Cond.static yX7_sizeOf ∈ gl_T ∧ Cond.initialized yX7_sizeOf.cls ∈ gl_T ∧ Cond.code yX7_sizeOf cX7_sizeOf 3 (some .int) ∈ gl_T ∧ gl_Lk yX7_sizeOf 1 := ⟨(gl_T_in (by decide +kernel) (by decide +kernel)), ks_X7_sizeOf, ki_X7_sizeOf, kc_X7_sizeOf, kl_X7_sizeOf⟩
set_option maxRecDepth 20000 in
theorem kc_X7_goesBy : Cond.code yX7_goesBy cX7_goesBy 4 none ∈ gl_T := (gl_T_in (by decide +kernel) (by decide +kernel))
theorem kl_X7_goesBy : gl_Lk yX7_goesBy 1 := ⟨by decide +kernel, by decide +kernel, by decide +kernel⟩
set_option maxRecDepth 20000 in
theorem ki_X7_goesBy : Cond.initialized yX7_goesBy.cls ∈ gl_T := (gl_T_in (by decide +kernel) (by decide +kernel))
set_option maxRecDepth 20000 in
theorem kn_X7_goesBy : Cond.instanceMethod yX7_goesBy ∈ gl_T := (gl_T_in (by decide +kernel) (by decide +kernel))
set_option maxRecDepth 20000 in
theorem kv_X7_goesBy : Cond.selects RX7 yX7_goesBy yX7_goesBy ∈ gl_T := (gl_T_in (by decide +kernel) (by decide +kernel))
set_option maxRecDepth 20000 in
theorem kw_X7_171 : Cond.methodLink RX7 171 yX7_goesBy ∈ gl_T ∧ Cond.instanceMethod yX7_goesBy ∈ gl_T ∧ Cond.selects RX7 yX7_goesBy yX7_goesBy ∈ gl_T ∧ Cond.initialized yX7_goesBy.cls ∈ gl_T ∧ Cond.code yX7_goesBy cX7_goesBy 4 none ∈ gl_T ∧ gl_Lk yX7_goesBy 1 := ⟨(gl_T_in (by decide +kernel) (by decide +kernel)), kn_X7_goesBy, kv_X7_goesBy, ki_X7_goesBy, kc_X7_goesBy, kl_X7_goesBy⟩
set_option maxRecDepth 20000 in
theorem kc_X7_kept : Cond.code yX7_kept cX7_kept 1 (some .int) ∈ gl_T := (gl_T_in (by decide +kernel) (by decide +kernel))
theorem kl_X7_kept : gl_Lk yX7_kept 0 := ⟨by decide +kernel, by decide +kernel, by decide +kernel⟩
set_option maxRecDepth 20000 in
theorem ki_X7_kept : Cond.initialized yX7_kept.cls ∈ gl_T := (gl_T_in (by decide +kernel) (by decide +kernel))
set_option maxRecDepth 20000 in
theorem kn_X7_kept : Cond.instanceMethod yX7_kept ∈ gl_T := (gl_T_in (by decide +kernel) (by decide +kernel))
set_option maxRecDepth 20000 in
theorem kv_X7_kept : Cond.selects RX7 yX7_kept yX7_kept ∈ gl_T := (gl_T_in (by decide +kernel) (by decide +kernel))
set_option maxRecDepth 20000 in
theorem kw_X7_174 : Cond.methodLink RX7 174 yX7_kept ∈ gl_T ∧ Cond.instanceMethod yX7_kept ∈ gl_T ∧ Cond.selects RX7 yX7_kept yX7_kept ∈ gl_T ∧ Cond.initialized yX7_kept.cls ∈ gl_T ∧ Cond.code yX7_kept cX7_kept 1 (some .int) ∈ gl_T ∧ gl_Lk yX7_kept 0 := ⟨(gl_T_in (by decide +kernel) (by decide +kernel)), kn_X7_kept, kv_X7_kept, ki_X7_kept, kc_X7_kept, kl_X7_kept⟩
set_option maxRecDepth 20000 in
theorem kc_X7_thoseWho : Cond.code yX7_thoseWho cX7_thoseWho 4 (some .int) ∈ gl_T := (gl_T_in (by decide +kernel) (by decide +kernel))
theorem kl_X7_thoseWho : gl_Lk yX7_thoseWho 1 := ⟨by decide +kernel, by decide +kernel, by decide +kernel⟩
set_option maxRecDepth 20000 in
theorem ki_X7_thoseWho : Cond.initialized yX7_thoseWho.cls ∈ gl_T := (gl_T_in (by decide +kernel) (by decide +kernel))
set_option maxRecDepth 20000 in
theorem kn_X7_thoseWho : Cond.instanceMethod yX7_thoseWho ∈ gl_T := (gl_T_in (by decide +kernel) (by decide +kernel))
set_option maxRecDepth 20000 in
theorem kv_X7_thoseWho : Cond.selects RX7 yX7_thoseWho yX7_thoseWho ∈ gl_T := (gl_T_in (by decide +kernel) (by decide +kernel))
set_option maxRecDepth 20000 in
theorem kw_X7_178 : Cond.methodLink RX7 178 yX7_thoseWho ∈ gl_T ∧ Cond.instanceMethod yX7_thoseWho ∈ gl_T ∧ Cond.selects RX7 yX7_thoseWho yX7_thoseWho ∈ gl_T ∧ Cond.initialized yX7_thoseWho.cls ∈ gl_T ∧ Cond.code yX7_thoseWho cX7_thoseWho 4 (some .int) ∈ gl_T ∧ gl_Lk yX7_thoseWho 1 := ⟨(gl_T_in (by decide +kernel) (by decide +kernel)), kn_X7_thoseWho, kv_X7_thoseWho, ki_X7_thoseWho, kc_X7_thoseWho, kl_X7_thoseWho⟩
end
section
/-! the methods' records -/
def mX0_init : gl_M := (cX0_init, RX0, 6, none, true, 1, 0, 0)
def mX1_init : gl_M := (cX1_init, RX1, 1, none, true, 1, 15, 180)
def mX1_clear : gl_M := (cX1_clear, RX1, 2, none, false, 1, 0, 0)
def mX1_open : gl_M := (cX1_open, RX1, 2, none, false, 1, 0, 0)
def mX1_offer : gl_M := (cX1_offer, RX1, 4, none, false, 1, 0, 0)
def mX1_solve : gl_M := (cX1_solve, RX1, 2, none, false, 4, 0, 0)
def mX1_teacherFor : gl_M := (cX1_teacherFor, RX1, 2, (some .int), false, 1, 0, 0)
def mX1_gapFor : gl_M := (cX1_gapFor, RX1, 3, (some .int), false, 0, 0, 0)
def mX1_filled : gl_M := (cX1_filled, RX1, 3, (some .int), false, 0, 0, 0)
def mX1_costInAll : gl_M := (cX1_costInAll, RX1, 3, (some .int), false, 1, 0, 0)
def mX1_fewestUnfillable : gl_M := (cX1_fewestUnfillable, RX1, 5, (some .int), false, 2, 0, 0)
def mX1_takersOf : gl_M := (cX1_takersOf, RX1, 4, (some .int), false, 1, 0, 0)
def mX1_isGap : gl_M := (cX1_isGap, RX1, 1, (some .boolean), false, 0, 0, 0)
def mX1_digit : gl_M := (cX1_digit, RX1, 2, (some .long), false, 0, 0, 0)
def mX1_weightOf : gl_M := (cX1_weightOf, RX1, 3, (some .long), false, 0, 0, 0)
def mX1_bringIn : gl_M := (cX1_bringIn, RX1, 8, none, false, 3, 0, 0)
def mX1_findChains : gl_M := (cX1_findChains, RX1, 5, none, false, 2, 0, 0)
def mX1_lengthenChains : gl_M := (cX1_lengthenChains, RX1, 8, (some .boolean), false, 1, 0, 0)
def mX1_cheapestEnd : gl_M := (cX1_cheapestEnd, RX1, 5, (some .int), false, 1, 0, 0)
def mX1_shiftAlong : gl_M := (cX1_shiftAlong, RX1, 8, none, false, 1, 0, 0)
def mX2_init : gl_M := (cX2_init, RX2, 1, none, true, 1, 2, 14)
def mX2_number : gl_M := (cX2_number, RX2, 2, (some .int), false, 0, 0, 0)
def mX2_read : gl_M := (cX2_read, RX2, 5, (some .int), false, 3, 0, 0)
def mX2_readClause : gl_M := (cX2_readClause, RX2, 6, (some .int), false, 2, 0, 0)
def mX2_readDigits : gl_M := (cX2_readDigits, RX2, 5, (some .int), false, 1, 0, 0)
def mX2_isDigit : gl_M := (cX2_isDigit, RX2, 1, (some .boolean), false, 0, 0, 0)
def mX2_kindOf : gl_M := (cX2_kindOf, RX2, 2, (some .int), false, 0, 0, 0)
def mX3_init : gl_M := (cX3_init, RX3, 1, none, true, 1, 1, 60)
def mX3_hasRoom : gl_M := (cX3_hasRoom, RX3, 1, (some .boolean), false, 0, 0, 0)
def mX3_append : gl_M := (cX3_append, RX3, 3, none, false, 0, 0, 0)
def mX3_signAt : gl_M := (cX3_signAt, RX3, 3, (some .int), false, 0, 0, 0)
def mX4_init : gl_M := (cX4_init, RX4, 4, none, true, 1, 1, 6)
def mX4_startDay : gl_M := (cX4_startDay, RX4, 1, none, false, 0, 0, 0)
def mX4_minutesTo : gl_M := (cX4_minutesTo, RX4, 2, (some .int), false, 0, 0, 0)
def mX4_fills : gl_M := (cX4_fills, RX4, 4, (some .boolean), false, 1, 0, 0)
def mX4_costFor : gl_M := (cX4_costFor, RX4, 4, (some .int), false, 1, 0, 0)
def mX4_takeAnswer : gl_M := (cX4_takeAnswer, RX4, 4, none, false, 0, 0, 0)
def mX4_workAt : gl_M := (cX4_workAt, RX4, 4, none, false, 1, 0, 0)
def mX5_init : gl_M := (cX5_init, RX5, 1, none, true, 1, 3, 1200)
def mX5_keep : gl_M := (cX5_keep, RX5, 4, none, false, 1, 0, 0)
def mX5_teachersSeen : gl_M := (cX5_teachersSeen, RX5, 7, (some .int), false, 1, 0, 0)
def mX5_roomOf : gl_M := (cX5_roomOf, RX5, 2, (some .int), false, 0, 0, 0)
def mX6_init : gl_M := (cX6_init, RX6, 1, none, true, 2, 27, 1493)
def mX6_feed : gl_M := (cX6_feed, RX6, 6, (some .int), false, 1, 0, 0)
def mX6_rules : gl_M := (cX6_rules, RX6, 3, (some .int), false, 4, 0, 0)
def mX6_teacher : gl_M := (cX6_teacher, RX6, 4, (some .int), false, 2, 2, 17)
def mX6_way : gl_M := (cX6_way, RX6, 5, (some .boolean), false, 2, 0, 0)
def mX6_likes : gl_M := (cX6_likes, RX6, 5, (some .boolean), false, 2, 0, 0)
def mX6_gap : gl_M := (cX6_gap, RX6, 6, (some .int), false, 2, 1, 5)
def mX6_can : gl_M := (cX6_can, RX6, 5, (some .int), false, 2, 0, 0)
def mX6_cost : gl_M := (cX6_cost, RX6, 5, (some .int), false, 2, 0, 0)
def mX6_match : gl_M := (cX6_match, RX6, 1, (some .int), false, 6, 0, 0)
def mX6_costs : gl_M := (cX6_costs, RX6, 1, (some .int), false, 6, 0, 0)
def mX6_who : gl_M := (cX6_who, RX6, 3, (some .int), false, 6, 0, 0)
def mX6_next : gl_M := (cX6_next, RX6, 3, (some .int), false, 6, 0, 0)
def mX6_answer : gl_M := (cX6_answer, RX6, 5, (some .boolean), false, 6, 0, 0)
def mX6_hall : gl_M := (cX6_hall, RX6, 1, (some .int), false, 4, 0, 0)
def mX6_day : gl_M := (cX6_day, RX6, 2, (some .int), false, 3, 0, 0)
def mX6_pay : gl_M := (cX6_pay, RX6, 3, (some .long), false, 2, 0, 0)
def mX6_strangers : gl_M := (cX6_strangers, RX6, 3, (some .int), false, 2, 0, 0)
def mX6_look : gl_M := (cX6_look, RX6, 4, (some .int), false, 2, 0, 0)
def mX6_about : gl_M := (cX6_about, RX6, 4, (some .int), false, 2, 0, 0)
def mX6_count : gl_M := (cX6_count, RX6, 2, (some .int), false, 3, 0, 0)
def mX6_within : gl_M := (cX6_within, RX6, 3, (some .boolean), false, 0, 0, 0)
def mX6_isSchool : gl_M := (cX6_isSchool, RX6, 1, (some .boolean), false, 1, 0, 0)
def mX6_isClass : gl_M := (cX6_isClass, RX6, 1, (some .boolean), false, 1, 0, 0)
def mX6_hasBit : gl_M := (cX6_hasBit, RX6, 2, (some .boolean), false, 0, 0, 0)
def mX6_teacherAt : gl_M := (cX6_teacherAt, RX6, 2, (some (.object "MorningDesk$Teacher")), false, 1, 0, 0)
def mX6_gapAt : gl_M := (cX6_gapAt, RX6, 2, (some (.object "MorningDesk$Gap")), false, 1, 0, 0)
def mX6_sentTo : gl_M := (cX6_sentTo, RX6, 4, (some .int), false, 2, 0, 0)
def mX6_countInState : gl_M := (cX6_countInState, RX6, 5, (some .int), false, 2, 0, 0)
def mX6_findMatch : gl_M := (cX6_findMatch, RX6, 1, none, false, 5, 0, 0)
def mX6_offerAll : gl_M := (cX6_offerAll, RX6, 3, none, false, 3, 0, 0)
def mX6_offerTeachers : gl_M := (cX6_offerTeachers, RX6, 5, none, false, 2, 0, 0)
def mX6_isCalledAhead : gl_M := (cX6_isCalledAhead, RX6, 7, (some .boolean), false, 2, 0, 0)
def mX6_endDayOf : gl_M := (cX6_endDayOf, RX6, 4, none, false, 2, 0, 0)
def mX7_init : gl_M := (cX7_init, RX7, 1, none, true, 1, 24, 46582)
def mX7_lies : gl_M := (cX7_lies, RX7, 3, (some .boolean), false, 0, 0, 0)
def mX7_has : gl_M := (cX7_has, RX7, 2, (some .boolean), false, 0, 0, 0)
def mX7_sizeOf : gl_M := (cX7_sizeOf, RX7, 3, (some .int), false, 0, 0, 0)
def mX7_push : gl_M := (cX7_push, RX7, 3, none, false, 0, 0, 0)
def mX7_feed : gl_M := (cX7_feed, RX7, 6, (some .int), false, 1, 0, 0)
def mX7_asAtFirst : gl_M := (cX7_asAtFirst, RX7, 1, none, false, 0, 0, 0)
def mX7_letter : gl_M := (cX7_letter, RX7, 1, (some .int), false, 0, 0, 0)
def mX7_canBe : gl_M := (cX7_canBe, RX7, 2, (some .boolean), false, 1, 0, 0)
def mX7_at : gl_M := (cX7_at, RX7, 3, (some .int), false, 0, 0, 0)
def mX7_reads : gl_M := (cX7_reads, RX7, 7, (some .int), false, 2, 0, 0)
def mX7_rules : gl_M := (cX7_rules, RX7, 4, (some .int), false, 3, 0, 0)
def mX7_isTeacher : gl_M := (cX7_isTeacher, RX7, 2, (some .boolean), false, 1, 0, 0)
def mX7_isGap : gl_M := (cX7_isGap, RX7, 2, (some .boolean), false, 1, 0, 0)
def mX7_teacher : gl_M := (cX7_teacher, RX7, 5, (some .int), false, 1, 0, 0)
def mX7_way : gl_M := (cX7_way, RX7, 4, (some .boolean), false, 2, 0, 0)
def mX7_likes : gl_M := (cX7_likes, RX7, 4, (some .boolean), false, 2, 0, 0)
def mX7_gap : gl_M := (cX7_gap, RX7, 6, (some .int), false, 1, 0, 0)
def mX7_canFill : gl_M := (cX7_canFill, RX7, 3, (some .boolean), false, 1, 0, 0)
def mX7_costOf : gl_M := (cX7_costOf, RX7, 4, (some .int), false, 1, 0, 0)
def mX7_can : gl_M := (cX7_can, RX7, 3, (some .int), false, 2, 0, 0)
def mX7_cost : gl_M := (cX7_cost, RX7, 3, (some .int), false, 2, 0, 0)
def mX7_senderOf : gl_M := (cX7_senderOf, RX7, 3, (some .int), false, 0, 0, 0)
def mX7_goes : gl_M := (cX7_goes, RX7, 3, (some .boolean), false, 2, 0, 0)
def mX7_worth : gl_M := (cX7_worth, RX7, 4, (some .int), false, 2, 0, 0)
def mX7_works : gl_M := (cX7_works, RX7, 7, none, false, 3, 0, 0)
def mX7_match : gl_M := (cX7_match, RX7, 1, (some .int), false, 4, 0, 0)
def mX7_costs : gl_M := (cX7_costs, RX7, 1, (some .int), false, 4, 0, 0)
def mX7_who : gl_M := (cX7_who, RX7, 3, (some .int), false, 4, 0, 0)
def mX7_next : gl_M := (cX7_next, RX7, 3, (some .int), false, 4, 0, 0)
def mX7_answer : gl_M := (cX7_answer, RX7, 5, (some .boolean), false, 4, 0, 0)
def mX7_hall : gl_M := (cX7_hall, RX7, 8, (some .int), false, 4, 0, 0)
def mX7_goesBy : gl_M := (cX7_goesBy, RX7, 4, none, false, 1, 0, 0)
def mX7_day : gl_M := (cX7_day, RX7, 2, (some .int), false, 2, 0, 0)
def mX7_pay : gl_M := (cX7_pay, RX7, 2, (some .long), false, 2, 0, 0)
def mX7_kept : gl_M := (cX7_kept, RX7, 1, (some .int), false, 0, 0, 0)
def mX7_strangers : gl_M := (cX7_strangers, RX7, 5, (some .int), false, 1, 0, 0)
def mX7_look : gl_M := (cX7_look, RX7, 3, (some .int), false, 2, 0, 0)
def mX7_about : gl_M := (cX7_about, RX7, 3, (some .int), false, 2, 0, 0)
def mX7_thoseWho : gl_M := (cX7_thoseWho, RX7, 4, (some .int), false, 0, 0, 0)
def mX7_count : gl_M := (cX7_count, RX7, 2, (some .int), false, 1, 0, 0)
def mJ6_bitCount_0f7a4 : gl_M := (cJ6_bitCount_0f7a4, RJ6, 1, (some .int), false, 0, 0, 0)
def mJ9_max_7cf53 : gl_M := (cJ9_max_7cf53, RJ9, 2, (some .int), false, 0, 0, 0)
def mJ9_min_7cf53 : gl_M := (cJ9_min_7cf53, RJ9, 2, (some .int), false, 0, 0, 0)
def mJ7_fill_d0a16 : gl_M := (cJ7_fill_d0a16, RJ7, 5, none, false, 0, 0, 0)
def mJ7_fill_53178 : gl_M := (cJ7_fill_53178, RJ7, 4, none, false, 0, 0, 0)
end
section
/-! small methods that touch no cell -/
theorem wi_t {a b c : Int32} (h1 : ¬ a < b) (h2 : ¬ c < a) : (if b ≤ a ∧ a ≤ c then (1 : Int32) else 0) = 1 := if_pos ⟨Int32.not_lt.mp h1, Int32.not_lt.mp h2⟩
theorem wi_f1 {a b c : Int32} (h : a < b) : (if b ≤ a ∧ a ≤ c then (1 : Int32) else 0) = 0 := if_neg (fun q => Int32.not_lt.mpr q.1 h)
theorem wi_f2 {a b c : Int32} (h : c < a) : (if b ≤ a ∧ a ≤ c then (1 : Int32) else 0) = 0 := if_neg (fun q => Int32.not_lt.mpr q.2 h)
def hb_ (a b : Int32) : Bool := decide ((a >>> (b &&& 31)) &&& 1 = 1)
theorem gg_ab {M : gl_M} {x : gl_X} {Z : State → Prop} {pc : Nat} {ls : List (Option Value)} {st : List Value} {S : gl_H} {k : Nat × Nat} {P : gl_H → Prop} (h : P S) (K : ∀ S1, P S1 → GG M x Z pc ls st S1 k) : GG M x Z pc ls st S k := K S h
theorem sp_X6_within (S : gl_H) (a b c : Int32) : Sp mX6_within yX6_within [.int a, .int b, .int c] S (fun r S1 => S1 = S ∧ r = some (.int (if b ≤ a ∧ a ≤ c then 1 else 0))) := by
  refine gl_enter (j := 0) (by decide +kernel) rfl (fun h => absurd h (by decide)) (Nat.le_of_ble_eq_true rfl) rfl (fun x => ?_)
  refine gg_iload_n dX6_within_0 rfl rfl ?_
  refine gg_iload_n dX6_within_1 rfl rfl ?_
  refine gg_icmp_lt (tgt := 14) dX6_within_2 (by decide) (fun c2 => ?_) (fun c2 => ?_)
  · refine gg_iconst (v := 0) dX6_within_14 (by decide) ?_
    exact gg_ireturn dX6_within_15 rfl rfl ⟨(Nat.le_of_ble_eq_true rfl), (Nat.le_of_ble_eq_true rfl)⟩ (⟨rfl, by first | rw [wi_t c2 c7] | rw [wi_f1 c2] | rw [wi_f2 c7]⟩)
  · refine gg_iload_n dX6_within_5 rfl rfl ?_
    refine gg_iload_n dX6_within_6 rfl rfl ?_
    refine gg_icmp_gt (tgt := 14) dX6_within_7 (by decide) (fun c7 => ?_) (fun c7 => ?_)
    · refine gg_iconst (v := 0) dX6_within_14 (by decide) ?_
      exact gg_ireturn dX6_within_15 rfl rfl ⟨(Nat.le_of_ble_eq_true rfl), (Nat.le_of_ble_eq_true rfl)⟩ (⟨rfl, by first | rw [wi_t c2 c7] | rw [wi_f1 c2] | rw [wi_f2 c7]⟩)
    · refine gg_iconst (v := 1) dX6_within_10 (by decide) ?_
      refine gg_goto (tgt := 15) dX6_within_11 (by decide) ?_
      exact gg_ireturn dX6_within_15 rfl rfl ⟨(Nat.le_of_ble_eq_true rfl), (Nat.le_of_ble_eq_true rfl)⟩ (⟨rfl, by first | rw [wi_t c2 c7] | rw [wi_f1 c2] | rw [wi_f2 c7]⟩)
theorem sp_X7_lies (S : gl_H) (a b c : Int32) : Sp mX7_lies yX7_lies [.int a, .int b, .int c] S (fun r S1 => S1 = S ∧ r = some (.int (if b ≤ a ∧ a ≤ c then 1 else 0))) := by
  refine gl_enter (j := 0) (by decide +kernel) rfl (fun h => absurd h (by decide)) (Nat.le_of_ble_eq_true rfl) rfl (fun x => ?_)
  refine gg_iload_n dX7_lies_0 rfl rfl ?_
  refine gg_iload_n dX7_lies_1 rfl rfl ?_
  refine gg_icmp_lt (tgt := 14) dX7_lies_2 (by decide) (fun c2 => ?_) (fun c2 => ?_)
  · refine gg_iconst (v := 0) dX7_lies_14 (by decide) ?_
    exact gg_ireturn dX7_lies_15 rfl rfl ⟨(Nat.le_of_ble_eq_true rfl), (Nat.le_of_ble_eq_true rfl)⟩ (⟨rfl, by first | rw [wi_t c2 c7] | rw [wi_f1 c2] | rw [wi_f2 c7]⟩)
  · refine gg_iload_n dX7_lies_5 rfl rfl ?_
    refine gg_iload_n dX7_lies_6 rfl rfl ?_
    refine gg_icmp_gt (tgt := 14) dX7_lies_7 (by decide) (fun c7 => ?_) (fun c7 => ?_)
    · refine gg_iconst (v := 0) dX7_lies_14 (by decide) ?_
      exact gg_ireturn dX7_lies_15 rfl rfl ⟨(Nat.le_of_ble_eq_true rfl), (Nat.le_of_ble_eq_true rfl)⟩ (⟨rfl, by first | rw [wi_t c2 c7] | rw [wi_f1 c2] | rw [wi_f2 c7]⟩)
    · refine gg_iconst (v := 1) dX7_lies_10 (by decide) ?_
      refine gg_goto (tgt := 15) dX7_lies_11 (by decide) ?_
      exact gg_ireturn dX7_lies_15 rfl rfl ⟨(Nat.le_of_ble_eq_true rfl), (Nat.le_of_ble_eq_true rfl)⟩ (⟨rfl, by first | rw [wi_t c2 c7] | rw [wi_f1 c2] | rw [wi_f2 c7]⟩)
theorem sp_X6_hasBit (S : gl_H) (a b : Int32) : Sp mX6_hasBit yX6_hasBit [.int a, .int b] S (fun r S1 => S1 = S ∧ r = some (.int (if hb_ a b then 1 else 0))) := by
  refine gl_enter (j := 0) (by decide +kernel) rfl (fun h => absurd h (by decide)) (Nat.le_of_ble_eq_true rfl) rfl (fun x => ?_)
  refine gg_iload_n dX6_hasBit_0 rfl rfl ?_
  refine gg_iload_n dX6_hasBit_1 rfl rfl ?_
  refine gg_ishr dX6_hasBit_2 ?_
  refine gg_iconst (v := 1) dX6_hasBit_3 (by decide) ?_
  refine gg_iand dX6_hasBit_4 ?_
  refine gg_iconst (v := 1) dX6_hasBit_5 (by decide) ?_
  refine gg_icmp_ne (tgt := 13) dX6_hasBit_6 (by decide) (fun c6 => ?_) (fun c6 => ?_)
  · refine gg_iconst (v := 0) dX6_hasBit_13 (by decide) ?_
    exact gg_ireturn dX6_hasBit_14 rfl rfl ⟨(Nat.le_of_ble_eq_true rfl), (Nat.le_of_ble_eq_true rfl)⟩ (⟨rfl, by simp [hb_, c6]⟩)
  · refine gg_iconst (v := 1) dX6_hasBit_9 (by decide) ?_
    refine gg_goto (tgt := 14) dX6_hasBit_10 (by decide) ?_
    exact gg_ireturn dX6_hasBit_14 rfl rfl ⟨(Nat.le_of_ble_eq_true rfl), (Nat.le_of_ble_eq_true rfl)⟩ (⟨rfl, by simp [hb_, c6]⟩)
theorem sp_X7_has (S : gl_H) (a b : Int32) : Sp mX7_has yX7_has [.int a, .int b] S (fun r S1 => S1 = S ∧ r = some (.int (if hb_ a b then 1 else 0))) := by
  refine gl_enter (j := 0) (by decide +kernel) rfl (fun h => absurd h (by decide)) (Nat.le_of_ble_eq_true rfl) rfl (fun x => ?_)
  refine gg_iload_n dX7_has_0 rfl rfl ?_
  refine gg_iload_n dX7_has_1 rfl rfl ?_
  refine gg_ishr dX7_has_2 ?_
  refine gg_iconst (v := 1) dX7_has_3 (by decide) ?_
  refine gg_iand dX7_has_4 ?_
  refine gg_iconst (v := 1) dX7_has_5 (by decide) ?_
  refine gg_icmp_ne (tgt := 13) dX7_has_6 (by decide) (fun c6 => ?_) (fun c6 => ?_)
  · refine gg_iconst (v := 0) dX7_has_13 (by decide) ?_
    exact gg_ireturn dX7_has_14 rfl rfl ⟨(Nat.le_of_ble_eq_true rfl), (Nat.le_of_ble_eq_true rfl)⟩ (⟨rfl, by simp [hb_, c6]⟩)
  · refine gg_iconst (v := 1) dX7_has_9 (by decide) ?_
    refine gg_goto (tgt := 14) dX7_has_10 (by decide) ?_
    exact gg_ireturn dX7_has_14 rfl rfl ⟨(Nat.le_of_ble_eq_true rfl), (Nat.le_of_ble_eq_true rfl)⟩ (⟨rfl, by simp [hb_, c6]⟩)
end
section
/-! helpers of the walks; the JDK's loops -/
def gl_mask : List Bool → List (Option Value) → List (Option Value)
  | true :: m, a :: t => a :: gl_mask m t
  | false :: m, _ :: t => none :: gl_mask m t
  | _, _ => []
theorem gl_mask_in : ∀ {m : List Bool} {ls : List (Option Value)} {n : Nat} {q : Nat × Value}, q ∈ gl_as n (gl_mask m ls) → q ∈ gl_as n ls
  | [], _, _, _, h => by cases h
  | true :: _, [], _, _, h => by cases h
  | false :: _, [], _, _, h => by cases h
  | true :: m, none :: t, n, q, h => gl_mask_in (m := m) (ls := t) (n := n + 1) h
  | true :: m, some v :: t, n, q, h => by
    rcases List.mem_cons.mp (show q ∈ (n, v) :: gl_as (n + 1) (gl_mask m t) from h) with e | e
    · rw [e]; exact List.mem_cons_self
    · exact List.mem_cons_of_mem _ (gl_mask_in e)
  | false :: m, none :: t, n, q, h => gl_mask_in (m := m) (ls := t) (n := n + 1) h
  | false :: m, some v :: t, n, q, h => List.mem_cons_of_mem _ (gl_mask_in (m := m) (ls := t) (n := n + 1) h)
/-- some locals are forgotten -/
theorem gg_fg (m : List Bool) {M : gl_M} {x : gl_X} {Z : State → Prop} {pc : Nat} {ls : List (Option Value)} {st : List Value} {S : gl_H} {k : Nat × Nat} (K : GG M x Z pc (gl_mask m ls) st S k) : GG M x Z pc ls st S k := by
  obtain ⟨p, l, e, R, s, m9, args, below, meth, c, D, Kc, A, ad0, S0⟩ := x
  intro ok ad H locs LS hR hS hAg hst hls hLS
  refine K ok ad H locs LS hR hS hAg hst (fun q hq => hls q (gl_mask_in hq)) ⟨hLS.1, hLS.2.1, fun q hq => hLS.2.2 q ?_⟩
  obtain ⟨r, hr, rfl⟩ := List.mem_map.mp hq
  exact List.mem_map.mpr ⟨r, gl_mask_in hr, rfl⟩
theorem gg_k {M : gl_M} {x : gl_X} {Z : State → Prop} {pc : Nat} {ls : List (Option Value)} {st : List Value} {S : gl_H} {k k2 : Nat × Nat} (h : k = k2) (K : GG M x Z pc ls st S k2) : GG M x Z pc ls st S k := by rw [h]; exact K
theorem n_le {a b : Nat} (h : nI a ≤ nI b) (ha : a < 2 ^ 31 := by omega) (hb : b < 2 ^ 31 := by omega) : a ≤ b := (nI_leI ha hb).mp h
theorem n_nle {a b : Nat} (h : ¬ nI a ≤ nI b) (ha : a < 2 ^ 31 := by omega) (hb : b < 2 ^ 31 := by omega) : b < a := Nat.not_le.mp (fun q => h ((nI_leI ha hb).mpr q))
theorem n_lt {a b : Nat} (h : nI a < nI b) (ha : a < 2 ^ 31 := by omega) (hb : b < 2 ^ 31 := by omega) : a < b := (nI_ltI ha hb).mp h
theorem n_nlt {a b : Nat} (h : ¬ nI a < nI b) (ha : a < 2 ^ 31 := by omega) (hb : b < 2 ^ 31 := by omega) : b ≤ a := Nat.not_lt.mp (fun q => h ((nI_ltI ha hb).mpr q))
theorem n_eq {a b : Nat} (h : nI a = nI b) (ha : a < 2 ^ 31 := by omega) (hb : b < 2 ^ 31 := by omega) : a = b := (nI_eq ha hb).mp h
theorem n_ne {a b : Nat} (h : ¬ nI a = nI b) : a ≠ b := fun q => h (by rw [q])
theorem lg_z (x y : Int64) (h : ¬ lg_cmp x y = 0) : x ≠ y := fun q => h ((lg_cmp_eq x y).mpr q)
/-- every place but those of [lo, hi) stays -/
def Fr (lo hi : Nat) (S S1 : gl_H) : Prop := ∀ q, ¬ (lo ≤ q ∧ q < hi) → S1 q = S q
theorem Fr.rf {lo hi : Nat} {S : gl_H} : Fr lo hi S S := fun _ _ => rfl
theorem Fr.pu {lo hi p : Nat} {S S1 : gl_H} {c : gl_C} (h : Fr lo hi S S1) (h1 : lo ≤ p) (h2 : p < hi) : Fr lo hi S (gl_pu S1 p c) := fun q hq => (gl_pu_n S1 c (fun e => hq (by rw [e]; exact ⟨h1, h2⟩))).trans (h q hq)
theorem Fr.tr {lo hi : Nat} {S S1 S2 : gl_H} (h : Fr lo hi S S1) (h2 : Fr lo hi S1 S2) : Fr lo hi S S2 := fun q hq => (h2 q hq).trans (h q hq)
theorem Fr.mono {lo hi lo2 hi2 : Nat} {S S1 : gl_H} (h : Fr lo hi S S1) (h1 : lo2 ≤ lo) (h2 : hi ≤ hi2) : Fr lo2 hi2 S S1 := fun q hq => h q (fun z => hq ⟨Nat.le_trans h1 z.1, Nat.lt_of_lt_of_le z.2 h2⟩)
/-- f with v at the first n places -/
def fillN {α : Type} (f : Nat → α) (n : Nat) (v : α) : Nat → α := fun j => if j < n then v else f j
theorem fillN_0 {α : Type} (f : Nat → α) (v : α) : fillN f 0 v = f := funext (fun j => if_neg (Nat.not_lt_zero j))
theorem fillN_s (f : Nat → Int32) (n : Nat) (v : Int32) : upd (fillN f n v) n v = fillN f (n + 1) v := funext (fun j => by
  unfold fillN
  by_cases h : j = n
  · subst h
    rw [pk_us, if_pos (Nat.lt_succ_self j)]
  · rw [pk_un h]
    by_cases h2 : j < n
    · rw [if_pos h2, if_pos (by omega)]
    · rw [if_neg h2, if_neg (by omega)])
theorem fillN_l (f : Nat → Int64) (n : Nat) (v : Int64) : vp_updL (fillN f n v) n v = fillN f (n + 1) v := funext (fun j => by
  unfold fillN
  by_cases h : j = n
  · subst h
    rw [pk_uLs, if_pos (Nat.lt_succ_self j)]
  · rw [pk_uLn h]
    by_cases h2 : j < n
    · rw [if_pos h2, if_pos (by omega)]
    · rw [if_neg h2, if_neg (by omega)])
theorem pu_pu (S : gl_H) (p : Nat) (c c2 : gl_C) : gl_pu (gl_pu S p c) p c2 = gl_pu S p c2 := funext (fun q => by
  unfold gl_pu
  by_cases h : q = p
  · rw [if_pos h, if_pos h]
  · rw [if_neg h, if_neg h, if_neg h])
theorem pu_id {S : gl_H} {p : Nat} {c : gl_C} (h : S p = some c) : gl_pu S p c = S := funext (fun q => by
  unfold gl_pu
  by_cases e : q = p
  · rw [if_pos e, e, h]
  · rw [if_neg e])
theorem fl_i {S : gl_H} {p n : Nat} {f : Nat → Int32} {v : Int32} (hn : n < 2 ^ 30) (x : gl_X) : ∀ (m i : Nat), i + m = n → GG mJ7_fill_53178 x (gl_Z mJ7_fill_53178 x (fun r S1 => r = none ∧ S1 = gl_pu S p (.inl (0, n, .inl (fillN f n v))))) 5 [some (.ref p), some (.int v), some (.int (nI i)), some (.int (nI n))] [] (gl_pu S p (.inl (0, n, .inl (fillN f i v)))) (0, 0) := by
  intro m
  induction m using Nat.strongRecOn with
  | _ m ih =>
    intro i him
    refine gg_iload_n dJ7_fill_53178_5 rfl rfl ?_
    refine gg_iload_n dJ7_fill_53178_6 rfl rfl ?_
    refine gg_icmp_ge (tgt := 20) dJ7_fill_53178_7 (by decide) (fun c7 => ?_) (fun c7 => ?_)
    · have e : m = 0 := by have := n_le c7; omega
      subst e
      have e2 : i = n := by omega
      subst e2
      exact gg_return dJ7_fill_53178_20 rfl ⟨(Nat.le_of_ble_eq_true rfl), (Nat.le_of_ble_eq_true rfl)⟩ (⟨rfl, rfl⟩)
    · have hin : i < n := n_nle c7
      obtain ⟨m2, rfl⟩ : ∃ q, m = q + 1 := ⟨m - 1, by omega⟩
      refine gg_aload_n dJ7_fill_53178_10 rfl rfl ?_
      refine gg_iload_n dJ7_fill_53178_11 rfl rfl ?_
      refine gg_iload_n dJ7_fill_53178_12 rfl rfl ?_
      refine gg_ast_i (i) dJ7_fill_53178_13 (gl_pu_s S p _) rfl hin (by omega) ?_
      rw [pu_pu, fillN_s]
      refine gg_iinc (w := nI (i + 1)) dJ7_fill_53178_14 rfl (nI_1 i) (Nat.le_of_ble_eq_true rfl) rfl ?_
      refine gg_goto (tgt := 5) dJ7_fill_53178_17 (by decide) ?_
      exact ih m2 (by omega) (i + 1) (by omega)
theorem sp_J7_fill_53178 {S : gl_H} {p n : Nat} {f : Nat → Int32} (hn : n < 2 ^ 30) (hS : S p = some (.inl (0, n, .inl (f)))) (v : Int32) : Sp mJ7_fill_53178 yJ7_fill_53178 [.ref p, .int v] S (fun r S1 => r = none ∧ S1 = gl_pu S p (.inl (0, n, .inl (fillN f n v)))) := by
  refine gl_enter (j := 2) (by decide +kernel) rfl (fun h => absurd h (by decide)) (Nat.le_of_ble_eq_true rfl) rfl (fun x => ?_)
  refine gg_iconst (v := 0) dJ7_fill_53178_0 (by decide) ?_
  refine gg_istore_n dJ7_fill_53178_1 rfl (Nat.le_of_ble_eq_true rfl) rfl ?_
  refine gg_aload_n dJ7_fill_53178_2 rfl rfl ?_
  refine gg_alen (n := 0) (t := 0) (v := nI n) dJ7_fill_53178_3 (fun _ => rfl) hS rfl ?_
  refine gg_istore_n dJ7_fill_53178_4 rfl (Nat.le_of_ble_eq_true rfl) rfl ?_
  have h0 := fl_i (S := S) (p := p) (f := f) (v := v) hn x n 0 (by omega)
  rw [fillN_0, pu_id hS] at h0
  exact h0
theorem fl_l {S : gl_H} {p n : Nat} {f : Nat → Int64} {v : Int64} (hn : n < 2 ^ 30) (x : gl_X) : ∀ (m i : Nat), i + m = n → GG mJ7_fill_d0a16 x (gl_Z mJ7_fill_d0a16 x (fun r S1 => r = none ∧ S1 = gl_pu S p (.inl (1, n, .inr (.inl (fillN f n v)))))) 6 [some (.ref p), some (.long v), none, some (.int (nI i)), some (.int (nI n))] [] (gl_pu S p (.inl (1, n, .inr (.inl (fillN f i v))))) (0, 0) := by
  intro m
  induction m using Nat.strongRecOn with
  | _ m ih =>
    intro i him
    refine gg_iload_n dJ7_fill_d0a16_6 rfl rfl ?_
    refine gg_iload dJ7_fill_d0a16_7 rfl ?_
    refine gg_icmp_ge (tgt := 22) dJ7_fill_d0a16_9 (by decide) (fun c9 => ?_) (fun c9 => ?_)
    · have e : m = 0 := by have := n_le c9; omega
      subst e
      have e2 : i = n := by omega
      subst e2
      exact gg_return dJ7_fill_d0a16_22 rfl ⟨(Nat.le_of_ble_eq_true rfl), (Nat.le_of_ble_eq_true rfl)⟩ (⟨rfl, rfl⟩)
    · have hin : i < n := n_nle c9
      obtain ⟨m2, rfl⟩ : ∃ q, m = q + 1 := ⟨m - 1, by omega⟩
      refine gg_aload_n dJ7_fill_d0a16_12 rfl rfl ?_
      refine gg_iload_n dJ7_fill_d0a16_13 rfl rfl ?_
      refine gg_lload_n dJ7_fill_d0a16_14 rfl rfl ?_
      refine gg_ast_l (i) dJ7_fill_d0a16_15 (gl_pu_s S p _) rfl hin (by omega) ?_
      rw [pu_pu, fillN_l]
      refine gg_iinc (w := nI (i + 1)) dJ7_fill_d0a16_16 rfl (nI_1 i) (Nat.le_of_ble_eq_true rfl) rfl ?_
      refine gg_goto (tgt := 6) dJ7_fill_d0a16_19 (by decide) ?_
      exact ih m2 (by omega) (i + 1) (by omega)
theorem sp_J7_fill_d0a16 {S : gl_H} {p n : Nat} {f : Nat → Int64} (hn : n < 2 ^ 30) (hS : S p = some (.inl (1, n, .inr (.inl (f))))) (v : Int64) : Sp mJ7_fill_d0a16 yJ7_fill_d0a16 [.ref p, .long v] S (fun r S1 => r = none ∧ S1 = gl_pu S p (.inl (1, n, .inr (.inl (fillN f n v))))) := by
  refine gl_enter (j := 2) (by decide +kernel) rfl (fun h => absurd h (by decide)) (Nat.le_of_ble_eq_true rfl) rfl (fun x => ?_)
  refine gg_iconst (v := 0) dJ7_fill_d0a16_0 (by decide) ?_
  refine gg_istore_n dJ7_fill_d0a16_1 rfl (Nat.le_of_ble_eq_true rfl) rfl ?_
  refine gg_aload_n dJ7_fill_d0a16_2 rfl rfl ?_
  refine gg_alen (n := 0) (t := 1) (v := nI n) dJ7_fill_d0a16_3 (fun _ => rfl) hS rfl ?_
  refine gg_istore dJ7_fill_d0a16_4 (Nat.le_of_ble_eq_true rfl) rfl ?_
  have h0 := fl_l (S := S) (p := p) (f := f) (v := v) hn x n 0 (by omega)
  rw [fillN_0, pu_id hS] at h0
  exact h0
end
section
/-! THE MATCH: its cells, what its methods do, as functions -/
def PM (S : gl_H) (og tk : Int32) (w : Nat → Nat → Int64) (tks to : Nat → Int32) (tl : Nat → Int64) (lt : Nat → Int32) : Prop :=
  S 12 = some (.inr (1, [.ref 13, .ref 14, .int og, .ref 15, .int tk, .ref 16, .ref 17])) ∧
  S 13 = some (.inl (6, 10, .inr (.inr (.inr (.inr (fun j => if j < 10 then some (20 + j) else none)))))) ∧
  (∀ g, g < 10 → S (20 + g) = some (.inl (1, 13, .inr (.inl (w g))))) ∧
  S 14 = some (.inl (0, 10, .inl tks)) ∧ S 15 = some (.inl (0, 10, .inl to)) ∧ S 16 = some (.inl (1, 10, .inr (.inl tl))) ∧ S 17 = some (.inl (0, 10, .inl lt))
theorem PM.keep {S S1 : gl_H} {og tk : Int32} {w : Nat → Nat → Int64} {tks to : Nat → Int32} {tl : Nat → Int64} {lt : Nat → Int32} (h : PM S og tk w tks to tl lt) (hq : ∀ q, 12 ≤ q → q < 30 → S1 q = S q) : PM S1 og tk w tks to tl lt := ⟨(hq 12 (by omega) (by omega)).trans h.1, (hq 13 (by omega) (by omega)).trans h.2.1, fun g hg => (hq (20 + g) (by omega) (by omega)).trans (h.2.2.1 g hg), (hq 14 (by omega) (by omega)).trans h.2.2.2.1, (hq 15 (by omega) (by omega)).trans h.2.2.2.2.1, (hq 16 (by omega) (by omega)).trans h.2.2.2.2.2.1, (hq 17 (by omega) (by omega)).trans h.2.2.2.2.2.2⟩
def oI (r : Option Nat) : Int32 := match r with
  | none => -1
  | some h => nI h
def bI (b : Bool) : Int32 := if b then 1 else 0
theorem bI_nar (b : Bool) : narrow .boolean (.int (bI b)) = .int (bI b) := by cases b <;> rfl
theorem upd_F {α : Type} (F : α → Int32) (p : Nat → α) (k : Nat) (v : α) : upd (fun j => F (p j)) k (F v) = fun j => F (va_up p k v j) := funext (fun j => by
  unfold va_up
  by_cases h : j = k
  · rw [h, pk_us, if_pos rfl]
  · rw [pk_un h, if_neg h])
section PMS
variable {M : gl_M} {x : gl_X} {Z : State → Prop} {pc : Nat} {ls : List (Option Value)} {st : List Value} {S S0 : gl_H} {k : Nat × Nat} {og tk : Int32} {w : Nat → Nat → Int64} {tks to : Nat → Int32} {tl : Nat → Int64} {lt : Nat → Int32}
theorem PMs_og {v : Int32} (h : PM S og tk w tks to tl lt) (hf : Fr 12 30 S0 S) (K : ∀ S1, PM S1 v tk w tks to tl lt → Fr 12 30 S0 S1 → GG M x Z pc ls st S1 k) : GG M x Z pc ls st (gl_pu S 12 (.inr (1, [.ref 13, .ref 14, .int v, .ref 15, .int tk, .ref 16, .ref 17]))) k := K _ ⟨gl_pu_s S _ _, (gl_pu_n S _ (by decide)).trans h.2.1, fun g hg => (gl_pu_n S _ (by omega)).trans (h.2.2.1 g hg), (gl_pu_n S _ (by decide)).trans h.2.2.2.1, (gl_pu_n S _ (by decide)).trans h.2.2.2.2.1, (gl_pu_n S _ (by decide)).trans h.2.2.2.2.2.1, (gl_pu_n S _ (by decide)).trans h.2.2.2.2.2.2⟩ (hf.pu (by decide) (by decide))
theorem PMs_tk {v : Int32} (h : PM S og tk w tks to tl lt) (hf : Fr 12 30 S0 S) (K : ∀ S1, PM S1 og v w tks to tl lt → Fr 12 30 S0 S1 → GG M x Z pc ls st S1 k) : GG M x Z pc ls st (gl_pu S 12 (.inr (1, [.ref 13, .ref 14, .int og, .ref 15, .int v, .ref 16, .ref 17]))) k := K _ ⟨gl_pu_s S _ _, (gl_pu_n S _ (by decide)).trans h.2.1, fun g hg => (gl_pu_n S _ (by omega)).trans (h.2.2.1 g hg), (gl_pu_n S _ (by decide)).trans h.2.2.2.1, (gl_pu_n S _ (by decide)).trans h.2.2.2.2.1, (gl_pu_n S _ (by decide)).trans h.2.2.2.2.2.1, (gl_pu_n S _ (by decide)).trans h.2.2.2.2.2.2⟩ (hf.pu (by decide) (by decide))
theorem PMs_tks {v : Nat → Int32} (h : PM S og tk w tks to tl lt) (hf : Fr 12 30 S0 S) (K : ∀ S1, PM S1 og tk w v to tl lt → Fr 12 30 S0 S1 → GG M x Z pc ls st S1 k) : GG M x Z pc ls st (gl_pu S 14 (.inl (0, 10, .inl v))) k := K _ ⟨(gl_pu_n S _ (by decide)).trans h.1, (gl_pu_n S _ (by decide)).trans h.2.1, fun g hg => (gl_pu_n S _ (by omega)).trans (h.2.2.1 g hg), gl_pu_s S _ _, (gl_pu_n S _ (by decide)).trans h.2.2.2.2.1, (gl_pu_n S _ (by decide)).trans h.2.2.2.2.2.1, (gl_pu_n S _ (by decide)).trans h.2.2.2.2.2.2⟩ (hf.pu (by decide) (by decide))
theorem PMs_to {v : Nat → Int32} (h : PM S og tk w tks to tl lt) (hf : Fr 12 30 S0 S) (K : ∀ S1, PM S1 og tk w tks v tl lt → Fr 12 30 S0 S1 → GG M x Z pc ls st S1 k) : GG M x Z pc ls st (gl_pu S 15 (.inl (0, 10, .inl v))) k := K _ ⟨(gl_pu_n S _ (by decide)).trans h.1, (gl_pu_n S _ (by decide)).trans h.2.1, fun g hg => (gl_pu_n S _ (by omega)).trans (h.2.2.1 g hg), (gl_pu_n S _ (by decide)).trans h.2.2.2.1, gl_pu_s S _ _, (gl_pu_n S _ (by decide)).trans h.2.2.2.2.2.1, (gl_pu_n S _ (by decide)).trans h.2.2.2.2.2.2⟩ (hf.pu (by decide) (by decide))
theorem PMs_tl {v : Nat → Int64} (h : PM S og tk w tks to tl lt) (hf : Fr 12 30 S0 S) (K : ∀ S1, PM S1 og tk w tks to v lt → Fr 12 30 S0 S1 → GG M x Z pc ls st S1 k) : GG M x Z pc ls st (gl_pu S 16 (.inl (1, 10, .inr (.inl v)))) k := K _ ⟨(gl_pu_n S _ (by decide)).trans h.1, (gl_pu_n S _ (by decide)).trans h.2.1, fun g hg => (gl_pu_n S _ (by omega)).trans (h.2.2.1 g hg), (gl_pu_n S _ (by decide)).trans h.2.2.2.1, (gl_pu_n S _ (by decide)).trans h.2.2.2.2.1, gl_pu_s S _ _, (gl_pu_n S _ (by decide)).trans h.2.2.2.2.2.2⟩ (hf.pu (by decide) (by decide))
theorem PMs_lt {v : Nat → Int32} (h : PM S og tk w tks to tl lt) (hf : Fr 12 30 S0 S) (K : ∀ S1, PM S1 og tk w tks to tl v → Fr 12 30 S0 S1 → GG M x Z pc ls st S1 k) : GG M x Z pc ls st (gl_pu S 17 (.inl (0, 10, .inl v))) k := K _ ⟨(gl_pu_n S _ (by decide)).trans h.1, (gl_pu_n S _ (by decide)).trans h.2.1, fun g hg => (gl_pu_n S _ (by omega)).trans (h.2.2.1 g hg), (gl_pu_n S _ (by decide)).trans h.2.2.2.1, (gl_pu_n S _ (by decide)).trans h.2.2.2.2.1, (gl_pu_n S _ (by decide)).trans h.2.2.2.2.2.1, gl_pu_s S _ _⟩ (hf.pu (by decide) (by decide))
theorem PMs_row {g : Nat} (hg : g < 10) {v : Nat → Int64} (h : PM S og tk w tks to tl lt) (hf : Fr 12 30 S0 S) (K : ∀ S1, PM S1 og tk (va_up w g v) tks to tl lt → Fr 12 30 S0 S1 → GG M x Z pc ls st S1 k) : GG M x Z pc ls st (gl_pu S (20 + g) (.inl (1, 13, .inr (.inl v)))) k := K _ ⟨(gl_pu_n S _ (by omega)).trans h.1, (gl_pu_n S _ (by omega)).trans h.2.1, fun i hi => by
    by_cases e : i = g
    · subst e
      rw [gl_pu_s, va_up, if_pos rfl]
    · rw [gl_pu_n S _ (by omega), va_up, if_neg e]
      exact h.2.2.1 i hi, (gl_pu_n S _ (by omega)).trans h.2.2.2.1, (gl_pu_n S _ (by omega)).trans h.2.2.2.2.1, (gl_pu_n S _ (by omega)).trans h.2.2.2.2.2.1, (gl_pu_n S _ (by omega)).trans h.2.2.2.2.2.2⟩ (hf.pu (by omega) (by omega))
end PMS
set_option maxRecDepth 20000 in
theorem kq_30 : Cond.constantLong RX1 30 (-1) ∈ gl_T := (gl_T_in (by decide +kernel) (by decide +kernel))
def mFAR : Int64 := 9223372036854775807
set_option maxRecDepth 20000 in
theorem kq_81 : Cond.constantLong RX1 81 mFAR ∈ gl_T := (gl_T_in (by decide +kernel) (by decide +kernel))
theorem sp_X1_weightOf {S : gl_H} {og tk : Int32} {w : Nat → Nat → Int64} {tks to : Nat → Int32} {tl : Nat → Int64} {lt : Nat → Int32} (hp : PM S og tk w tks to tl lt) {g t : Nat} (hg : g < 10) (ht : t < 13) : Sp mX1_weightOf yX1_weightOf [.ref 12, .int (nI g), .int (nI t)] S (fun r S1 => S1 = S ∧ r = some (.long (w g t))) := by
  refine gl_enter (j := 0) (by decide +kernel) rfl (fun h => absurd h (by decide)) (Nat.le_of_ble_eq_true rfl) rfl (fun x => ?_)
  refine gg_iload_n dX1_weightOf_0 rfl rfl ?_
  refine gg_if_lt (tgt := 31) dX1_weightOf_1 (by decide) (fun c1 => ?_) (fun c1 => ?_)
  · exact absurd c1 (nI_pos (by omega))
  · refine gg_iload_n dX1_weightOf_4 rfl rfl ?_
    refine gg_bipush (v := 10) dX1_weightOf_5 (by decide) ?_
    refine gg_icmp_ge (tgt := 31) dX1_weightOf_7 (by decide) (fun c7 => ?_) (fun c7 => ?_)
    · exact absurd c7 (nI_ge (b := 10) hg (by omega))
    · refine gg_iload_n dX1_weightOf_10 rfl rfl ?_
      refine gg_if_lt (tgt := 31) dX1_weightOf_11 (by decide) (fun c11 => ?_) (fun c11 => ?_)
      · exact absurd c11 (nI_pos (by omega))
      · refine gg_iload_n dX1_weightOf_14 rfl rfl ?_
        refine gg_bipush (v := 12) dX1_weightOf_15 (by decide) ?_
        refine gg_icmp_gt (tgt := 31) dX1_weightOf_17 (by decide) (fun c17 => ?_) (fun c17 => ?_)
        · exact absurd c17 (nI_nlt (a := 12) (by omega) (by omega))
        · refine gg_aload_n dX1_weightOf_20 rfl rfl ?_
          refine gf_X1_13 rfl dX1_weightOf_21 hp.1 rfl ?_
          refine gg_iload_n dX1_weightOf_24 rfl rfl ?_
          refine gg_ald_r (g) dX1_weightOf_25 hp.2.1 rfl hg (by decide) (if_pos hg) ?_
          refine gg_iload_n dX1_weightOf_26 rfl rfl ?_
          refine gg_ald_l (t) dX1_weightOf_27 (hp.2.2.1 g hg) rfl ht (by decide) ?_
          refine gg_goto (tgt := 34) dX1_weightOf_28 (by decide) ?_
          exact gg_lreturn dX1_weightOf_34 rfl ⟨(Nat.le_of_ble_eq_true rfl), (Nat.le_of_ble_eq_true rfl)⟩ (⟨rfl, rfl⟩)
abbrev lc_T : Type := (Nat → Int64) × (Nat → Option Nat) × Bool
def lcS (w : Nat → Nat → Int64) (a : Nat → Nat) (g h : Nat) (s : lc_T) : lc_T := if a h = 12 ∨ w g (a h) = -1 then s else if s.1 g + w g (a h) - w h (a h) < s.1 h then (vp_updL s.1 h (s.1 g + w g (a h) - w h (a h)), va_up s.2.1 h (some g), true) else s
def lcF (w : Nat → Nat → Int64) (a : Nat → Nat) (g : Nat) : Nat → lc_T → lc_T
  | 0, s => s
  | h + 1, s => lcS w a g h (lcF w a g h s)
theorem lc_loop {S0 : gl_H} {og tk : Int32} {w : Nat → Nat → Int64} {tks : Nat → Int32} {a : Nat → Nat} {g n : Nat} {s0 : lc_T} (hn : n < 10) (hg : g < 10) (ha : ∀ h, h < 10 → a h ≤ 12) (x : gl_X) : ∀ (m h : Nat), h + m = n → ∀ S, PM S og tk w tks (fun i => nI (a i)) (lcF w a g h s0).1 (fun i => oI ((lcF w a g h s0).2.1 i)) → Fr 12 30 S0 S → GG mX1_lengthenChains x (gl_Z mX1_lengthenChains x (fun r S1 => r = some (.int (bI (lcF w a g n s0).2.2)) ∧ PM S1 og tk w tks (fun i => nI (a i)) (lcF w a g n s0).1 (fun i => oI ((lcF w a g n s0).2.1 i)) ∧ Fr 12 30 S0 S1)) 5 [some (.ref 12), some (.int (nI g)), some (.int (nI n)), some (.int (bI (lcF w a g h s0).2.2)), some (.int (nI h)), none, none, none] [] S (0, 0) := by
  intro m
  induction m with
  | zero =>
    intro h hm S hp hf
    have e : h = n := by omega
    subst e
    generalize hs : lcF w a g h s0 = s at hp ⊢
    refine gg_iload dX1_lengthenChains_5 rfl ?_
    refine gg_iload_n dX1_lengthenChains_7 rfl rfl ?_
    refine gg_icmp_ge (tgt := 114) dX1_lengthenChains_8 (by decide) (fun c8 => ?_) (fun c8 => ?_)
    · refine gg_iload_n dX1_lengthenChains_114 rfl rfl ?_
      exact gg_ireturn dX1_lengthenChains_115 rfl (bI_nar _) ⟨(Nat.le_of_ble_eq_true rfl), (Nat.le_of_ble_eq_true rfl)⟩ (⟨rfl, hp, hf⟩)
    · exact absurd (nI_le (Nat.le_refl h) (by omega)) c8
  | succ m ih =>
    intro h hm S hp hf
    have hh : h < 10 := by omega
    have hah := ha h hh
    generalize hs : lcF w a g h s0 = s at hp ⊢
    refine gg_iload dX1_lengthenChains_5 rfl ?_
    refine gg_iload_n dX1_lengthenChains_7 rfl rfl ?_
    refine gg_icmp_ge (tgt := 114) dX1_lengthenChains_8 (by decide) (fun c8 => ?_) (fun c8 => ?_)
    · exact absurd (n_le c8) (by omega)
    · refine gg_iload dX1_lengthenChains_11 rfl ?_
      refine gg_bipush (v := 10) dX1_lengthenChains_13 (by decide) ?_
      refine gg_icmp_ge (tgt := 114) dX1_lengthenChains_15 (by decide) (fun c15 => ?_) (fun c15 => ?_)
      · exact absurd (n_le (a := 10) c15) (by omega)
      · refine gg_aload_n dX1_lengthenChains_18 rfl rfl ?_
        refine gf_X1_20 rfl dX1_lengthenChains_19 hp.1 rfl ?_
        refine gg_iload dX1_lengthenChains_22 rfl ?_
        refine gg_ald_i (h) dX1_lengthenChains_24 hp.2.2.2.2.1 rfl hh (by decide) ?_
        refine gg_istore dX1_lengthenChains_25 (Nat.le_of_ble_eq_true rfl) rfl ?_
        refine gg_iload dX1_lengthenChains_27 rfl ?_
        refine gg_bipush (v := 12) dX1_lengthenChains_29 (by decide) ?_
        refine gg_icmp_eq (tgt := 108) dX1_lengthenChains_31 (by decide) (fun c31 => ?_) (fun c31 => ?_)
        · have e : lcS w a g h s = s := if_pos (Or.inl (n_eq (b := 12) c31))
          refine gg_iinc (w := nI (h + 1)) dX1_lengthenChains_108 rfl (nI_1 h) (Nat.le_of_ble_eq_true rfl) rfl ?_
          refine gg_goto (tgt := 5) dX1_lengthenChains_111 (by decide) ?_
          have e3 : lcF w a g (h + 1) s0 = _ := (congrArg (lcS w a g h) hs).trans e
          refine gg_fg [true, true, true, true, true, false, false, false] ?_
          have h9 := ih (h + 1) (by omega) S
          rw [e3] at h9
          exact h9 hp hf
        · have c31 := n_ne (b := 12) c31
          refine gg_aload_n dX1_lengthenChains_34 rfl rfl ?_
          refine gg_iload_n dX1_lengthenChains_35 rfl rfl ?_
          refine gg_iload dX1_lengthenChains_36 rfl ?_
          refine gg_callV (sp_X1_weightOf hp hg (show a h < 13 by omega)) dX1_lengthenChains_38 kw_X1_66 rfl hp.1 rfl rfl (Nat.le_of_ble_eq_true rfl) (Nat.le_of_ble_eq_true rfl) (Nat.le_of_ble_eq_true rfl) ⟨(Nat.le_of_ble_eq_true rfl), (Nat.le_of_ble_eq_true rfl)⟩ (fun r S1 hq => ?_)
          refine gg_k (k2 := (0, 0)) rfl ?_
          obtain ⟨e9, rfl⟩ := hq
          rw [e9]
          clear e9 S1
          refine gg_ldc2 (v := -1) dX1_lengthenChains_41 kq_30 ?_
          refine gg_lcmp dX1_lengthenChains_44 ?_
          refine gg_if_ne (tgt := 51) dX1_lengthenChains_45 (by decide) (fun c45 => ?_) (fun c45 => ?_)
          · have c45 := lg_z _ _ c45
            refine gg_aload_n dX1_lengthenChains_51 rfl rfl ?_
            refine gf_X1_23 rfl dX1_lengthenChains_52 hp.1 rfl ?_
            refine gg_iload_n dX1_lengthenChains_55 rfl rfl ?_
            refine gg_ald_l (g) dX1_lengthenChains_56 hp.2.2.2.2.2.1 rfl hg (by decide) ?_
            refine gg_aload_n dX1_lengthenChains_57 rfl rfl ?_
            refine gg_iload_n dX1_lengthenChains_58 rfl rfl ?_
            refine gg_iload dX1_lengthenChains_59 rfl ?_
            refine gg_callV (sp_X1_weightOf hp hg (show a h < 13 by omega)) dX1_lengthenChains_61 kw_X1_66 rfl hp.1 rfl rfl (Nat.le_of_ble_eq_true rfl) (Nat.le_of_ble_eq_true rfl) (Nat.le_of_ble_eq_true rfl) ⟨(Nat.le_of_ble_eq_true rfl), (Nat.le_of_ble_eq_true rfl)⟩ (fun r S1 hq => ?_)
            refine gg_k (k2 := (0, 0)) rfl ?_
            obtain ⟨e9, rfl⟩ := hq
            rw [e9]
            clear e9 S1
            refine gg_ladd dX1_lengthenChains_64 ?_
            refine gg_aload_n dX1_lengthenChains_65 rfl rfl ?_
            refine gg_iload dX1_lengthenChains_66 rfl ?_
            refine gg_iload dX1_lengthenChains_68 rfl ?_
            refine gg_callV (sp_X1_weightOf hp hh (show a h < 13 by omega)) dX1_lengthenChains_70 kw_X1_66 rfl hp.1 rfl rfl (Nat.le_of_ble_eq_true rfl) (Nat.le_of_ble_eq_true rfl) (Nat.le_of_ble_eq_true rfl) ⟨(Nat.le_of_ble_eq_true rfl), (Nat.le_of_ble_eq_true rfl)⟩ (fun r S1 hq => ?_)
            refine gg_k (k2 := (0, 0)) rfl ?_
            obtain ⟨e9, rfl⟩ := hq
            rw [e9]
            clear e9 S1
            refine gg_lsub dX1_lengthenChains_73 ?_
            refine gg_lstore dX1_lengthenChains_74 (Nat.le_of_ble_eq_true rfl) rfl ?_
            refine gg_lload dX1_lengthenChains_76 rfl ?_
            refine gg_aload_n dX1_lengthenChains_78 rfl rfl ?_
            refine gf_X1_23 rfl dX1_lengthenChains_79 hp.1 rfl ?_
            refine gg_iload dX1_lengthenChains_82 rfl ?_
            refine gg_ald_l (h) dX1_lengthenChains_84 hp.2.2.2.2.2.1 rfl hh (by decide) ?_
            refine gg_lcmp dX1_lengthenChains_85 ?_
            refine gg_if_ge (tgt := 108) dX1_lengthenChains_86 (by decide) (fun c86 => ?_) (fun c86 => ?_)
            · have e : lcS w a g h s = s := (if_neg (fun q => q.elim c31 c45)).trans (if_neg (Int64.not_lt.mpr ((lg_cmp_ge _ _).mp c86)))
              refine gg_iinc (w := nI (h + 1)) dX1_lengthenChains_108 rfl (nI_1 h) (Nat.le_of_ble_eq_true rfl) rfl ?_
              refine gg_goto (tgt := 5) dX1_lengthenChains_111 (by decide) ?_
              have e3 : lcF w a g (h + 1) s0 = _ := (congrArg (lcS w a g h) hs).trans e
              refine gg_fg [true, true, true, true, true, false, false, false] ?_
              have h9 := ih (h + 1) (by omega) S
              rw [e3] at h9
              exact h9 hp hf
            · have e : lcS w a g h s = (vp_updL s.1 h (s.1 g + w g (a h) - w h (a h)), va_up s.2.1 h (some g), true) := (if_neg (fun q => q.elim c31 c45)).trans (if_pos (Int64.not_le.mp (fun q => c86 ((lg_cmp_ge _ _).mpr q))))
              refine gg_aload_n dX1_lengthenChains_89 rfl rfl ?_
              refine gf_X1_23 rfl dX1_lengthenChains_90 hp.1 rfl ?_
              refine gg_iload dX1_lengthenChains_93 rfl ?_
              refine gg_lload dX1_lengthenChains_95 rfl ?_
              refine gg_ast_l (h) dX1_lengthenChains_97 hp.2.2.2.2.2.1 rfl hh (by decide) ?_
              refine PMs_tl hp hf (fun S hp hf => ?_)
              refine gg_aload_n dX1_lengthenChains_98 rfl rfl ?_
              refine gf_X1_27 rfl dX1_lengthenChains_99 hp.1 rfl ?_
              refine gg_iload dX1_lengthenChains_102 rfl ?_
              refine gg_iload_n dX1_lengthenChains_104 rfl rfl ?_
              refine gg_ast_i (h) dX1_lengthenChains_105 hp.2.2.2.2.2.2 rfl hh (by decide) ?_
              refine PMs_lt hp hf (fun S hp hf => ?_)
              rw [show upd (fun i => oI (s.2.1 i)) h (nI g) = fun i => oI (va_up s.2.1 h (some g) i) from upd_F oI s.2.1 h (some g)] at hp
              refine gg_iconst (v := 1) dX1_lengthenChains_106 (by decide) ?_
              refine gg_istore_n dX1_lengthenChains_107 rfl (Nat.le_of_ble_eq_true rfl) rfl ?_
              refine gg_iinc (w := nI (h + 1)) dX1_lengthenChains_108 rfl (nI_1 h) (Nat.le_of_ble_eq_true rfl) rfl ?_
              refine gg_goto (tgt := 5) dX1_lengthenChains_111 (by decide) ?_
              have e3 : lcF w a g (h + 1) s0 = _ := (congrArg (lcS w a g h) hs).trans e
              refine gg_fg [true, true, true, true, true, false, false, false] ?_
              have h9 := ih (h + 1) (by omega) S
              rw [e3] at h9
              exact h9 hp hf
          · have e : lcS w a g h s = s := if_pos (Or.inr ((lg_cmp_eq _ _).mp c45))
            refine gg_goto (tgt := 108) dX1_lengthenChains_48 (by decide) ?_
            refine gg_iinc (w := nI (h + 1)) dX1_lengthenChains_108 rfl (nI_1 h) (Nat.le_of_ble_eq_true rfl) rfl ?_
            refine gg_goto (tgt := 5) dX1_lengthenChains_111 (by decide) ?_
            have e3 : lcF w a g (h + 1) s0 = _ := (congrArg (lcS w a g h) hs).trans e
            refine gg_fg [true, true, true, true, true, false, false, false] ?_
            have h9 := ih (h + 1) (by omega) S
            rw [e3] at h9
            exact h9 hp hf
theorem sp_X1_lengthenChains {S : gl_H} {og tk : Int32} {w : Nat → Nat → Int64} {tks : Nat → Int32} {a : Nat → Nat} {tl : Nat → Int64} {par : Nat → Option Nat} (hp : PM S og tk w tks (fun i => nI (a i)) tl (fun i => oI (par i))) {g n : Nat} (hn : n < 10) (hg : g < 10) (ha : ∀ h, h < 10 → a h ≤ 12) : Sp mX1_lengthenChains yX1_lengthenChains [.ref 12, .int (nI g), .int (nI n)] S (fun r S1 => r = some (.int (bI (lcF w a g n (tl, par, false)).2.2)) ∧ PM S1 og tk w tks (fun i => nI (a i)) (lcF w a g n (tl, par, false)).1 (fun i => oI ((lcF w a g n (tl, par, false)).2.1 i)) ∧ Fr 12 30 S S1) := by
  refine gl_enter (j := 5) (by decide +kernel) rfl (fun h => absurd h (by decide)) (Nat.le_of_ble_eq_true rfl) rfl (fun x => ?_)
  refine gg_iconst (v := 0) dX1_lengthenChains_0 (by decide) ?_
  refine gg_istore_n dX1_lengthenChains_1 rfl (Nat.le_of_ble_eq_true rfl) rfl ?_
  refine gg_iconst (v := 0) dX1_lengthenChains_2 (by decide) ?_
  refine gg_istore dX1_lengthenChains_3 (Nat.le_of_ble_eq_true rfl) rfl ?_
  exact lc_loop (s0 := (tl, par, false)) hn hg ha x n 0 (by omega) S hp Fr.rf
end
section
/-! the chains, the cheapest end, the shift, a gap comes in, the match -/
def frS (w : Nat → Nat → Int64) (a : Nat → Nat) (n g : Nat) (s : lc_T) : lc_T := if s.1 g = mFAR then s else ((lcF w a g n (s.1, s.2.1, false)).1, (lcF w a g n (s.1, s.2.1, false)).2.1, (lcF w a g n (s.1, s.2.1, false)).2.2 || s.2.2)
def frF (w : Nat → Nat → Int64) (a : Nat → Nat) (n : Nat) : Nat → lc_T → lc_T
  | 0, s => s
  | g + 1, s => frS w a n g (frF w a n g s)
def rdS (w : Nat → Nat → Int64) (a : Nat → Nat) (n : Nat) (s : lc_T) : lc_T := if s.2.2 then frF w a n (n + 1) (s.1, s.2.1, false) else s
def rdF (w : Nat → Nat → Int64) (a : Nat → Nat) (n : Nat) : Nat → lc_T → lc_T
  | 0, s => s
  | r + 1, s => rdS w a n (rdF w a n r s)
theorem rdF_stop {w : Nat → Nat → Int64} {a : Nat → Nat} {n r : Nat} {s : lc_T} (h : (rdF w a n r s).2.2 = false) : ∀ m, rdF w a n (r + m) s = rdF w a n r s
  | 0 => rfl
  | m + 1 => by
    show rdS w a n (rdF w a n (r + m) s) = _
    rw [rdF_stop h m, rdS, h]
    rfl
theorem bI_z {b : Bool} (h : bI b = 0) : b = false := by
  cases b with
  | false => rfl
  | true => exact absurd h (by decide)
theorem bI_nz {b : Bool} (h : ¬ bI b = 0) : b = true := by
  cases b with
  | true => rfl
  | false => exact absurd rfl h
theorem fillN_F {α : Type} (F : α → Int32) (p : Nat → α) (n : Nat) (v : α) : fillN (fun i => F (p i)) n (F v) = fun i => F (fillN p n v i) := funext (fun j => by
  unfold fillN
  by_cases h : j < n
  · rw [if_pos h, if_pos h]
  · rw [if_neg h, if_neg h])
theorem fc_in {S0 : gl_H} {og tk : Int32} {w : Nat → Nat → Int64} {tks : Nat → Int32} {a : Nat → Nat} {n rd : Nat} {s0 : lc_T} {Z : State → Prop} (hn : n < 10) (ha : ∀ h, h < 10 → a h ≤ 12) (x : gl_X) (K : ∀ S, PM S og tk w tks (fun i => nI (a i)) (frF w a n (n + 1) s0).1 (fun i => oI ((frF w a n (n + 1) s0).2.1 i)) → Fr 12 30 S0 S → GG mX1_findChains x Z 89 [some (.ref 12), some (.int (nI n)), some (.int (bI (frF w a n (n + 1) s0).2.2)), some (.int (nI rd)), none] [] S (0, 0)) : ∀ (m g : Nat), g + m = n + 1 → ∀ S, PM S og tk w tks (fun i => nI (a i)) (frF w a n g s0).1 (fun i => oI ((frF w a n g s0).2.1 i)) → Fr 12 30 S0 S → GG mX1_findChains x Z 44 [some (.ref 12), some (.int (nI n)), some (.int (bI (frF w a n g s0).2.2)), some (.int (nI rd)), some (.int (nI g))] [] S (0, 0) := by
  intro m
  induction m with
  | zero =>
    intro g hm S hp hf
    have e : g = n + 1 := by omega
    subst e
    refine gg_iload dX1_findChains_44 rfl ?_
    refine gg_iload_n dX1_findChains_46 rfl rfl ?_
    refine gg_icmp_gt (tgt := 89) dX1_findChains_47 (by decide) (fun c47 => ?_) (fun c47 => ?_)
    · refine gg_fg [true, true, true, true, false] ?_
      exact K S hp hf
    · exact absurd (nI_lt (Nat.lt_succ_self n) (by omega)) c47
  | succ m ih =>
    intro g hm S hp hf
    have hg : g < 10 := by omega
    generalize hs : frF w a n g s0 = s at hp ⊢
    refine gg_iload dX1_findChains_44 rfl ?_
    refine gg_iload_n dX1_findChains_46 rfl rfl ?_
    refine gg_icmp_gt (tgt := 89) dX1_findChains_47 (by decide) (fun c47 => ?_) (fun c47 => ?_)
    · exact absurd (n_lt c47) (by omega)
    · refine gg_iload dX1_findChains_50 rfl ?_
      refine gg_bipush (v := 10) dX1_findChains_52 (by decide) ?_
      refine gg_icmp_ge (tgt := 89) dX1_findChains_54 (by decide) (fun c54 => ?_) (fun c54 => ?_)
      · exact absurd (n_le (a := 10) c54) (by omega)
      · refine gg_aload_n dX1_findChains_57 rfl rfl ?_
        refine gf_X1_23 rfl dX1_findChains_58 hp.1 rfl ?_
        refine gg_iload dX1_findChains_61 rfl ?_
        refine gg_ald_l (g) dX1_findChains_63 hp.2.2.2.2.2.1 rfl hg (by decide) ?_
        refine gg_ldc2 (v := mFAR) dX1_findChains_64 kq_81 ?_
        refine gg_lcmp dX1_findChains_67 ?_
        refine gg_if_eq (tgt := 83) dX1_findChains_68 (by decide) (fun c68 => ?_) (fun c68 => ?_)
        · have e : frS w a n g s = s := if_pos ((lg_cmp_eq _ _).mp c68)
          refine gg_iinc (w := nI (g + 1)) dX1_findChains_83 rfl (nI_1 g) (Nat.le_of_ble_eq_true rfl) rfl ?_
          refine gg_goto (tgt := 44) dX1_findChains_86 (by decide) ?_
          have e3 : frF w a n (g + 1) s0 = _ := (congrArg (frS w a n g) hs).trans e
          have h9 := ih (g + 1) (by omega) S
          rw [e3] at h9
          exact h9 hp hf
        · have c68 := lg_z _ _ c68
          refine gg_aload_n dX1_findChains_71 rfl rfl ?_
          refine gg_iload dX1_findChains_72 rfl ?_
          refine gg_iload_n dX1_findChains_74 rfl rfl ?_
          refine gg_callV (sp_X1_lengthenChains hp hn hg ha) dX1_findChains_75 kw_X1_90 rfl hp.1 rfl rfl (Nat.le_of_ble_eq_true rfl) (Nat.le_of_ble_eq_true rfl) (Nat.le_of_ble_eq_true rfl) ⟨(Nat.le_of_ble_eq_true rfl), (Nat.le_of_ble_eq_true rfl)⟩ (fun r S1 hq => ?_)
          refine gg_k (k2 := (0, 0)) rfl ?_
          obtain ⟨rfl, hp, hf1⟩ := hq
          have hf := hf.tr hf1
          clear hf1
          generalize hr : lcF w a g n (s.1, s.2.1, false) = r at hp ⊢
          revert S1
          intro S hf hp
          refine gg_if_eq (tgt := 83) dX1_findChains_78 (by decide) (fun c78 => ?_) (fun c78 => ?_)
          · have e : frS w a n g s = (r.1, r.2.1, s.2.2) := (if_neg c68).trans (by rw [hr, bI_z c78]; rfl)
            refine gg_iinc (w := nI (g + 1)) dX1_findChains_83 rfl (nI_1 g) (Nat.le_of_ble_eq_true rfl) rfl ?_
            refine gg_goto (tgt := 44) dX1_findChains_86 (by decide) ?_
            have e3 : frF w a n (g + 1) s0 = _ := (congrArg (frS w a n g) hs).trans e
            have h9 := ih (g + 1) (by omega) S
            rw [e3] at h9
            exact h9 hp hf
          · have e : frS w a n g s = (r.1, r.2.1, true) := (if_neg c68).trans (by rw [hr, bI_nz c78]; rfl)
            refine gg_iconst (v := 1) dX1_findChains_81 (by decide) ?_
            refine gg_istore_n dX1_findChains_82 rfl (Nat.le_of_ble_eq_true rfl) rfl ?_
            refine gg_iinc (w := nI (g + 1)) dX1_findChains_83 rfl (nI_1 g) (Nat.le_of_ble_eq_true rfl) rfl ?_
            refine gg_goto (tgt := 44) dX1_findChains_86 (by decide) ?_
            have e3 : frF w a n (g + 1) s0 = _ := (congrArg (frS w a n g) hs).trans e
            have h9 := ih (g + 1) (by omega) S
            rw [e3] at h9
            exact h9 hp hf
theorem fc_out {S0 : gl_H} {og tk : Int32} {w : Nat → Nat → Int64} {tks : Nat → Int32} {a : Nat → Nat} {n : Nat} {s0 : lc_T} (hn : n < 10) (ha : ∀ h, h < 10 → a h ≤ 12) (x : gl_X) : ∀ (m rd : Nat), rd + m = 10 → ∀ S, PM S og tk w tks (fun i => nI (a i)) (rdF w a n rd s0).1 (fun i => oI ((rdF w a n rd s0).2.1 i)) → Fr 12 30 S0 S → GG mX1_findChains x (gl_Z mX1_findChains x (fun r S1 => r = none ∧ PM S1 og tk w tks (fun i => nI (a i)) (rdF w a n 10 s0).1 (fun i => oI ((rdF w a n 10 s0).2.1 i)) ∧ Fr 12 30 S0 S1)) 29 [some (.ref 12), some (.int (nI n)), some (.int (bI (rdF w a n rd s0).2.2)), some (.int (nI rd)), none] [] S (0, 0) := by
  intro m
  induction m with
  | zero =>
    intro rd hm S hp hf
    have e : rd = 10 := by omega
    subst e
    refine gg_iload_n dX1_findChains_29 rfl rfl ?_
    refine gg_bipush (v := 10) dX1_findChains_30 (by decide) ?_
    refine gg_icmp_ge (tgt := 95) dX1_findChains_32 (by decide) (fun c32 => ?_) (fun c32 => ?_)
    · exact gg_return dX1_findChains_95 rfl ⟨(Nat.le_of_ble_eq_true rfl), (Nat.le_of_ble_eq_true rfl)⟩ (⟨rfl, hp, hf⟩)
    · exact absurd (nI_le (Nat.le_refl 10) (by omega)) c32
  | succ m ih =>
    intro rd hm S hp hf
    refine gg_iload_n dX1_findChains_29 rfl rfl ?_
    refine gg_bipush (v := 10) dX1_findChains_30 (by decide) ?_
    refine gg_icmp_ge (tgt := 95) dX1_findChains_32 (by decide) (fun c32 => ?_) (fun c32 => ?_)
    · exact absurd (n_le (a := 10) c32) (by omega)
    · refine gg_iload_n dX1_findChains_35 rfl rfl ?_
      refine gg_if_eq (tgt := 95) dX1_findChains_36 (by decide) (fun c36 => ?_) (fun c36 => ?_)
      · have c36 := bI_z c36
        have e4 := rdF_stop c36 (m + 1)
        rw [hm] at e4
        exact gg_return dX1_findChains_95 rfl ⟨(Nat.le_of_ble_eq_true rfl), (Nat.le_of_ble_eq_true rfl)⟩ (⟨rfl, by rw [e4]; exact hp, hf⟩)
      · have c36 := bI_nz c36
        refine gg_iconst (v := 0) dX1_findChains_39 (by decide) ?_
        refine gg_istore_n dX1_findChains_40 rfl (Nat.le_of_ble_eq_true rfl) rfl ?_
        refine gg_iconst (v := 0) dX1_findChains_41 (by decide) ?_
        refine gg_istore dX1_findChains_42 (Nat.le_of_ble_eq_true rfl) rfl ?_
        refine fc_in (S0 := S0) (s0 := ((rdF w a n rd s0).1, (rdF w a n rd s0).2.1, false)) hn ha x (fun S hp hf => ?_) (n + 1) 0 (by omega) S hp hf
        refine gg_iinc (w := nI (rd + 1)) dX1_findChains_89 rfl (nI_1 rd) (Nat.le_of_ble_eq_true rfl) rfl ?_
        refine gg_goto (tgt := 29) dX1_findChains_92 (by decide) ?_
        have e3 : rdF w a n (rd + 1) s0 = frF w a n (n + 1) ((rdF w a n rd s0).1, (rdF w a n rd s0).2.1, false) := by
          show rdS w a n (rdF w a n rd s0) = _
          rw [rdS, if_pos c36]
        have h9 := ih (rd + 1) (by omega) S
        rw [e3] at h9
        exact h9 hp hf
def s0F (tl : Nat → Int64) (par : Nat → Option Nat) (n : Nat) : lc_T := (vp_updL (fillN tl 10 mFAR) n 0, fillN par 10 none, true)
theorem sp_X1_findChains {S : gl_H} {og tk : Int32} {w : Nat → Nat → Int64} {tks : Nat → Int32} {a : Nat → Nat} {tl : Nat → Int64} {par : Nat → Option Nat} (hp : PM S og tk w tks (fun i => nI (a i)) tl (fun i => oI (par i))) {n : Nat} (hn : n < 10) (ha : ∀ h, h < 10 → a h ≤ 12) : Sp mX1_findChains yX1_findChains [.ref 12, .int (nI n)] S (fun r S1 => r = none ∧ PM S1 og tk w tks (fun i => nI (a i)) (rdF w a n 10 (s0F tl par n)).1 (fun i => oI ((rdF w a n 10 (s0F tl par n)).2.1 i)) ∧ Fr 12 30 S S1) := by
  refine gl_enter (j := 3) (by decide +kernel) rfl (fun h => absurd h (by decide)) (Nat.le_of_ble_eq_true rfl) rfl (fun x => ?_)
  have hf : Fr 12 30 S S := Fr.rf
  refine gg_aload_n dX1_findChains_0 rfl rfl ?_
  refine gf_X1_23 rfl dX1_findChains_1 hp.1 rfl ?_
  refine gg_ldc2 (v := mFAR) dX1_findChains_4 kq_81 ?_
  refine gg_callS (sp_J7_fill_d0a16 (by decide) hp.2.2.2.2.2.1 mFAR) dX1_findChains_7 kw_X1_32 rfl rfl (Nat.le_of_ble_eq_true rfl) (Nat.le_of_ble_eq_true rfl) (Nat.le_of_ble_eq_true rfl) ⟨(Nat.le_of_ble_eq_true rfl), (Nat.le_of_ble_eq_true rfl)⟩ (fun r S1 hq => ?_)
  refine gg_k (k2 := (0, 0)) rfl ?_
  obtain ⟨rfl, e9⟩ := hq
  rw [e9]
  clear e9 S1
  refine PMs_tl hp hf (fun S hp hf => ?_)
  refine gg_aload_n dX1_findChains_10 rfl rfl ?_
  refine gf_X1_27 rfl dX1_findChains_11 hp.1 rfl ?_
  refine gg_iconst (v := -1) dX1_findChains_14 (by decide) ?_
  refine gg_callS (sp_J7_fill_53178 (by decide) hp.2.2.2.2.2.2 (-1)) dX1_findChains_15 kw_X1_38 rfl rfl (Nat.le_of_ble_eq_true rfl) (Nat.le_of_ble_eq_true rfl) (Nat.le_of_ble_eq_true rfl) ⟨(Nat.le_of_ble_eq_true rfl), (Nat.le_of_ble_eq_true rfl)⟩ (fun r S1 hq => ?_)
  refine gg_k (k2 := (0, 0)) rfl ?_
  obtain ⟨rfl, e9⟩ := hq
  rw [e9]
  clear e9 S1
  refine PMs_lt hp hf (fun S hp hf => ?_)
  rw [show fillN (fun i => oI (par i)) 10 (-1) = fun i => oI (fillN par 10 none i) from fillN_F oI par 10 none] at hp
  refine gg_aload_n dX1_findChains_18 rfl rfl ?_
  refine gf_X1_23 rfl dX1_findChains_19 hp.1 rfl ?_
  refine gg_iload_n dX1_findChains_22 rfl rfl ?_
  refine gg_lconst (v := 0) dX1_findChains_23 (by decide) ?_
  refine gg_ast_l (n) dX1_findChains_24 hp.2.2.2.2.2.1 rfl hn (by decide) ?_
  refine PMs_tl hp hf (fun S hp hf => ?_)
  refine gg_iconst (v := 1) dX1_findChains_25 (by decide) ?_
  refine gg_istore_n dX1_findChains_26 rfl (Nat.le_of_ble_eq_true rfl) rfl ?_
  refine gg_iconst (v := 0) dX1_findChains_27 (by decide) ?_
  refine gg_istore_n dX1_findChains_28 rfl (Nat.le_of_ble_eq_true rfl) rfl ?_
  exact fc_out (s0 := s0F tl par n) hn ha x 10 0 rfl S hp hf
def ceS (w : Nat → Nat → Int64) (tk : Int32) (g t b : Nat) : Nat := if w g t ≠ -1 ∧ hb_ tk (nI t) = false ∧ w g t < w g b then t else b
def ceF (w : Nat → Nat → Int64) (tk : Int32) (g : Nat) : Nat → Nat
  | 0 => 12
  | t + 1 => ceS w tk g t (ceF w tk g t)
theorem ceF_le (w : Nat → Nat → Int64) (tk : Int32) (g : Nat) : ∀ t, t ≤ 12 → ceF w tk g t ≤ 12
  | 0, _ => Nat.le_refl 12
  | t + 1, h => by
    show ceS w tk g t (ceF w tk g t) ≤ 12
    unfold ceS
    by_cases c : w g t ≠ -1 ∧ hb_ tk (nI t) = false ∧ w g t < w g (ceF w tk g t)
    · rw [if_pos c]; omega
    · rw [if_neg c]; exact ceF_le w tk g t (by omega)
theorem ce_loop {S : gl_H} {og tk : Int32} {w : Nat → Nat → Int64} {tks to : Nat → Int32} {tl : Nat → Int64} {lt : Nat → Int32} {g : Nat} (hg : g < 10) (hp : PM S og tk w tks to tl lt) (x : gl_X) : ∀ (m t : Nat), t + m = 12 → GG mX1_cheapestEnd x (gl_Z mX1_cheapestEnd x (fun r S1 => S1 = S ∧ r = some (.int (nI (ceF w tk g 12))))) 5 [some (.ref 12), some (.int (nI g)), some (.int (nI (ceF w tk g t))), some (.int (nI t)), none] [] S (0, 0) := by
  intro m
  induction m with
  | zero =>
    intro t hm
    have e : t = 12 := by omega
    subst e
    refine gg_iload_n dX1_cheapestEnd_5 rfl rfl ?_
    refine gg_bipush (v := 12) dX1_cheapestEnd_6 (by decide) ?_
    refine gg_icmp_ge (tgt := 71) dX1_cheapestEnd_8 (by decide) (fun c8 => ?_) (fun c8 => ?_)
    · refine gg_iload_n dX1_cheapestEnd_71 rfl rfl ?_
      exact gg_ireturn dX1_cheapestEnd_72 rfl rfl ⟨(Nat.le_of_ble_eq_true rfl), (Nat.le_of_ble_eq_true rfl)⟩ (⟨rfl, rfl⟩)
    · exact absurd (nI_le (Nat.le_refl 12) (by omega)) c8
  | succ m ih =>
    intro t hm
    have ht : t < 12 := by omega
    have hb := ceF_le w tk g t (by omega)
    generalize hs : ceF w tk g t = b at hb ⊢
    refine gg_iload_n dX1_cheapestEnd_5 rfl rfl ?_
    refine gg_bipush (v := 12) dX1_cheapestEnd_6 (by decide) ?_
    refine gg_icmp_ge (tgt := 71) dX1_cheapestEnd_8 (by decide) (fun c8 => ?_) (fun c8 => ?_)
    · exact absurd (n_le (a := 12) c8) (by omega)
    · refine gg_aload_n dX1_cheapestEnd_11 rfl rfl ?_
      refine gg_iload_n dX1_cheapestEnd_12 rfl rfl ?_
      refine gg_iload_n dX1_cheapestEnd_13 rfl rfl ?_
      refine gg_callV (sp_X1_weightOf hp hg (show t < 13 by omega)) dX1_cheapestEnd_14 kw_X1_66 rfl hp.1 rfl rfl (Nat.le_of_ble_eq_true rfl) (Nat.le_of_ble_eq_true rfl) (Nat.le_of_ble_eq_true rfl) ⟨(Nat.le_of_ble_eq_true rfl), (Nat.le_of_ble_eq_true rfl)⟩ (fun r S1 hq => ?_)
      refine gg_k (k2 := (0, 0)) rfl ?_
      obtain ⟨e9, rfl⟩ := hq
      rw [e9]
      clear e9 S1
      refine gg_ldc2 (v := -1) dX1_cheapestEnd_17 kq_30 ?_
      refine gg_lcmp dX1_cheapestEnd_20 ?_
      refine gg_if_eq (tgt := 39) dX1_cheapestEnd_21 (by decide) (fun c21 => ?_) (fun c21 => ?_)
      · have c21 := (lg_cmp_eq _ _).mp c21
        have e : ceS w tk g t b = b := if_neg (fun q => q.1 c21)
        refine gg_iconst (v := 0) dX1_cheapestEnd_39 (by decide) ?_
        refine gg_istore dX1_cheapestEnd_40 (Nat.le_of_ble_eq_true rfl) rfl ?_
        refine gg_iload dX1_cheapestEnd_42 rfl ?_
        refine gg_if_eq (tgt := 65) dX1_cheapestEnd_44 (by decide) (fun _ => ?_) (fun h => absurd rfl h)
        refine gg_iinc (w := nI (t + 1)) dX1_cheapestEnd_65 rfl (nI_1 t) (Nat.le_of_ble_eq_true rfl) rfl ?_
        refine gg_goto (tgt := 5) dX1_cheapestEnd_68 (by decide) ?_
        have e3 : ceF w tk g (t + 1) = _ := (congrArg (ceS w tk g t) hs).trans e
        refine gg_fg [true, true, true, true, false] ?_
        have h9 := ih (t + 1) (by omega)
        rw [e3] at h9
        exact h9
      · have c21 := lg_z _ _ c21
        refine gg_aload_n dX1_cheapestEnd_24 rfl rfl ?_
        refine gf_X1_45 rfl dX1_cheapestEnd_25 hp.1 rfl ?_
        refine gg_iload_n dX1_cheapestEnd_28 rfl rfl ?_
        refine gg_callSN (host := RX6) (sp_X6_hasBit S tk (nI t)) dX1_cheapestEnd_29 (fun _ _ _ _ h => h.2.2.2.2.2.2.2.2.2) kw_X1_58 rfl rfl (Nat.le_of_ble_eq_true rfl) (Nat.le_of_ble_eq_true rfl) (Nat.le_of_ble_eq_true rfl) ⟨(Nat.le_of_ble_eq_true rfl), (Nat.le_of_ble_eq_true rfl)⟩ (fun r S1 hq => ?_)
        refine gg_k (k2 := (0, 0)) rfl ?_
        obtain ⟨e9, rfl⟩ := hq
        rw [e9]
        clear e9 S1
        refine gg_if_ne (tgt := 39) dX1_cheapestEnd_32 (by decide) (fun c32 => ?_) (fun c32 => ?_)
        · have c32 := bI_nz c32
          have e : ceS w tk g t b = b := if_neg (fun q => by rw [c32] at q; cases q.2.1)
          refine gg_iconst (v := 0) dX1_cheapestEnd_39 (by decide) ?_
          refine gg_istore dX1_cheapestEnd_40 (Nat.le_of_ble_eq_true rfl) rfl ?_
          refine gg_iload dX1_cheapestEnd_42 rfl ?_
          refine gg_if_eq (tgt := 65) dX1_cheapestEnd_44 (by decide) (fun _ => ?_) (fun h => absurd rfl h)
          refine gg_iinc (w := nI (t + 1)) dX1_cheapestEnd_65 rfl (nI_1 t) (Nat.le_of_ble_eq_true rfl) rfl ?_
          refine gg_goto (tgt := 5) dX1_cheapestEnd_68 (by decide) ?_
          have e3 : ceF w tk g (t + 1) = _ := (congrArg (ceS w tk g t) hs).trans e
          refine gg_fg [true, true, true, true, false] ?_
          have h9 := ih (t + 1) (by omega)
          rw [e3] at h9
          exact h9
        · have c32 : hb_ tk (nI t) = false := bI_z c32
          refine gg_iconst (v := 1) dX1_cheapestEnd_35 (by decide) ?_
          refine gg_goto (tgt := 40) dX1_cheapestEnd_36 (by decide) ?_
          refine gg_istore dX1_cheapestEnd_40 (Nat.le_of_ble_eq_true rfl) rfl ?_
          refine gg_iload dX1_cheapestEnd_42 rfl ?_
          refine gg_if_eq (tgt := 65) dX1_cheapestEnd_44 (by decide) (fun h => absurd h (by decide)) (fun _ => ?_)
          refine gg_aload_n dX1_cheapestEnd_47 rfl rfl ?_
          refine gg_iload_n dX1_cheapestEnd_48 rfl rfl ?_
          refine gg_iload_n dX1_cheapestEnd_49 rfl rfl ?_
          refine gg_callV (sp_X1_weightOf hp hg (show t < 13 by omega)) dX1_cheapestEnd_50 kw_X1_66 rfl hp.1 rfl rfl (Nat.le_of_ble_eq_true rfl) (Nat.le_of_ble_eq_true rfl) (Nat.le_of_ble_eq_true rfl) ⟨(Nat.le_of_ble_eq_true rfl), (Nat.le_of_ble_eq_true rfl)⟩ (fun r S1 hq => ?_)
          refine gg_k (k2 := (0, 0)) rfl ?_
          obtain ⟨e9, rfl⟩ := hq
          rw [e9]
          clear e9 S1
          refine gg_aload_n dX1_cheapestEnd_53 rfl rfl ?_
          refine gg_iload_n dX1_cheapestEnd_54 rfl rfl ?_
          refine gg_iload_n dX1_cheapestEnd_55 rfl rfl ?_
          refine gg_callV (sp_X1_weightOf hp hg (show b < 13 by omega)) dX1_cheapestEnd_56 kw_X1_66 rfl hp.1 rfl rfl (Nat.le_of_ble_eq_true rfl) (Nat.le_of_ble_eq_true rfl) (Nat.le_of_ble_eq_true rfl) ⟨(Nat.le_of_ble_eq_true rfl), (Nat.le_of_ble_eq_true rfl)⟩ (fun r S1 hq => ?_)
          refine gg_k (k2 := (0, 0)) rfl ?_
          obtain ⟨e9, rfl⟩ := hq
          rw [e9]
          clear e9 S1
          refine gg_lcmp dX1_cheapestEnd_59 ?_
          refine gg_if_ge (tgt := 65) dX1_cheapestEnd_60 (by decide) (fun c60 => ?_) (fun c60 => ?_)
          · have e : ceS w tk g t b = b := if_neg (fun q => Int64.not_lt.mpr ((lg_cmp_ge _ _).mp c60) q.2.2)
            refine gg_iinc (w := nI (t + 1)) dX1_cheapestEnd_65 rfl (nI_1 t) (Nat.le_of_ble_eq_true rfl) rfl ?_
            refine gg_goto (tgt := 5) dX1_cheapestEnd_68 (by decide) ?_
            have e3 : ceF w tk g (t + 1) = _ := (congrArg (ceS w tk g t) hs).trans e
            refine gg_fg [true, true, true, true, false] ?_
            have h9 := ih (t + 1) (by omega)
            rw [e3] at h9
            exact h9
          · have e : ceS w tk g t b = t := if_pos ⟨c21, c32, Int64.not_le.mp (fun q => c60 ((lg_cmp_ge _ _).mpr q))⟩
            refine gg_iload_n dX1_cheapestEnd_63 rfl rfl ?_
            refine gg_istore_n dX1_cheapestEnd_64 rfl (Nat.le_of_ble_eq_true rfl) rfl ?_
            refine gg_iinc (w := nI (t + 1)) dX1_cheapestEnd_65 rfl (nI_1 t) (Nat.le_of_ble_eq_true rfl) rfl ?_
            refine gg_goto (tgt := 5) dX1_cheapestEnd_68 (by decide) ?_
            have e3 : ceF w tk g (t + 1) = _ := (congrArg (ceS w tk g t) hs).trans e
            refine gg_fg [true, true, true, true, false] ?_
            have h9 := ih (t + 1) (by omega)
            rw [e3] at h9
            exact h9
theorem sp_X1_cheapestEnd {S : gl_H} {og tk : Int32} {w : Nat → Nat → Int64} {tks to : Nat → Int32} {tl : Nat → Int64} {lt : Nat → Int32} {g : Nat} (hg : g < 10) (hp : PM S og tk w tks to tl lt) : Sp mX1_cheapestEnd yX1_cheapestEnd [.ref 12, .int (nI g)] S (fun r S1 => S1 = S ∧ r = some (.int (nI (ceF w tk g 12)))) := by
  refine gl_enter (j := 3) (by decide +kernel) rfl (fun h => absurd h (by decide)) (Nat.le_of_ble_eq_true rfl) rfl (fun x => ?_)
  refine gg_bipush (v := 12) dX1_cheapestEnd_0 (by decide) ?_
  refine gg_istore_n dX1_cheapestEnd_2 rfl (Nat.le_of_ble_eq_true rfl) rfl ?_
  refine gg_iconst (v := 0) dX1_cheapestEnd_3 (by decide) ?_
  refine gg_istore_n dX1_cheapestEnd_4 rfl (Nat.le_of_ble_eq_true rfl) rfl ?_
  exact ce_loop hg hp x 12 0 rfl
end
section
/-! the shift, a gap comes in, the match -/
theorem sp_X1_isGap_y (S : gl_H) {g : Nat} (hg : g < 10) : Sp mX1_isGap yX1_isGap [.int (nI g)] S (fun r S1 => S1 = S ∧ r = some (.int 1)) := by
  refine gl_enter (j := 0) (by decide +kernel) rfl (fun h => absurd h (by decide)) (Nat.le_of_ble_eq_true rfl) rfl (fun x => ?_)
  refine gg_iload_n dX1_isGap_0 rfl rfl ?_
  refine gg_if_lt (tgt := 14) dX1_isGap_1 (by decide) (fun c1 => ?_) (fun c1 => ?_)
  · exact absurd c1 (nI_pos (by omega))
  · refine gg_iload_n dX1_isGap_4 rfl rfl ?_
    refine gg_bipush (v := 10) dX1_isGap_5 (by decide) ?_
    refine gg_icmp_ge (tgt := 14) dX1_isGap_7 (by decide) (fun c7 => ?_) (fun c7 => ?_)
    · exact absurd (n_le (a := 10) c7) (by omega)
    · refine gg_iconst (v := 1) dX1_isGap_10 (by decide) ?_
      refine gg_goto (tgt := 15) dX1_isGap_11 (by decide) ?_
      exact gg_ireturn dX1_isGap_15 rfl rfl ⟨(Nat.le_of_ble_eq_true rfl), (Nat.le_of_ble_eq_true rfl)⟩ (⟨rfl, rfl⟩)
theorem sp_X1_isGap_n (S : gl_H) : Sp mX1_isGap yX1_isGap [.int (-1)] S (fun r S1 => S1 = S ∧ r = some (.int 0)) := by
  refine gl_enter (j := 0) (by decide +kernel) rfl (fun h => absurd h (by decide)) (Nat.le_of_ble_eq_true rfl) rfl (fun x => ?_)
  refine gg_iload_n dX1_isGap_0 rfl rfl ?_
  refine gg_if_lt (tgt := 14) dX1_isGap_1 (by decide) (fun c1 => ?_) (fun c1 => ?_)
  · refine gg_iconst (v := 0) dX1_isGap_14 (by decide) ?_
    exact gg_ireturn dX1_isGap_15 rfl rfl ⟨(Nat.le_of_ble_eq_true rfl), (Nat.le_of_ble_eq_true rfl)⟩ (⟨rfl, rfl⟩)
  · exact absurd (by decide) c1
abbrev sh_T : Type := (Nat → Nat) × Option Nat × Nat
def shS (n : Nat) (par : Nat → Option Nat) (s : sh_T) : sh_T := match s.2.1 with
  | none => s
  | some g => (va_up s.1 g s.2.2, (if g = n then none else par g), s.1 g)
def shF (n : Nat) (par : Nat → Option Nat) : Nat → sh_T → sh_T
  | 0, s => s
  | m + 1, s => shS n par (shF n par m s)
theorem shF_stop {n r : Nat} {par : Nat → Option Nat} {s : sh_T} (h : (shF n par r s).2.1 = none) : ∀ m, shF n par (r + m) s = shF n par r s
  | 0 => rfl
  | m + 1 => by
    show shS n par (shF n par (r + m) s) = _
    rw [shF_stop h m, shS, h]
theorem shF_lt {n : Nat} {par : Nat → Option Nat} (hpar : ∀ g h, par g = some h → h < 10) {s : sh_T} (h0 : ∀ g, s.2.1 = some g → g < 10) : ∀ (r g : Nat), (shF n par r s).2.1 = some g → g < 10
  | 0, g, h => h0 g h
  | r + 1, g, h => by
    have ih := shF_lt (n := n) hpar h0 r
    have h' : (shS n par (shF n par r s)).2.1 = some g := h
    generalize shF n par r s = q at ih h'
    obtain ⟨a, cur, c⟩ := q
    cases cur with
    | none => exact absurd h' (by simp [shS])
    | some g0 =>
      have h2 : (if g0 = n then none else par g0) = some g := h'
      by_cases e : g0 = n
      · rw [if_pos e] at h2; cases h2
      · rw [if_neg e] at h2; exact hpar _ _ h2
theorem shF_le {n : Nat} {par : Nat → Option Nat} {s : sh_T} (h0 : ∀ i, s.1 i ≤ 12) (hc : s.2.2 ≤ 12) : ∀ (r : Nat), (∀ i, (shF n par r s).1 i ≤ 12) ∧ (shF n par r s).2.2 ≤ 12
  | 0 => ⟨h0, hc⟩
  | r + 1 => by
    have ih := shF_le (n := n) (par := par) h0 hc r
    show (∀ i, (shS n par (shF n par r s)).1 i ≤ 12) ∧ (shS n par (shF n par r s)).2.2 ≤ 12
    generalize shF n par r s = q at ih
    obtain ⟨a, cur, c⟩ := q
    cases cur with
    | none => exact ih
    | some g0 =>
      refine ⟨fun i => ?_, ih.1 g0⟩
      show va_up a g0 c i ≤ 12
      unfold va_up
      by_cases e : i = g0
      · rw [if_pos e]; exact ih.2
      · rw [if_neg e]; exact ih.1 i
def tkU (tk : Int32) (t : Nat) : Int32 := if t = 12 then tk else tk ||| ((1 : Int32) <<< (nI t &&& 31))
theorem sh_loop {S0 : gl_H} {og tk : Int32} {w : Nat → Nat → Int64} {tks : Nat → Int32} {tl : Nat → Int64} {par : Nat → Option Nat} {n e t : Nat} {s0 : sh_T} (hn : n < 10) (hpar : ∀ g h, par g = some h → h < 10) (h0 : ∀ g, s0.2.1 = some g → g < 10) (x : gl_X) : ∀ (m st : Nat), st + m = 10 → ∀ S, PM S og tk w tks (fun i => nI ((shF n par st s0).1 i)) tl (fun i => oI (par i)) → Fr 12 30 S0 S → GG mX1_shiftAlong x (gl_Z mX1_shiftAlong x (fun r S1 => r = none ∧ PM S1 og tk w tks (fun i => nI ((shF n par 10 s0).1 i)) tl (fun i => oI (par i)) ∧ Fr 12 30 S0 S1)) 27 [some (.ref 12), some (.int (nI n)), some (.int (nI e)), some (.int (nI t)), some (.int (oI (shF n par st s0).2.1)), some (.int (nI (shF n par st s0).2.2)), some (.int (nI st)), none] [] S (0, 0) := by
  intro m
  induction m with
  | zero =>
    intro st hm S hp hf
    have e : st = 10 := by omega
    subst e
    refine gg_iload dX1_shiftAlong_27 rfl ?_
    refine gg_bipush (v := 10) dX1_shiftAlong_29 (by decide) ?_
    refine gg_icmp_ge (tgt := 89) dX1_shiftAlong_31 (by decide) (fun c31 => ?_) (fun c31 => ?_)
    · exact gg_return dX1_shiftAlong_89 rfl ⟨(Nat.le_of_ble_eq_true rfl), (Nat.le_of_ble_eq_true rfl)⟩ (⟨rfl, hp, hf⟩)
    · exact absurd (nI_le (Nat.le_refl 10) (by omega)) c31
  | succ m ih =>
    intro st hm S hp hf
    have hlt := shF_lt (n := n) hpar h0 st
    have hstop := shF_stop (n := n) (r := st) (par := par) (s := s0)
    generalize hs : shF n par st s0 = s at hp hlt hstop ⊢
    obtain ⟨a, cur, co⟩ := s
    cases cur with
    | none =>
      have e4 := hstop rfl (m + 1)
      rw [hm] at e4
      refine gg_iload dX1_shiftAlong_27 rfl ?_
      refine gg_bipush (v := 10) dX1_shiftAlong_29 (by decide) ?_
      refine gg_icmp_ge (tgt := 89) dX1_shiftAlong_31 (by decide) (fun c31 => ?_) (fun c31 => ?_)
      · exact absurd (n_le (a := 10) c31) (by omega)
      · refine gg_iload dX1_shiftAlong_34 rfl ?_
        refine gg_callS (sp_X1_isGap_n S) dX1_shiftAlong_36 kw_X1_48 rfl rfl (Nat.le_of_ble_eq_true rfl) (Nat.le_of_ble_eq_true rfl) (Nat.le_of_ble_eq_true rfl) ⟨(Nat.le_of_ble_eq_true rfl), (Nat.le_of_ble_eq_true rfl)⟩ (fun r S1 hq => ?_)
        refine gg_k (k2 := (0, 0)) rfl ?_
        obtain ⟨e9, rfl⟩ := hq
        rw [e9]
        clear e9 S1
        refine gg_if_eq (tgt := 89) dX1_shiftAlong_39 (by decide) (fun c39 => ?_) (fun c39 => ?_)
        · exact gg_return dX1_shiftAlong_89 rfl ⟨(Nat.le_of_ble_eq_true rfl), (Nat.le_of_ble_eq_true rfl)⟩ (⟨rfl, by rw [e4]; exact hp, hf⟩)
        · exact absurd rfl c39
    | some g =>
      have hg : g < 10 := hlt g rfl
      refine gg_iload dX1_shiftAlong_27 rfl ?_
      refine gg_bipush (v := 10) dX1_shiftAlong_29 (by decide) ?_
      refine gg_icmp_ge (tgt := 89) dX1_shiftAlong_31 (by decide) (fun c31 => ?_) (fun c31 => ?_)
      · exact absurd (n_le (a := 10) c31) (by omega)
      · refine gg_iload dX1_shiftAlong_34 rfl ?_
        refine gg_callS (sp_X1_isGap_y S hg) dX1_shiftAlong_36 kw_X1_48 rfl rfl (Nat.le_of_ble_eq_true rfl) (Nat.le_of_ble_eq_true rfl) (Nat.le_of_ble_eq_true rfl) ⟨(Nat.le_of_ble_eq_true rfl), (Nat.le_of_ble_eq_true rfl)⟩ (fun r S1 hq => ?_)
        refine gg_k (k2 := (0, 0)) rfl ?_
        obtain ⟨e9, rfl⟩ := hq
        rw [e9]
        clear e9 S1
        refine gg_if_eq (tgt := 89) dX1_shiftAlong_39 (by decide) (fun c39 => ?_) (fun c39 => ?_)
        · exact absurd c39 (by decide)
        · refine gg_aload_n dX1_shiftAlong_42 rfl rfl ?_
          refine gf_X1_20 rfl dX1_shiftAlong_43 hp.1 rfl ?_
          refine gg_iload dX1_shiftAlong_46 rfl ?_
          refine gg_ald_i (g) dX1_shiftAlong_48 hp.2.2.2.2.1 rfl hg (by decide) ?_
          refine gg_istore dX1_shiftAlong_49 (Nat.le_of_ble_eq_true rfl) rfl ?_
          refine gg_aload_n dX1_shiftAlong_51 rfl rfl ?_
          refine gf_X1_20 rfl dX1_shiftAlong_52 hp.1 rfl ?_
          refine gg_iload dX1_shiftAlong_55 rfl ?_
          refine gg_iload dX1_shiftAlong_57 rfl ?_
          refine gg_ast_i (g) dX1_shiftAlong_59 hp.2.2.2.2.1 rfl hg (by decide) ?_
          refine PMs_to hp hf (fun S hp hf => ?_)
          rw [show upd (fun i => nI (a i)) g (nI co) = fun i => nI (va_up a g co i) from upd_F nI a g co] at hp
          refine gg_iload dX1_shiftAlong_60 rfl ?_
          refine gg_istore dX1_shiftAlong_62 (Nat.le_of_ble_eq_true rfl) rfl ?_
          refine gg_iload dX1_shiftAlong_64 rfl ?_
          refine gg_iload_n dX1_shiftAlong_66 rfl rfl ?_
          refine gg_icmp_ne (tgt := 74) dX1_shiftAlong_67 (by decide) (fun c67 => ?_) (fun c67 => ?_)
          · have e : shS n par (a, some g, co) = (va_up a g co, par g, a g) := by show (_, (if g = n then none else par g), _) = _; rw [if_neg (n_ne c67)]
            refine gg_aload_n dX1_shiftAlong_74 rfl rfl ?_
            refine gf_X1_27 rfl dX1_shiftAlong_75 hp.1 rfl ?_
            refine gg_iload dX1_shiftAlong_78 rfl ?_
            refine gg_ald_i (g) dX1_shiftAlong_80 hp.2.2.2.2.2.2 rfl hg (by decide) ?_
            refine gg_istore dX1_shiftAlong_81 (Nat.le_of_ble_eq_true rfl) rfl ?_
            refine gg_iinc (w := nI (st + 1)) dX1_shiftAlong_83 rfl (nI_1 st) (Nat.le_of_ble_eq_true rfl) rfl ?_
            refine gg_goto (tgt := 27) dX1_shiftAlong_86 (by decide) ?_
            have e3 : shF n par (st + 1) s0 = _ := (congrArg (shS n par) hs).trans e
            refine gg_fg [true, true, true, true, true, true, true, false] ?_
            have h9 := ih (st + 1) (by omega) S
            rw [e3] at h9
            exact h9 hp hf
          · have e : shS n par (a, some g, co) = (va_up a g co, none, a g) := by show (_, (if g = n then none else par g), _) = _; rw [if_pos (n_eq c67)]
            refine gg_iconst (v := -1) dX1_shiftAlong_70 (by decide) ?_
            refine gg_goto (tgt := 81) dX1_shiftAlong_71 (by decide) ?_
            refine gg_istore dX1_shiftAlong_81 (Nat.le_of_ble_eq_true rfl) rfl ?_
            refine gg_iinc (w := nI (st + 1)) dX1_shiftAlong_83 rfl (nI_1 st) (Nat.le_of_ble_eq_true rfl) rfl ?_
            refine gg_goto (tgt := 27) dX1_shiftAlong_86 (by decide) ?_
            have e3 : shF n par (st + 1) s0 = _ := (congrArg (shS n par) hs).trans e
            refine gg_fg [true, true, true, true, true, true, true, false] ?_
            have h9 := ih (st + 1) (by omega) S
            rw [e3] at h9
            exact h9 hp hf
theorem sp_X1_shiftAlong {S : gl_H} {og tk : Int32} {w : Nat → Nat → Int64} {tks : Nat → Int32} {a : Nat → Nat} {tl : Nat → Int64} {par : Nat → Option Nat} (hp : PM S og tk w tks (fun i => nI (a i)) tl (fun i => oI (par i))) {n e t : Nat} (hn : n < 10) (he : e < 10) (ht : t ≤ 12) (hpar : ∀ g h, par g = some h → h < 10) : Sp mX1_shiftAlong yX1_shiftAlong [.ref 12, .int (nI n), .int (nI e), .int (nI t)] S (fun r S1 => r = none ∧ PM S1 og (tkU tk t) w tks (fun i => nI ((shF n par 10 (a, some e, t)).1 i)) tl (fun i => oI (par i)) ∧ Fr 12 30 S S1) := by
  refine gl_enter (j := 4) (by decide +kernel) rfl (fun h => absurd h (by decide)) (Nat.le_of_ble_eq_true rfl) rfl (fun x => ?_)
  have hf : Fr 12 30 S S := Fr.rf
  refine gg_iload_n dX1_shiftAlong_0 rfl rfl ?_
  refine gg_bipush (v := 12) dX1_shiftAlong_1 (by decide) ?_
  refine gg_icmp_eq (tgt := 18) dX1_shiftAlong_3 (by decide) (fun c3 => ?_) (fun c3 => ?_)
  · have e0 : tkU tk t = tk := if_pos (n_eq (b := 12) c3)
    rw [e0]
    refine gg_iload_n dX1_shiftAlong_18 rfl rfl ?_
    refine gg_istore dX1_shiftAlong_19 (Nat.le_of_ble_eq_true rfl) rfl ?_
    refine gg_iload_n dX1_shiftAlong_21 rfl rfl ?_
    refine gg_istore dX1_shiftAlong_22 (Nat.le_of_ble_eq_true rfl) rfl ?_
    refine gg_iconst (v := 0) dX1_shiftAlong_24 (by decide) ?_
    refine gg_istore dX1_shiftAlong_25 (Nat.le_of_ble_eq_true rfl) rfl ?_
    exact sh_loop (s0 := (a, some e, t)) hn hpar (fun g h => by cases h; exact he) x 10 0 rfl S hp hf
  · have e0 : tkU tk t = tk ||| ((1 : Int32) <<< (nI t &&& 31)) := if_neg (n_ne (b := 12) c3)
    rw [e0]
    refine gg_aload_n dX1_shiftAlong_6 rfl rfl ?_
    refine gg_dup dX1_shiftAlong_7 rfl ?_
    refine gf_X1_45 rfl dX1_shiftAlong_8 hp.1 rfl ?_
    refine gg_iconst (v := 1) dX1_shiftAlong_11 (by decide) ?_
    refine gg_iload_n dX1_shiftAlong_12 rfl rfl ?_
    refine gg_ishl dX1_shiftAlong_13 ?_
    refine gg_ior dX1_shiftAlong_14 ?_
    refine pf_X1_45 rfl dX1_shiftAlong_15 hp.1 (Nat.le_of_ble_eq_true rfl) ?_
    refine PMs_tk hp hf (fun S hp hf => ?_)
    refine gg_iload_n dX1_shiftAlong_18 rfl rfl ?_
    refine gg_istore dX1_shiftAlong_19 (Nat.le_of_ble_eq_true rfl) rfl ?_
    refine gg_iload_n dX1_shiftAlong_21 rfl rfl ?_
    refine gg_istore dX1_shiftAlong_22 (Nat.le_of_ble_eq_true rfl) rfl ?_
    refine gg_iconst (v := 0) dX1_shiftAlong_24 (by decide) ?_
    refine gg_istore dX1_shiftAlong_25 (Nat.le_of_ble_eq_true rfl) rfl ?_
    exact sh_loop (s0 := (a, some e, t)) hn hpar (fun g h => by cases h; exact he) x 10 0 rfl S hp hf
theorem lcF_par {w : Nat → Nat → Int64} {a : Nat → Nat} {g b : Nat} (hg : g ≤ b) {s : lc_T} (h0 : ∀ i h, s.2.1 i = some h → h ≤ b) : ∀ (n i h : Nat), (lcF w a g n s).2.1 i = some h → h ≤ b
  | 0, i, h, e => h0 i h e
  | n + 1, i, h, e => by
    have ih := lcF_par (w := w) (a := a) hg h0 n
    have e' : (lcS w a g n (lcF w a g n s)).2.1 i = some h := e
    generalize lcF w a g n s = q at ih e'
    unfold lcS at e'
    split at e'
    · exact ih i h e'
    · split at e'
      · have e2 : va_up q.2.1 n (some g) i = some h := e'
        unfold va_up at e2
        by_cases z : i = n
        · rw [if_pos z] at e2; cases e2; exact hg
        · rw [if_neg z] at e2; exact ih i h e2
      · exact ih i h e'
theorem frF_par {w : Nat → Nat → Int64} {a : Nat → Nat} {n : Nat} {s : lc_T} (h0 : ∀ i h, s.2.1 i = some h → h ≤ n) : ∀ (g i h : Nat), g ≤ n + 1 → (frF w a n g s).2.1 i = some h → h ≤ n
  | 0, i, h, _, e => h0 i h e
  | g + 1, i, h, hg, e => by
    have ih := frF_par (w := w) (a := a) (n := n) h0 g
    have e' : (frS w a n g (frF w a n g s)).2.1 i = some h := e
    generalize frF w a n g s = q at ih e'
    unfold frS at e'
    split at e'
    · exact ih i h (by omega) e'
    · exact lcF_par (s := (q.1, q.2.1, false)) (show g ≤ n by omega) (fun i h e => ih i h (by omega) e) n i h e'
theorem rdF_par {w : Nat → Nat → Int64} {a : Nat → Nat} {n : Nat} {s : lc_T} (h0 : ∀ i h, s.2.1 i = some h → h ≤ n) : ∀ (r i h : Nat), (rdF w a n r s).2.1 i = some h → h ≤ n
  | 0, i, h, e => h0 i h e
  | r + 1, i, h, e => by
    have ih := rdF_par (w := w) (a := a) (n := n) h0 r
    have e' : (rdS w a n (rdF w a n r s)).2.1 i = some h := e
    generalize rdF w a n r s = q at ih e'
    unfold rdS at e'
    split at e'
    · exact frF_par (s := (q.1, q.2.1, false)) ih (n + 1) i h (Nat.le_refl _) e'
    · exact ih i h e'
abbrev bi_T : Type := Nat × Nat × Int64
def biS (w : Nat → Nat → Int64) (tk : Int32) (tl : Nat → Int64) (g : Nat) (s : bi_T) : bi_T := if tl g = mFAR then s else if tl g + w g (ceF w tk g 12) < s.2.2 then (g, ceF w tk g 12, tl g + w g (ceF w tk g 12)) else s
def biF (w : Nat → Nat → Int64) (tk : Int32) (tl : Nat → Int64) : Nat → bi_T → bi_T
  | 0, s => s
  | g + 1, s => biS w tk tl g (biF w tk tl g s)
theorem biF_le {w : Nat → Nat → Int64} {tk : Int32} {tl : Nat → Int64} {n : Nat} {s : bi_T} (h0 : s.1 ≤ n ∧ s.2.1 ≤ 12) : ∀ g, g ≤ n + 1 → (biF w tk tl g s).1 ≤ n ∧ (biF w tk tl g s).2.1 ≤ 12
  | 0, _ => h0
  | g + 1, hg => by
    have ih := biF_le (w := w) (tk := tk) (tl := tl) h0 g (by omega)
    show (biS w tk tl g (biF w tk tl g s)).1 ≤ n ∧ (biS w tk tl g (biF w tk tl g s)).2.1 ≤ 12
    generalize biF w tk tl g s = q at ih
    unfold biS
    split
    · exact ih
    · split
      · exact ⟨show g ≤ n by omega, ceF_le w tk g 12 (by omega)⟩
      · exact ih
theorem bi_loop {og tk : Int32} {w : Nat → Nat → Int64} {tks to : Nat → Int32} {tl : Nat → Int64} {lt : Nat → Int32} {n : Nat} {s0 : bi_T} {Z : State → Prop} (hn : n < 10) {S : gl_H} (hp : PM S og tk w tks to tl lt) (x : gl_X) (K : GG mX1_bringIn x Z 108 [some (.ref 12), some (.int (nI n)), some (.int (nI (biF w tk tl (n + 1) s0).1)), some (.int (nI (biF w tk tl (n + 1) s0).2.1)), none, none, none, none] [] S (0, 0)) : ∀ (m g : Nat), g + m = n + 1 → GG mX1_bringIn x Z 18 [some (.ref 12), some (.int (nI n)), some (.int (nI (biF w tk tl g s0).1)), some (.int (nI (biF w tk tl g s0).2.1)), some (.long (biF w tk tl g s0).2.2), none, some (.int (nI g)), none] [] S (0, 0) := by
  intro m
  induction m with
  | zero =>
    intro g hm
    have e : g = n + 1 := by omega
    subst e
    refine gg_iload dX1_bringIn_18 rfl ?_
    refine gg_iload_n dX1_bringIn_20 rfl rfl ?_
    refine gg_icmp_gt (tgt := 108) dX1_bringIn_21 (by decide) (fun c21 => ?_) (fun c21 => ?_)
    · refine gg_fg [true, true, true, true, false, false, false, false] ?_
      exact K
    · exact absurd (nI_lt (Nat.lt_succ_self n) (by omega)) c21
  | succ m ih =>
    intro g hm
    have hg : g < 10 := by omega
    have hce := ceF_le w tk g 12 (by omega)
    generalize hs : biF w tk tl g s0 = s
    refine gg_iload dX1_bringIn_18 rfl ?_
    refine gg_iload_n dX1_bringIn_20 rfl rfl ?_
    refine gg_icmp_gt (tgt := 108) dX1_bringIn_21 (by decide) (fun c21 => ?_) (fun c21 => ?_)
    · exact absurd (n_lt c21) (by omega)
    · refine gg_iload dX1_bringIn_24 rfl ?_
      refine gg_bipush (v := 10) dX1_bringIn_26 (by decide) ?_
      refine gg_icmp_ge (tgt := 108) dX1_bringIn_28 (by decide) (fun c28 => ?_) (fun c28 => ?_)
      · exact absurd (n_le (a := 10) c28) (by omega)
      · refine gg_aload_n dX1_bringIn_31 rfl rfl ?_
        refine gf_X1_23 rfl dX1_bringIn_32 hp.1 rfl ?_
        refine gg_iload dX1_bringIn_35 rfl ?_
        refine gg_ald_l (g) dX1_bringIn_37 hp.2.2.2.2.2.1 rfl hg (by decide) ?_
        refine gg_ldc2 (v := mFAR) dX1_bringIn_38 kq_81 ?_
        refine gg_lcmp dX1_bringIn_41 ?_
        refine gg_if_ne (tgt := 48) dX1_bringIn_42 (by decide) (fun c42 => ?_) (fun c42 => ?_)
        · have c42 := lg_z _ _ c42
          refine gg_aload_n dX1_bringIn_48 rfl rfl ?_
          refine gg_iload dX1_bringIn_49 rfl ?_
          refine gg_callV (sp_X1_cheapestEnd hg hp) dX1_bringIn_51 kw_X1_83 rfl hp.1 rfl rfl (Nat.le_of_ble_eq_true rfl) (Nat.le_of_ble_eq_true rfl) (Nat.le_of_ble_eq_true rfl) ⟨(Nat.le_of_ble_eq_true rfl), (Nat.le_of_ble_eq_true rfl)⟩ (fun r S1 hq => ?_)
          refine gg_k (k2 := (0, 0)) rfl ?_
          obtain ⟨e9, rfl⟩ := hq
          rw [e9]
          clear e9 S1
          refine gg_istore dX1_bringIn_54 (Nat.le_of_ble_eq_true rfl) rfl ?_
          refine gg_aload_n dX1_bringIn_56 rfl rfl ?_
          refine gf_X1_23 rfl dX1_bringIn_57 hp.1 rfl ?_
          refine gg_iload dX1_bringIn_60 rfl ?_
          refine gg_ald_l (g) dX1_bringIn_62 hp.2.2.2.2.2.1 rfl hg (by decide) ?_
          refine gg_aload_n dX1_bringIn_63 rfl rfl ?_
          refine gg_iload dX1_bringIn_64 rfl ?_
          refine gg_iload dX1_bringIn_66 rfl ?_
          refine gg_callV (sp_X1_weightOf hp hg (show ceF w tk g 12 < 13 by omega)) dX1_bringIn_68 kw_X1_66 rfl hp.1 rfl rfl (Nat.le_of_ble_eq_true rfl) (Nat.le_of_ble_eq_true rfl) (Nat.le_of_ble_eq_true rfl) ⟨(Nat.le_of_ble_eq_true rfl), (Nat.le_of_ble_eq_true rfl)⟩ (fun r S1 hq => ?_)
          refine gg_k (k2 := (0, 0)) rfl ?_
          obtain ⟨e9, rfl⟩ := hq
          rw [e9]
          clear e9 S1
          refine gg_ladd dX1_bringIn_71 ?_
          refine gg_lload dX1_bringIn_72 rfl ?_
          refine gg_lcmp dX1_bringIn_74 ?_
          refine gg_if_ge (tgt := 102) dX1_bringIn_75 (by decide) (fun c75 => ?_) (fun c75 => ?_)
          · have e : biS w tk tl g s = s := (if_neg c42).trans (if_neg (Int64.not_lt.mpr ((lg_cmp_ge _ _).mp c75)))
            refine gg_iinc (w := nI (g + 1)) dX1_bringIn_102 rfl (nI_1 g) (Nat.le_of_ble_eq_true rfl) rfl ?_
            refine gg_goto (tgt := 18) dX1_bringIn_105 (by decide) ?_
            have e3 : biF w tk tl (g + 1) s0 = _ := (congrArg (biS w tk tl g) hs).trans e
            refine gg_fg [true, true, true, true, true, false, true, false] ?_
            have h9 := ih (g + 1) (by omega)
            rw [e3] at h9
            exact h9
          · have e : biS w tk tl g s = (g, ceF w tk g 12, tl g + w g (ceF w tk g 12)) := (if_neg c42).trans (if_pos (Int64.not_le.mp (fun q => c75 ((lg_cmp_ge _ _).mpr q))))
            refine gg_aload_n dX1_bringIn_78 rfl rfl ?_
            refine gf_X1_23 rfl dX1_bringIn_79 hp.1 rfl ?_
            refine gg_iload dX1_bringIn_82 rfl ?_
            refine gg_ald_l (g) dX1_bringIn_84 hp.2.2.2.2.2.1 rfl hg (by decide) ?_
            refine gg_aload_n dX1_bringIn_85 rfl rfl ?_
            refine gg_iload dX1_bringIn_86 rfl ?_
            refine gg_iload dX1_bringIn_88 rfl ?_
            refine gg_callV (sp_X1_weightOf hp hg (show ceF w tk g 12 < 13 by omega)) dX1_bringIn_90 kw_X1_66 rfl hp.1 rfl rfl (Nat.le_of_ble_eq_true rfl) (Nat.le_of_ble_eq_true rfl) (Nat.le_of_ble_eq_true rfl) ⟨(Nat.le_of_ble_eq_true rfl), (Nat.le_of_ble_eq_true rfl)⟩ (fun r S1 hq => ?_)
            refine gg_k (k2 := (0, 0)) rfl ?_
            obtain ⟨e9, rfl⟩ := hq
            rw [e9]
            clear e9 S1
            refine gg_ladd dX1_bringIn_93 ?_
            refine gg_lstore dX1_bringIn_94 (Nat.le_of_ble_eq_true rfl) rfl ?_
            refine gg_iload dX1_bringIn_96 rfl ?_
            refine gg_istore_n dX1_bringIn_98 rfl (Nat.le_of_ble_eq_true rfl) rfl ?_
            refine gg_iload dX1_bringIn_99 rfl ?_
            refine gg_istore_n dX1_bringIn_101 rfl (Nat.le_of_ble_eq_true rfl) rfl ?_
            refine gg_iinc (w := nI (g + 1)) dX1_bringIn_102 rfl (nI_1 g) (Nat.le_of_ble_eq_true rfl) rfl ?_
            refine gg_goto (tgt := 18) dX1_bringIn_105 (by decide) ?_
            have e3 : biF w tk tl (g + 1) s0 = _ := (congrArg (biS w tk tl g) hs).trans e
            refine gg_fg [true, true, true, true, true, false, true, false] ?_
            have h9 := ih (g + 1) (by omega)
            rw [e3] at h9
            exact h9
        · have e : biS w tk tl g s = s := if_pos ((lg_cmp_eq _ _).mp c42)
          refine gg_goto (tgt := 102) dX1_bringIn_45 (by decide) ?_
          refine gg_iinc (w := nI (g + 1)) dX1_bringIn_102 rfl (nI_1 g) (Nat.le_of_ble_eq_true rfl) rfl ?_
          refine gg_goto (tgt := 18) dX1_bringIn_105 (by decide) ?_
          have e3 : biF w tk tl (g + 1) s0 = _ := (congrArg (biS w tk tl g) hs).trans e
          refine gg_fg [true, true, true, true, true, false, true, false] ?_
          have h9 := ih (g + 1) (by omega)
          rw [e3] at h9
          exact h9
abbrev sv_T : Type := (Nat → Nat) × Int32 × (Nat → Int64) × (Nat → Option Nat)
def biR (w : Nat → Nat → Int64) (n : Nat) (s : sv_T) : sv_T := let f := rdF w s.1 n 10 (s0F s.2.2.1 s.2.2.2 n); let b := biF w s.2.1 f.1 (n + 1) (n, 12, mFAR); ((shF n f.2.1 10 (s.1, some b.1, b.2.1)).1, tkU s.2.1 b.2.1, f.1, f.2.1)
theorem s0F_par {tl : Nat → Int64} {par : Nat → Option Nat} {n b : Nat} (hb : ∀ i h, par i = some h → h ≤ b) : ∀ i h, (s0F tl par n).2.1 i = some h → h ≤ b := fun i h e => by
  have e' : fillN par 10 none i = some h := e
  unfold fillN at e'
  by_cases z : i < 10
  · rw [if_pos z] at e'; cases e'
  · rw [if_neg z] at e'; exact hb i h e'
def svOk (s : sv_T) : Prop := (∀ i, s.1 i ≤ 12) ∧ ∀ i h, s.2.2.2 i = some h → i < 10 ∧ h < 10
theorem rd_out {w : Nat → Nat → Int64} {a : Nat → Nat} {n : Nat} (hn : n < 10) {tl : Nat → Int64} {par : Nat → Option Nat} (h0 : ∀ i h, par i = some h → i < 10 ∧ h < 10) : ∀ i h, (rdF w a n 10 (s0F tl par n)).2.1 i = some h → h ≤ n := rdF_par (s := s0F tl par n) (fun i h e => by
  have e' : fillN par 10 none i = some h := e
  unfold fillN at e'
  by_cases z : i < 10
  · rw [if_pos z] at e'; cases e'
  · rw [if_neg z] at e'; exact absurd (h0 i h e').1 z) 10
theorem sp_X1_bringIn {S : gl_H} {og : Int32} {w : Nat → Nat → Int64} {tks : Nat → Int32} {s : sv_T} (hok : svOk s) (hp : PM S og s.2.1 w tks (fun i => nI (s.1 i)) s.2.2.1 (fun i => oI (s.2.2.2 i))) {n : Nat} (hn : n < 10) : Sp mX1_bringIn yX1_bringIn [.ref 12, .int (nI n)] S (fun r S1 => r = none ∧ PM S1 og (biR w n s).2.1 w tks (fun i => nI ((biR w n s).1 i)) (biR w n s).2.2.1 (fun i => oI ((biR w n s).2.2.2 i)) ∧ Fr 12 30 S S1) := by
  refine gl_enter (j := 6) (by decide +kernel) rfl (fun h => absurd h (by decide)) (Nat.le_of_ble_eq_true rfl) rfl (fun x => ?_)
  have hf : Fr 12 30 S S := Fr.rf
  refine gg_aload_n dX1_bringIn_0 rfl rfl ?_
  refine gg_iload_n dX1_bringIn_1 rfl rfl ?_
  refine gg_callV (sp_X1_findChains hp hn (fun h _ => hok.1 h)) dX1_bringIn_2 kw_X1_78 rfl hp.1 rfl rfl (Nat.le_of_ble_eq_true rfl) (Nat.le_of_ble_eq_true rfl) (Nat.le_of_ble_eq_true rfl) ⟨(Nat.le_of_ble_eq_true rfl), (Nat.le_of_ble_eq_true rfl)⟩ (fun r S1 hq => ?_)
  refine gg_k (k2 := (0, 0)) rfl ?_
  obtain ⟨rfl, hp, hf1⟩ := hq
  have hf := hf.tr hf1
  clear hf1
  have hrd := rd_out (w := w) (a := s.1) (tl := s.2.2.1) hn hok.2
  generalize hff : rdF w s.1 n 10 (s0F s.2.2.1 s.2.2.2 n) = f at hp hrd
  have hbf := biF_le (w := w) (tk := s.2.1) (tl := f.1) (n := n) (s := (n, 12, mFAR)) ⟨Nat.le_refl n, Nat.le_refl 12⟩ (n + 1) (Nat.le_refl _)
  refine gg_iload_n dX1_bringIn_5 rfl rfl ?_
  refine gg_istore_n dX1_bringIn_6 rfl (Nat.le_of_ble_eq_true rfl) rfl ?_
  refine gg_bipush (v := 12) dX1_bringIn_7 (by decide) ?_
  refine gg_istore_n dX1_bringIn_9 rfl (Nat.le_of_ble_eq_true rfl) rfl ?_
  refine gg_ldc2 (v := mFAR) dX1_bringIn_10 kq_81 ?_
  refine gg_lstore dX1_bringIn_13 (Nat.le_of_ble_eq_true rfl) rfl ?_
  refine gg_iconst (v := 0) dX1_bringIn_15 (by decide) ?_
  refine gg_istore dX1_bringIn_16 (Nat.le_of_ble_eq_true rfl) rfl ?_
  refine bi_loop (s0 := (n, 12, mFAR)) hn hp x ?_ (n + 1) 0 (by omega)
  generalize hbb : biF w s.2.1 f.1 (n + 1) (n, 12, mFAR) = b at hbf ⊢
  refine gg_aload_n dX1_bringIn_108 rfl rfl ?_
  refine gg_iload_n dX1_bringIn_109 rfl rfl ?_
  refine gg_iload_n dX1_bringIn_110 rfl rfl ?_
  refine gg_iload_n dX1_bringIn_111 rfl rfl ?_
  refine gg_callV (sp_X1_shiftAlong hp hn (show b.1 < 10 by omega) hbf.2 (fun g h e => by have := hrd g h e; omega)) dX1_bringIn_112 kw_X1_86 rfl hp.1 rfl rfl (Nat.le_of_ble_eq_true rfl) (Nat.le_of_ble_eq_true rfl) (Nat.le_of_ble_eq_true rfl) ⟨(Nat.le_of_ble_eq_true rfl), (Nat.le_of_ble_eq_true rfl)⟩ (fun r S2 hq => ?_)
  obtain ⟨rfl, hp2, hf2⟩ := hq
  have e : biR w n s = ((shF n f.2.1 10 (s.1, some b.1, b.2.1)).1, tkU s.2.1 b.2.1, f.1, f.2.1) := by unfold biR; rw [hff]; show ((shF n f.2.1 10 (s.1, some (biF w s.2.1 f.1 (n + 1) (n, 12, mFAR)).1, (biF w s.2.1 f.1 (n + 1) (n, 12, mFAR)).2.1)).1, _, _, _) = _; rw [hbb]
  exact gg_return dX1_bringIn_115 rfl ⟨(Nat.le_of_ble_eq_true rfl), (Nat.le_of_ble_eq_true rfl)⟩ (by rw [e]; exact ⟨rfl, hp2, hf.tr hf2⟩)
theorem lcF_dom {w : Nat → Nat → Int64} {a : Nat → Nat} {g b : Nat} {s : lc_T} (h0 : ∀ i h, s.2.1 i = some h → i < b) : ∀ (n : Nat), n ≤ b → ∀ i h, (lcF w a g n s).2.1 i = some h → i < b
  | 0, _, i, h, e => h0 i h e
  | n + 1, hn, i, h, e => by
    have ih := lcF_dom (w := w) (a := a) (g := g) h0 n (by omega)
    have e' : (lcS w a g n (lcF w a g n s)).2.1 i = some h := e
    generalize lcF w a g n s = q at ih e'
    unfold lcS at e'
    split at e'
    · exact ih i h e'
    · split at e'
      · have e2 : va_up q.2.1 n (some g) i = some h := e'
        unfold va_up at e2
        by_cases z : i = n
        · omega
        · rw [if_neg z] at e2; exact ih i h e2
      · exact ih i h e'
theorem frF_dom {w : Nat → Nat → Int64} {a : Nat → Nat} {n b : Nat} (hb : n ≤ b) {s : lc_T} (h0 : ∀ i h, s.2.1 i = some h → i < b) : ∀ (g : Nat), ∀ i h, (frF w a n g s).2.1 i = some h → i < b
  | 0, i, h, e => h0 i h e
  | g + 1, i, h, e => by
    have ih := frF_dom (w := w) (a := a) (n := n) hb h0 g
    have e' : (frS w a n g (frF w a n g s)).2.1 i = some h := e
    generalize frF w a n g s = q at ih e'
    unfold frS at e'
    split at e'
    · exact ih i h e'
    · exact lcF_dom (s := (q.1, q.2.1, false)) ih n hb i h e'
theorem rdF_dom {w : Nat → Nat → Int64} {a : Nat → Nat} {n b : Nat} (hb : n ≤ b) {s : lc_T} (h0 : ∀ i h, s.2.1 i = some h → i < b) : ∀ (r : Nat), ∀ i h, (rdF w a n r s).2.1 i = some h → i < b
  | 0, i, h, e => h0 i h e
  | r + 1, i, h, e => by
    have ih := rdF_dom (w := w) (a := a) (n := n) hb h0 r
    have e' : (rdS w a n (rdF w a n r s)).2.1 i = some h := e
    generalize rdF w a n r s = q at ih e'
    unfold rdS at e'
    split at e'
    · exact frF_dom hb (s := (q.1, q.2.1, false)) ih (n + 1) i h e'
    · exact ih i h e'
theorem biR_ok {w : Nat → Nat → Int64} {n : Nat} (hn : n < 10) {s : sv_T} (h : svOk s) : svOk (biR w n s) := by
  have h1 := rd_out (w := w) (a := s.1) (tl := s.2.2.1) hn h.2
  have h2 : ∀ i h9, (s0F s.2.2.1 s.2.2.2 n).2.1 i = some h9 → i < 10 := fun i h9 e => by
    have e' : fillN s.2.2.2 10 none i = some h9 := e
    unfold fillN at e'
    by_cases z : i < 10
    · exact z
    · rw [if_neg z] at e'; exact (h.2 i h9 e').1
  have h3 := rdF_dom (w := w) (a := s.1) (n := n) (b := 10) (by omega) h2 10
  unfold biR
  generalize rdF w s.1 n 10 (s0F s.2.2.1 s.2.2.2 n) = f at h1 h3
  have h4 := biF_le (w := w) (tk := s.2.1) (tl := f.1) (n := n) (s := (n, 12, mFAR)) ⟨Nat.le_refl n, Nat.le_refl 12⟩ (n + 1) (Nat.le_refl _)
  refine ⟨fun i => (shF_le (s := (s.1, some _, _)) h.1 h4.2 10).1 i, fun i h9 e => ⟨h3 i h9 e, ?_⟩⟩
  have := h1 i h9 e
  omega
def slS (w : Nat → Nat → Int64) (og : Int32) (g : Nat) (s : sv_T) : sv_T := if hb_ og (nI g) then biR w g s else s
def slF (w : Nat → Nat → Int64) (og : Int32) : Nat → sv_T → sv_T
  | 0, s => s
  | g + 1, s => slS w og g (slF w og g s)
theorem slF_ok {w : Nat → Nat → Int64} {og : Int32} {s : sv_T} (h : svOk s) : ∀ g, g ≤ 10 → svOk (slF w og g s)
  | 0, _ => h
  | g + 1, hg => by
    have ih := slF_ok (w := w) (og := og) h g (by omega)
    show svOk (slS w og g (slF w og g s))
    unfold slS
    split
    · exact biR_ok (by omega) ih
    · exact ih
theorem sl_loop {S0 : gl_H} {og : Int32} {w : Nat → Nat → Int64} {tks : Nat → Int32} {s0 : sv_T} (hok : svOk s0) (x : gl_X) : ∀ (m g : Nat), g + m = 10 → ∀ S, PM S og (slF w og g s0).2.1 w tks (fun i => nI ((slF w og g s0).1 i)) (slF w og g s0).2.2.1 (fun i => oI ((slF w og g s0).2.2.2 i)) → Fr 12 30 S0 S → GG mX1_solve x (gl_Z mX1_solve x (fun r S1 => r = none ∧ PM S1 og (slF w og 10 s0).2.1 w tks (fun i => nI ((slF w og 10 s0).1 i)) (slF w og 10 s0).2.2.1 (fun i => oI ((slF w og 10 s0).2.2.2 i)) ∧ Fr 12 30 S0 S1)) 2 [some (.ref 12), some (.int (nI g))] [] S (0, 0) := by
  intro m
  induction m with
  | zero =>
    intro g hm S hp hf
    have e : g = 10 := by omega
    subst e
    refine gg_iload_n dX1_solve_2 rfl rfl ?_
    refine gg_bipush (v := 10) dX1_solve_3 (by decide) ?_
    refine gg_icmp_ge (tgt := 30) dX1_solve_5 (by decide) (fun c5 => ?_) (fun c5 => ?_)
    · exact gg_return dX1_solve_30 rfl ⟨(Nat.le_of_ble_eq_true rfl), (Nat.le_of_ble_eq_true rfl)⟩ (⟨rfl, hp, hf⟩)
    · exact absurd (nI_le (Nat.le_refl 10) (by omega)) c5
  | succ m ih =>
    intro g hm S hp hf
    have hg : g < 10 := by omega
    have hok2 := slF_ok (w := w) (og := og) hok g (by omega)
    generalize hs : slF w og g s0 = s at hp hok2
    refine gg_iload_n dX1_solve_2 rfl rfl ?_
    refine gg_bipush (v := 10) dX1_solve_3 (by decide) ?_
    refine gg_icmp_ge (tgt := 30) dX1_solve_5 (by decide) (fun c5 => ?_) (fun c5 => ?_)
    · exact absurd (n_le (a := 10) c5) (by omega)
    · refine gg_aload_n dX1_solve_8 rfl rfl ?_
      refine gf_X1_41 rfl dX1_solve_9 hp.1 rfl ?_
      refine gg_iload_n dX1_solve_12 rfl rfl ?_
      refine gg_callSN (host := RX6) (sp_X6_hasBit S og (nI g)) dX1_solve_13 (fun _ _ _ _ h => h.2.2.2.2.2.2.2.2.2) kw_X1_58 rfl rfl (Nat.le_of_ble_eq_true rfl) (Nat.le_of_ble_eq_true rfl) (Nat.le_of_ble_eq_true rfl) ⟨(Nat.le_of_ble_eq_true rfl), (Nat.le_of_ble_eq_true rfl)⟩ (fun r S1 hq => ?_)
      refine gg_k (k2 := (0, 0)) rfl ?_
      obtain ⟨e9, rfl⟩ := hq
      rw [e9]
      clear e9 S1
      refine gg_if_eq (tgt := 24) dX1_solve_16 (by decide) (fun c16 => ?_) (fun c16 => ?_)
      · have e : slS w og g s = s := if_neg (by rw [bI_z c16]; decide)
        refine gg_iinc (w := nI (g + 1)) dX1_solve_24 rfl (nI_1 g) (Nat.le_of_ble_eq_true rfl) rfl ?_
        refine gg_goto (tgt := 2) dX1_solve_27 (by decide) ?_
        have e3 : slF w og (g + 1) s0 = _ := (congrArg (slS w og g) hs).trans e
        have h9 := ih (g + 1) (by omega) S
        rw [e3] at h9
        exact h9 hp hf
      · have e : slS w og g s = biR w g s := if_pos (bI_nz c16)
        refine gg_aload_n dX1_solve_19 rfl rfl ?_
        refine gg_iload_n dX1_solve_20 rfl rfl ?_
        refine gg_callV (sp_X1_bringIn hok2 hp hg) dX1_solve_21 kw_X1_62 rfl hp.1 rfl rfl (Nat.le_of_ble_eq_true rfl) (Nat.le_of_ble_eq_true rfl) (Nat.le_of_ble_eq_true rfl) ⟨(Nat.le_of_ble_eq_true rfl), (Nat.le_of_ble_eq_true rfl)⟩ (fun r S1 hq => ?_)
        refine gg_k (k2 := (0, 0)) rfl ?_
        obtain ⟨rfl, hp, hf1⟩ := hq
        have hf := hf.tr hf1
        clear hf1
        revert S1
        intro S hp hf
        refine gg_iinc (w := nI (g + 1)) dX1_solve_24 rfl (nI_1 g) (Nat.le_of_ble_eq_true rfl) rfl ?_
        refine gg_goto (tgt := 2) dX1_solve_27 (by decide) ?_
        have e3 : slF w og (g + 1) s0 = _ := (congrArg (slS w og g) hs).trans e
        have h9 := ih (g + 1) (by omega) S
        rw [e3] at h9
        exact h9 hp hf
theorem sp_X1_solve {S : gl_H} {og : Int32} {w : Nat → Nat → Int64} {tks : Nat → Int32} {s : sv_T} (hok : svOk s) (hp : PM S og (s).2.1 w tks (fun i => nI ((s).1 i)) (s).2.2.1 (fun i => oI ((s).2.2.2 i))) : Sp mX1_solve yX1_solve [.ref 12] S (fun r S1 => r = none ∧ PM S1 og (slF w og 10 s).2.1 w tks (fun i => nI ((slF w og 10 s).1 i)) (slF w og 10 s).2.2.1 (fun i => oI ((slF w og 10 s).2.2.2 i)) ∧ Fr 12 30 S S1) := by
  refine gl_enter (j := 1) (by decide +kernel) rfl (fun h => absurd h (by decide)) (Nat.le_of_ble_eq_true rfl) rfl (fun x => ?_)
  refine gg_iconst (v := 0) dX1_solve_0 (by decide) ?_
  refine gg_istore_n dX1_solve_1 rfl (Nat.le_of_ble_eq_true rfl) rfl ?_
  exact sl_loop hok x 10 0 rfl S hp Fr.rf
end
section
/-! what fills and asks the match -/
def dgE (g t : Int32) : Int64 := t.toInt64 <<< ((4 * (9 - g)).toInt64 &&& 63)
theorem sp_X1_digit (S : gl_H) (g t : Int32) : Sp mX1_digit yX1_digit [.int g, .int t] S (fun r S1 => S1 = S ∧ r = some (.long (dgE g t))) := by
  refine gl_enter (j := 0) (by decide +kernel) rfl (fun h => absurd h (by decide)) (Nat.le_of_ble_eq_true rfl) rfl (fun x => ?_)
  refine gg_iload_n dX1_digit_0 rfl rfl ?_
  refine gg_i2l dX1_digit_1 ?_
  refine gg_iconst (v := 4) dX1_digit_2 (by decide) ?_
  refine gg_bipush (v := 9) dX1_digit_3 (by decide) ?_
  refine gg_iload_n dX1_digit_5 rfl rfl ?_
  refine gg_isub dX1_digit_6 ?_
  refine gg_imul dX1_digit_7 ?_
  refine gg_lshl dX1_digit_8 ?_
  exact gg_lreturn dX1_digit_9 rfl ⟨(Nat.le_of_ble_eq_true rfl), (Nat.le_of_ble_eq_true rfl)⟩ (⟨rfl, rfl⟩)
def clW (w : Nat → Nat → Int64) (n : Nat) : Nat → Nat → Int64 := fun g => if g < n then fillN (w g) 13 (-1) else w g
theorem clW_s (w : Nat → Nat → Int64) (n : Nat) : va_up (clW w n) n (fillN (clW w n n) 13 (-1)) = clW w (n + 1) := funext (fun g => by
  unfold va_up clW
  by_cases h : g = n
  · subst h
    rw [if_pos rfl, if_neg (Nat.lt_irrefl _), if_pos (Nat.lt_succ_self _)]
  · rw [if_neg h]
    by_cases h2 : g < n
    · rw [if_pos h2, if_pos (by omega)]
    · rw [if_neg h2, if_neg (by omega)])
theorem clW_0 (w : Nat → Nat → Int64) : clW w 0 = w := funext (fun g => if_neg (Nat.not_lt_zero g))
theorem cl_loop {S0 : gl_H} {og tk : Int32} {w : Nat → Nat → Int64} {tks to : Nat → Int32} {tl : Nat → Int64} {lt : Nat → Int32} {Z : State → Prop} (x : gl_X) (K : ∀ S, PM S og tk (clW w 10) tks to tl lt → Fr 12 30 S0 S → GG mX1_clear x Z 26 [some (.ref 12), none] [] S (0, 0)) : ∀ (m g : Nat), g + m = 10 → ∀ S, PM S og tk (clW w g) tks to tl lt → Fr 12 30 S0 S → GG mX1_clear x Z 2 [some (.ref 12), some (.int (nI g))] [] S (0, 0) := by
  intro m
  induction m with
  | zero =>
    intro g hm S hp hf
    have e : g = 10 := by omega
    subst e
    refine gg_iload_n dX1_clear_2 rfl rfl ?_
    refine gg_bipush (v := 10) dX1_clear_3 (by decide) ?_
    refine gg_icmp_ge (tgt := 26) dX1_clear_5 (by decide) (fun c5 => ?_) (fun c5 => ?_)
    · refine gg_fg [true, false] ?_
      exact K S hp hf
    · exact absurd (nI_le (Nat.le_refl 10) (by omega)) c5
  | succ m ih =>
    intro g hm S hp hf
    have hg : g < 10 := by omega
    refine gg_iload_n dX1_clear_2 rfl rfl ?_
    refine gg_bipush (v := 10) dX1_clear_3 (by decide) ?_
    refine gg_icmp_ge (tgt := 26) dX1_clear_5 (by decide) (fun c5 => ?_) (fun c5 => ?_)
    · exact absurd (n_le (a := 10) c5) (by omega)
    · refine gg_aload_n dX1_clear_8 rfl rfl ?_
      refine gf_X1_13 rfl dX1_clear_9 hp.1 rfl ?_
      refine gg_iload_n dX1_clear_12 rfl rfl ?_
      refine gg_ald_r (g) dX1_clear_13 hp.2.1 rfl hg (by decide) (if_pos hg) ?_
      refine gg_ldc2 (v := -1) dX1_clear_14 kq_30 ?_
      refine gg_callS (sp_J7_fill_d0a16 (by decide) (hp.2.2.1 g hg) (-1)) dX1_clear_17 kw_X1_32 rfl rfl (Nat.le_of_ble_eq_true rfl) (Nat.le_of_ble_eq_true rfl) (Nat.le_of_ble_eq_true rfl) ⟨(Nat.le_of_ble_eq_true rfl), (Nat.le_of_ble_eq_true rfl)⟩ (fun r S1 hq => ?_)
      refine gg_k (k2 := (0, 0)) rfl ?_
      obtain ⟨rfl, e9⟩ := hq
      rw [e9]
      clear e9 S1
      refine PMs_row hg hp hf (fun S hp hf => ?_)
      rw [clW_s] at hp
      refine gg_iinc (w := nI (g + 1)) dX1_clear_20 rfl (nI_1 g) (Nat.le_of_ble_eq_true rfl) rfl ?_
      refine gg_goto (tgt := 2) dX1_clear_23 (by decide) ?_
      exact ih (g + 1) (by omega) S hp hf
theorem sp_X1_clear {S : gl_H} {og tk : Int32} {w : Nat → Nat → Int64} {tks : Nat → Int32} {a : Nat → Nat} {tl : Nat → Int64} {lt : Nat → Int32} (hp : PM S og tk w tks (fun i => nI (a i)) tl lt) : Sp mX1_clear yX1_clear [.ref 12] S (fun r S1 => r = none ∧ PM S1 0 0 (clW w 10) (fillN tks 10 0) (fun i => nI (fillN a 10 12 i)) tl lt ∧ Fr 12 30 S S1) := by
  refine gl_enter (j := 1) (by decide +kernel) rfl (fun h => absurd h (by decide)) (Nat.le_of_ble_eq_true rfl) rfl (fun x => ?_)
  refine gg_iconst (v := 0) dX1_clear_0 (by decide) ?_
  refine gg_istore_n dX1_clear_1 rfl (Nat.le_of_ble_eq_true rfl) rfl ?_
  refine cl_loop (S0 := S) x (fun S hp hf => ?_) 10 0 rfl S (by rw [clW_0]; exact hp) Fr.rf
  refine gg_aload_n dX1_clear_26 rfl rfl ?_
  refine gf_X1_16 rfl dX1_clear_27 hp.1 rfl ?_
  refine gg_iconst (v := 0) dX1_clear_30 (by decide) ?_
  refine gg_callS (sp_J7_fill_53178 (by decide) hp.2.2.2.1 0) dX1_clear_31 kw_X1_38 rfl rfl (Nat.le_of_ble_eq_true rfl) (Nat.le_of_ble_eq_true rfl) (Nat.le_of_ble_eq_true rfl) ⟨(Nat.le_of_ble_eq_true rfl), (Nat.le_of_ble_eq_true rfl)⟩ (fun r S1 hq => ?_)
  refine gg_k (k2 := (0, 0)) rfl ?_
  obtain ⟨rfl, e9⟩ := hq
  rw [e9]
  clear e9 S1
  refine PMs_tks hp hf (fun S hp hf => ?_)
  refine gg_aload_n dX1_clear_34 rfl rfl ?_
  refine gf_X1_20 rfl dX1_clear_35 hp.1 rfl ?_
  refine gg_bipush (v := 12) dX1_clear_38 (by decide) ?_
  refine gg_callS (sp_J7_fill_53178 (by decide) hp.2.2.2.2.1 12) dX1_clear_40 kw_X1_38 rfl rfl (Nat.le_of_ble_eq_true rfl) (Nat.le_of_ble_eq_true rfl) (Nat.le_of_ble_eq_true rfl) ⟨(Nat.le_of_ble_eq_true rfl), (Nat.le_of_ble_eq_true rfl)⟩ (fun r S1 hq => ?_)
  refine gg_k (k2 := (0, 0)) rfl ?_
  obtain ⟨rfl, e9⟩ := hq
  rw [e9]
  clear e9 S1
  refine PMs_to hp hf (fun S hp hf => ?_)
  rw [show fillN (fun i => nI (a i)) 10 12 = fun i => nI (fillN a 10 12 i) from fillN_F nI a 10 12] at hp
  refine gg_aload_n dX1_clear_43 rfl rfl ?_
  refine gg_iconst (v := 0) dX1_clear_44 (by decide) ?_
  refine pf_X1_41 rfl dX1_clear_45 hp.1 (Nat.le_of_ble_eq_true rfl) ?_
  refine PMs_og hp hf (fun S hp hf => ?_)
  refine gg_aload_n dX1_clear_48 rfl rfl ?_
  refine gg_iconst (v := 0) dX1_clear_49 (by decide) ?_
  refine pf_X1_45 rfl dX1_clear_50 hp.1 (Nat.le_of_ble_eq_true rfl) ?_
  refine PMs_tk hp hf (fun S hp hf => ?_)
  exact gg_return dX1_clear_53 rfl ⟨(Nat.le_of_ble_eq_true rfl), (Nat.le_of_ble_eq_true rfl)⟩ (⟨rfl, hp, hf⟩)
def mUNF : Int64 := 2305843009213693952
set_option maxRecDepth 20000 in
theorem kq_52 : Cond.constantLong RX1 52 mUNF ∈ gl_T := (gl_T_in (by decide +kernel) (by decide +kernel))
theorem sp_X1_open {S : gl_H} {og tk : Int32} {w : Nat → Nat → Int64} {tks to : Nat → Int32} {tl : Nat → Int64} {lt : Nat → Int32} (hp : PM S og tk w tks to tl lt) {g : Nat} (hg : g < 10) : Sp mX1_open yX1_open [.ref 12, .int (nI g)] S (fun r S1 => r = none ∧ PM S1 (og ||| ((1 : Int32) <<< (nI g &&& 31))) tk (va_up w g (vp_updL (w g) 12 (mUNF + dgE (nI g) 12))) tks to tl lt ∧ Fr 12 30 S S1) := by
  refine gl_enter (j := 0) (by decide +kernel) rfl (fun h => absurd h (by decide)) (Nat.le_of_ble_eq_true rfl) rfl (fun x => ?_)
  have hf : Fr 12 30 S S := Fr.rf
  refine gg_iload_n dX1_open_0 rfl rfl ?_
  refine gg_callS (sp_X1_isGap_y S hg) dX1_open_1 kw_X1_48 rfl rfl (Nat.le_of_ble_eq_true rfl) (Nat.le_of_ble_eq_true rfl) (Nat.le_of_ble_eq_true rfl) ⟨(Nat.le_of_ble_eq_true rfl), (Nat.le_of_ble_eq_true rfl)⟩ (fun r S1 hq => ?_)
  refine gg_k (k2 := (0, 0)) rfl ?_
  obtain ⟨e9, rfl⟩ := hq
  rw [e9]
  clear e9 S1
  refine gg_if_eq (tgt := 38) dX1_open_4 (by decide) (fun c4 => ?_) (fun c4 => ?_)
  · exact absurd c4 (by decide)
  · refine gg_aload_n dX1_open_7 rfl rfl ?_
    refine gg_dup dX1_open_8 rfl ?_
    refine gf_X1_41 rfl dX1_open_9 hp.1 rfl ?_
    refine gg_iconst (v := 1) dX1_open_12 (by decide) ?_
    refine gg_iload_n dX1_open_13 rfl rfl ?_
    refine gg_ishl dX1_open_14 ?_
    refine gg_ior dX1_open_15 ?_
    refine pf_X1_41 rfl dX1_open_16 hp.1 (Nat.le_of_ble_eq_true rfl) ?_
    refine PMs_og hp hf (fun S hp hf => ?_)
    refine gg_aload_n dX1_open_19 rfl rfl ?_
    refine gf_X1_13 rfl dX1_open_20 hp.1 rfl ?_
    refine gg_iload_n dX1_open_23 rfl rfl ?_
    refine gg_ald_r (g) dX1_open_24 hp.2.1 rfl hg (by decide) (if_pos hg) ?_
    refine gg_bipush (v := 12) dX1_open_25 (by decide) ?_
    refine gg_ldc2 (v := mUNF) dX1_open_27 kq_52 ?_
    refine gg_iload_n dX1_open_30 rfl rfl ?_
    refine gg_bipush (v := 12) dX1_open_31 (by decide) ?_
    refine gg_callS (sp_X1_digit S (nI g) 12) dX1_open_33 kw_X1_54 rfl rfl (Nat.le_of_ble_eq_true rfl) (Nat.le_of_ble_eq_true rfl) (Nat.le_of_ble_eq_true rfl) ⟨(Nat.le_of_ble_eq_true rfl), (Nat.le_of_ble_eq_true rfl)⟩ (fun r S1 hq => ?_)
    refine gg_k (k2 := (0, 0)) rfl ?_
    obtain ⟨e9, rfl⟩ := hq
    rw [e9]
    clear e9 S1
    refine gg_ladd dX1_open_36 ?_
    refine gg_ast_l (12) dX1_open_37 (hp.2.2.1 g hg) rfl (by decide) (by decide) ?_
    refine PMs_row hg hp hf (fun S hp hf => ?_)
    exact gg_return dX1_open_38 rfl ⟨(Nat.le_of_ble_eq_true rfl), (Nat.le_of_ble_eq_true rfl)⟩ (⟨rfl, hp, hf⟩)
def wtE (g t : Nat) (c : Int32) : Int64 := (c.toInt64 <<< ((40 : Int32).toInt64 &&& 63)) + dgE (nI g) (nI t)
theorem sp_X1_offer {S : gl_H} {og tk : Int32} {w : Nat → Nat → Int64} {tks to : Nat → Int32} {tl : Nat → Int64} {lt : Nat → Int32} (hp : PM S og tk w tks to tl lt) {g t : Nat} (hg : g < 10) (ht : t < 12) (c : Int32) : Sp mX1_offer yX1_offer [.ref 12, .int (nI g), .int (nI t), .int c] S (fun r S1 => r = none ∧ PM S1 og tk (va_up w g (vp_updL (w g) t (wtE g t c))) (upd tks g (tks g ||| ((1 : Int32) <<< (nI t &&& 31)))) to tl lt ∧ Fr 12 30 S S1) := by
  refine gl_enter (j := 0) (by decide +kernel) rfl (fun h => absurd h (by decide)) (Nat.le_of_ble_eq_true rfl) rfl (fun x => ?_)
  have hf : Fr 12 30 S S := Fr.rf
  refine gg_iload_n dX1_offer_0 rfl rfl ?_
  refine gg_callS (sp_X1_isGap_y S hg) dX1_offer_1 kw_X1_48 rfl rfl (Nat.le_of_ble_eq_true rfl) (Nat.le_of_ble_eq_true rfl) (Nat.le_of_ble_eq_true rfl) ⟨(Nat.le_of_ble_eq_true rfl), (Nat.le_of_ble_eq_true rfl)⟩ (fun r S1 hq => ?_)
  refine gg_k (k2 := (0, 0)) rfl ?_
  obtain ⟨e9, rfl⟩ := hq
  rw [e9]
  clear e9 S1
  refine gg_if_eq (tgt := 48) dX1_offer_4 (by decide) (fun c4 => ?_) (fun c4 => ?_)
  · exact absurd c4 (by decide)
  · refine gg_iload_n dX1_offer_7 rfl rfl ?_
    refine gg_if_lt (tgt := 48) dX1_offer_8 (by decide) (fun c8 => ?_) (fun c8 => ?_)
    · exact absurd c8 (nI_pos (by omega))
    · refine gg_iload_n dX1_offer_11 rfl rfl ?_
      refine gg_bipush (v := 12) dX1_offer_12 (by decide) ?_
      refine gg_icmp_ge (tgt := 48) dX1_offer_14 (by decide) (fun c14 => ?_) (fun c14 => ?_)
      · exact absurd (n_le (a := 12) c14) (by omega)
      · refine gg_aload_n dX1_offer_17 rfl rfl ?_
        refine gf_X1_13 rfl dX1_offer_18 hp.1 rfl ?_
        refine gg_iload_n dX1_offer_21 rfl rfl ?_
        refine gg_ald_r (g) dX1_offer_22 hp.2.1 rfl hg (by decide) (if_pos hg) ?_
        refine gg_iload_n dX1_offer_23 rfl rfl ?_
        refine gg_iload_n dX1_offer_24 rfl rfl ?_
        refine gg_i2l dX1_offer_25 ?_
        refine gg_bipush (v := 40) dX1_offer_26 (by decide) ?_
        refine gg_lshl dX1_offer_28 ?_
        refine gg_iload_n dX1_offer_29 rfl rfl ?_
        refine gg_iload_n dX1_offer_30 rfl rfl ?_
        refine gg_callS (sp_X1_digit S (nI g) (nI t)) dX1_offer_31 kw_X1_54 rfl rfl (Nat.le_of_ble_eq_true rfl) (Nat.le_of_ble_eq_true rfl) (Nat.le_of_ble_eq_true rfl) ⟨(Nat.le_of_ble_eq_true rfl), (Nat.le_of_ble_eq_true rfl)⟩ (fun r S1 hq => ?_)
        refine gg_k (k2 := (0, 0)) rfl ?_
        obtain ⟨e9, rfl⟩ := hq
        rw [e9]
        clear e9 S1
        refine gg_ladd dX1_offer_34 ?_
        refine gg_ast_l (t) dX1_offer_35 (hp.2.2.1 g hg) rfl (show t < 13 by omega) (by decide) ?_
        refine PMs_row hg hp hf (fun S hp hf => ?_)
        refine gg_aload_n dX1_offer_36 rfl rfl ?_
        refine gf_X1_16 rfl dX1_offer_37 hp.1 rfl ?_
        refine gg_iload_n dX1_offer_40 rfl rfl ?_
        refine gg_dup2 dX1_offer_41 rfl rfl ?_
        refine gg_ald_i (g) dX1_offer_42 hp.2.2.2.1 rfl hg (by decide) ?_
        refine gg_iconst (v := 1) dX1_offer_43 (by decide) ?_
        refine gg_iload_n dX1_offer_44 rfl rfl ?_
        refine gg_ishl dX1_offer_45 ?_
        refine gg_ior dX1_offer_46 ?_
        refine gg_ast_i (g) dX1_offer_47 hp.2.2.2.1 rfl hg (by decide) ?_
        refine PMs_tks hp hf (fun S hp hf => ?_)
        exact gg_return dX1_offer_48 rfl ⟨(Nat.le_of_ble_eq_true rfl), (Nat.le_of_ble_eq_true rfl)⟩ (⟨rfl, hp, hf⟩)
def tfO (a : Nat → Nat) (g : Nat) : Option Nat := if a g = 12 then none else some (a g)
theorem sp_X1_teacherFor {S : gl_H} {og tk : Int32} {w : Nat → Nat → Int64} {tks : Nat → Int32} {a : Nat → Nat} {tl : Nat → Int64} {lt : Nat → Int32} (hp : PM S og tk w tks (fun i => nI (a i)) tl lt) (ha : ∀ i, a i ≤ 12) {g : Nat} (hg : g < 10) : Sp mX1_teacherFor yX1_teacherFor [.ref 12, .int (nI g)] S (fun r S1 => S1 = S ∧ r = some (.int (oI (tfO a g)))) := by
  refine gl_enter (j := 0) (by decide +kernel) rfl (fun h => absurd h (by decide)) (Nat.le_of_ble_eq_true rfl) rfl (fun x => ?_)
  have hag := ha g
  refine gg_iload_n dX1_teacherFor_0 rfl rfl ?_
  refine gg_callS (sp_X1_isGap_y S hg) dX1_teacherFor_1 kw_X1_48 rfl rfl (Nat.le_of_ble_eq_true rfl) (Nat.le_of_ble_eq_true rfl) (Nat.le_of_ble_eq_true rfl) ⟨(Nat.le_of_ble_eq_true rfl), (Nat.le_of_ble_eq_true rfl)⟩ (fun r S1 hq => ?_)
  refine gg_k (k2 := (0, 0)) rfl ?_
  obtain ⟨e9, rfl⟩ := hq
  rw [e9]
  clear e9 S1
  refine gg_if_eq (tgt := 27) dX1_teacherFor_4 (by decide) (fun c4 => ?_) (fun c4 => ?_)
  · exact absurd c4 (by decide)
  · refine gg_aload_n dX1_teacherFor_7 rfl rfl ?_
    refine gf_X1_20 rfl dX1_teacherFor_8 hp.1 rfl ?_
    refine gg_iload_n dX1_teacherFor_11 rfl rfl ?_
    refine gg_ald_i (g) dX1_teacherFor_12 hp.2.2.2.2.1 rfl hg (by decide) ?_
    refine gg_bipush (v := 12) dX1_teacherFor_13 (by decide) ?_
    refine gg_icmp_eq (tgt := 27) dX1_teacherFor_15 (by decide) (fun c15 => ?_) (fun c15 => ?_)
    · have e : tfO a g = none := if_pos (n_eq (b := 12) c15)
      refine gg_iconst (v := -1) dX1_teacherFor_27 (by decide) ?_
      exact gg_ireturn dX1_teacherFor_28 rfl rfl ⟨(Nat.le_of_ble_eq_true rfl), (Nat.le_of_ble_eq_true rfl)⟩ (⟨rfl, by rw [e]; rfl⟩)
    · have e : tfO a g = some (a g) := if_neg (n_ne (b := 12) c15)
      refine gg_aload_n dX1_teacherFor_18 rfl rfl ?_
      refine gf_X1_20 rfl dX1_teacherFor_19 hp.1 rfl ?_
      refine gg_iload_n dX1_teacherFor_22 rfl rfl ?_
      refine gg_ald_i (g) dX1_teacherFor_23 hp.2.2.2.2.1 rfl hg (by decide) ?_
      refine gg_goto (tgt := 28) dX1_teacherFor_24 (by decide) ?_
      exact gg_ireturn dX1_teacherFor_28 rfl rfl ⟨(Nat.le_of_ble_eq_true rfl), (Nat.le_of_ble_eq_true rfl)⟩ (⟨rfl, by rw [e]; rfl⟩)
def ffst (p : Nat → Bool) : Nat → Nat → Option Nat
  | _, 0 => none
  | g, m + 1 => if p g then some g else ffst p (g + 1) m
theorem gf_loop {S : gl_H} {og tk : Int32} {w : Nat → Nat → Int64} {tks : Nat → Int32} {a : Nat → Nat} {tl : Nat → Int64} {lt : Nat → Int32} (hp : PM S og tk w tks (fun i => nI (a i)) tl lt) (ha : ∀ i, a i ≤ 12) {t : Nat} (ht : t < 12) (x : gl_X) {Q : Option Value → gl_H → Prop} : ∀ (m g : Nat), g + m = 10 → Q (some (.int (oI (ffst (fun i => !(a i == 12) && a i == t) g m)))) S → GG mX1_gapFor x (gl_Z mX1_gapFor x Q) 2 [some (.ref 12), some (.int (nI t)), some (.int (nI g))] [] S (0, 0) := by
  intro m
  induction m with
  | zero =>
    intro g hm hQ
    have e : g = 10 := by omega
    subst e
    refine gg_iload_n dX1_gapFor_2 rfl rfl ?_
    refine gg_bipush (v := 10) dX1_gapFor_3 (by decide) ?_
    refine gg_icmp_ge (tgt := 37) dX1_gapFor_5 (by decide) (fun c5 => ?_) (fun c5 => ?_)
    · refine gg_iconst (v := -1) dX1_gapFor_37 (by decide) ?_
      exact gg_ireturn dX1_gapFor_38 rfl rfl ⟨(Nat.le_of_ble_eq_true rfl), (Nat.le_of_ble_eq_true rfl)⟩ (hQ)
    · exact absurd (nI_le (Nat.le_refl 10) (by omega)) c5
  | succ m ih =>
    intro g hm hQ
    have hg : g < 10 := by omega
    have hag := ha g
    have e0 : ffst (fun i => !(a i == 12) && a i == t) g (m + 1) = if (!(a g == 12) && a g == t) then some g else ffst (fun i => !(a i == 12) && a i == t) (g + 1) m := rfl
    rw [e0] at hQ
    refine gg_iload_n dX1_gapFor_2 rfl rfl ?_
    refine gg_bipush (v := 10) dX1_gapFor_3 (by decide) ?_
    refine gg_icmp_ge (tgt := 37) dX1_gapFor_5 (by decide) (fun c5 => ?_) (fun c5 => ?_)
    · exact absurd (n_le (a := 10) c5) (by omega)
    · refine gg_aload_n dX1_gapFor_8 rfl rfl ?_
      refine gf_X1_20 rfl dX1_gapFor_9 hp.1 rfl ?_
      refine gg_iload_n dX1_gapFor_12 rfl rfl ?_
      refine gg_ald_i (g) dX1_gapFor_13 hp.2.2.2.2.1 rfl hg (by decide) ?_
      refine gg_bipush (v := 12) dX1_gapFor_14 (by decide) ?_
      refine gg_icmp_eq (tgt := 31) dX1_gapFor_16 (by decide) (fun c16 => ?_) (fun c16 => ?_)
      · have e : ¬ (!(a g == 12) && a g == t) = true := by simp [n_eq (b := 12) c16]
        refine gg_iinc (w := nI (g + 1)) dX1_gapFor_31 rfl (nI_1 g) (Nat.le_of_ble_eq_true rfl) rfl ?_
        refine gg_goto (tgt := 2) dX1_gapFor_34 (by decide) ?_
        exact ih (g + 1) (by omega) (by rw [if_neg e] at hQ; exact hQ)
      · have c16 := n_ne (b := 12) c16
        refine gg_aload_n dX1_gapFor_19 rfl rfl ?_
        refine gf_X1_20 rfl dX1_gapFor_20 hp.1 rfl ?_
        refine gg_iload_n dX1_gapFor_23 rfl rfl ?_
        refine gg_ald_i (g) dX1_gapFor_24 hp.2.2.2.2.1 rfl hg (by decide) ?_
        refine gg_iload_n dX1_gapFor_25 rfl rfl ?_
        refine gg_icmp_ne (tgt := 31) dX1_gapFor_26 (by decide) (fun c26 => ?_) (fun c26 => ?_)
        · have e : ¬ (!(a g == 12) && a g == t) = true := by simp [n_ne c26]
          refine gg_iinc (w := nI (g + 1)) dX1_gapFor_31 rfl (nI_1 g) (Nat.le_of_ble_eq_true rfl) rfl ?_
          refine gg_goto (tgt := 2) dX1_gapFor_34 (by decide) ?_
          exact ih (g + 1) (by omega) (by rw [if_neg e] at hQ; exact hQ)
        · have e : (!(a g == 12) && a g == t) = true := by simp [n_eq c26]; omega
          rw [if_pos e] at hQ
          refine gg_iload_n dX1_gapFor_29 rfl rfl ?_
          exact gg_ireturn dX1_gapFor_30 rfl rfl ⟨(Nat.le_of_ble_eq_true rfl), (Nat.le_of_ble_eq_true rfl)⟩ (hQ)
theorem sp_X1_gapFor {S : gl_H} {og tk : Int32} {w : Nat → Nat → Int64} {tks : Nat → Int32} {a : Nat → Nat} {tl : Nat → Int64} {lt : Nat → Int32} (hp : PM S og tk w tks (fun i => nI (a i)) tl lt) (ha : ∀ i, a i ≤ 12) {t : Nat} (ht : t < 12) : Sp mX1_gapFor yX1_gapFor [.ref 12, .int (nI t)] S (fun r S1 => S1 = S ∧ r = some (.int (oI (ffst (fun i => !(a i == 12) && a i == t) 0 10)))) := by
  refine gl_enter (j := 1) (by decide +kernel) rfl (fun h => absurd h (by decide)) (Nat.le_of_ble_eq_true rfl) rfl (fun x => ?_)
  refine gg_iconst (v := 0) dX1_gapFor_0 (by decide) ?_
  refine gg_istore_n dX1_gapFor_1 rfl (Nat.le_of_ble_eq_true rfl) rfl ?_
  exact gf_loop hp ha ht x 10 0 rfl ⟨rfl, rfl⟩
def cntN (p : Nat → Bool) : Nat → Nat
  | 0 => 0
  | n + 1 => if p n then cntN p n + 1 else cntN p n
theorem cntN_le (p : Nat → Bool) : ∀ n, cntN p n ≤ n
  | 0 => Nat.le_refl 0
  | n + 1 => by
    have := cntN_le p n
    show (if p n then cntN p n + 1 else cntN p n) ≤ n + 1
    split <;> omega
def ciF (w : Nat → Nat → Int64) (a : Nat → Nat) : Nat → Int32
  | 0 => 0
  | g + 1 => if a g = 12 then ciF w a g else ciF w a g + (w g (a g) >>> ((40 : Int32).toInt64 &&& 63)).toInt32
theorem fi_loop {S : gl_H} {og tk : Int32} {w : Nat → Nat → Int64} {tks : Nat → Int32} {a : Nat → Nat} {tl : Nat → Int64} {lt : Nat → Int32} (hp : PM S og tk w tks (fun i => nI (a i)) tl lt) (ha : ∀ i, a i ≤ 12) (x : gl_X) : ∀ (m g : Nat), g + m = 10 → GG mX1_filled x (gl_Z mX1_filled x (fun r S1 => S1 = S ∧ r = some (.int (nI (cntN (fun i => !(a i == 12)) 10))))) 4 [some (.ref 12), some (.int (nI (cntN (fun i => !(a i == 12)) g))), some (.int (nI g))] [] S (0, 0) := by
  intro m
  induction m with
  | zero =>
    intro g hm
    have e : g = 10 := by omega
    subst e
    refine gg_iload_n dX1_filled_4 rfl rfl ?_
    refine gg_bipush (v := 10) dX1_filled_5 (by decide) ?_
    refine gg_icmp_ge (tgt := 30) dX1_filled_7 (by decide) (fun c7 => ?_) (fun c7 => ?_)
    · refine gg_iload_n dX1_filled_30 rfl rfl ?_
      exact gg_ireturn dX1_filled_31 rfl rfl ⟨(Nat.le_of_ble_eq_true rfl), (Nat.le_of_ble_eq_true rfl)⟩ (⟨rfl, rfl⟩)
    · exact absurd (nI_le (Nat.le_refl 10) (by omega)) c7
  | succ m ih =>
    intro g hm
    have hg : g < 10 := by omega
    have hag := ha g
    have hc := cntN_le (fun i => !(a i == 12)) g
    refine gg_iload_n dX1_filled_4 rfl rfl ?_
    refine gg_bipush (v := 10) dX1_filled_5 (by decide) ?_
    refine gg_icmp_ge (tgt := 30) dX1_filled_7 (by decide) (fun c7 => ?_) (fun c7 => ?_)
    · exact absurd (n_le (a := 10) c7) (by omega)
    · refine gg_aload_n dX1_filled_10 rfl rfl ?_
      refine gf_X1_20 rfl dX1_filled_11 hp.1 rfl ?_
      refine gg_iload_n dX1_filled_14 rfl rfl ?_
      refine gg_ald_i (g) dX1_filled_15 hp.2.2.2.2.1 rfl hg (by decide) ?_
      refine gg_bipush (v := 12) dX1_filled_16 (by decide) ?_
      refine gg_icmp_eq (tgt := 24) dX1_filled_18 (by decide) (fun c18 => ?_) (fun c18 => ?_)
      · have e : cntN (fun i => !(a i == 12)) (g + 1) = cntN (fun i => !(a i == 12)) g := if_neg (by simp [n_eq (b := 12) c18])
        refine gg_iinc (w := nI (g + 1)) dX1_filled_24 rfl (nI_1 g) (Nat.le_of_ble_eq_true rfl) rfl ?_
        refine gg_goto (tgt := 4) dX1_filled_27 (by decide) ?_
        have h9 := ih (g + 1) (by omega)
        rw [e] at h9
        exact h9
      · have e : cntN (fun i => !(a i == 12)) (g + 1) = cntN (fun i => !(a i == 12)) g + 1 := if_pos (by simp [n_ne (b := 12) c18])
        refine gg_iinc (w := nI (cntN (fun i => !(a i == 12)) g + 1)) dX1_filled_21 rfl (nI_1 _) (Nat.le_of_ble_eq_true rfl) rfl ?_
        refine gg_iinc (w := nI (g + 1)) dX1_filled_24 rfl (nI_1 g) (Nat.le_of_ble_eq_true rfl) rfl ?_
        refine gg_goto (tgt := 4) dX1_filled_27 (by decide) ?_
        have h9 := ih (g + 1) (by omega)
        rw [e] at h9
        exact h9
theorem sp_X1_filled {S : gl_H} {og tk : Int32} {w : Nat → Nat → Int64} {tks : Nat → Int32} {a : Nat → Nat} {tl : Nat → Int64} {lt : Nat → Int32} (hp : PM S og tk w tks (fun i => nI (a i)) tl lt) (ha : ∀ i, a i ≤ 12) : Sp mX1_filled yX1_filled [.ref 12] S (fun r S1 => S1 = S ∧ r = some (.int (nI (cntN (fun i => !(a i == 12)) 10)))) := by
  refine gl_enter (j := 2) (by decide +kernel) rfl (fun h => absurd h (by decide)) (Nat.le_of_ble_eq_true rfl) rfl (fun x => ?_)
  refine gg_iconst (v := 0) dX1_filled_0 (by decide) ?_
  refine gg_istore_n dX1_filled_1 rfl (Nat.le_of_ble_eq_true rfl) rfl ?_
  refine gg_iconst (v := 0) dX1_filled_2 (by decide) ?_
  refine gg_istore_n dX1_filled_3 rfl (Nat.le_of_ble_eq_true rfl) rfl ?_
  exact fi_loop hp ha x 10 0 rfl
theorem ci_loop {S : gl_H} {og tk : Int32} {w : Nat → Nat → Int64} {tks : Nat → Int32} {a : Nat → Nat} {tl : Nat → Int64} {lt : Nat → Int32} (hp : PM S og tk w tks (fun i => nI (a i)) tl lt) (ha : ∀ i, a i ≤ 12) (x : gl_X) : ∀ (m g : Nat), g + m = 10 → GG mX1_costInAll x (gl_Z mX1_costInAll x (fun r S1 => S1 = S ∧ r = some (.int (ciF w a 10)))) 4 [some (.ref 12), some (.int (ciF w a g)), some (.int (nI g))] [] S (0, 0) := by
  intro m
  induction m with
  | zero =>
    intro g hm
    have e : g = 10 := by omega
    subst e
    refine gg_iload_n dX1_costInAll_4 rfl rfl ?_
    refine gg_bipush (v := 10) dX1_costInAll_5 (by decide) ?_
    refine gg_icmp_ge (tgt := 45) dX1_costInAll_7 (by decide) (fun c7 => ?_) (fun c7 => ?_)
    · refine gg_iload_n dX1_costInAll_45 rfl rfl ?_
      exact gg_ireturn dX1_costInAll_46 rfl rfl ⟨(Nat.le_of_ble_eq_true rfl), (Nat.le_of_ble_eq_true rfl)⟩ (⟨rfl, rfl⟩)
    · exact absurd (nI_le (Nat.le_refl 10) (by omega)) c7
  | succ m ih =>
    intro g hm
    have hg : g < 10 := by omega
    have hag := ha g
    refine gg_iload_n dX1_costInAll_4 rfl rfl ?_
    refine gg_bipush (v := 10) dX1_costInAll_5 (by decide) ?_
    refine gg_icmp_ge (tgt := 45) dX1_costInAll_7 (by decide) (fun c7 => ?_) (fun c7 => ?_)
    · exact absurd (n_le (a := 10) c7) (by omega)
    · refine gg_aload_n dX1_costInAll_10 rfl rfl ?_
      refine gf_X1_20 rfl dX1_costInAll_11 hp.1 rfl ?_
      refine gg_iload_n dX1_costInAll_14 rfl rfl ?_
      refine gg_ald_i (g) dX1_costInAll_15 hp.2.2.2.2.1 rfl hg (by decide) ?_
      refine gg_bipush (v := 12) dX1_costInAll_16 (by decide) ?_
      refine gg_icmp_eq (tgt := 39) dX1_costInAll_18 (by decide) (fun c18 => ?_) (fun c18 => ?_)
      · have e : ciF w a (g + 1) = ciF w a g := if_pos (n_eq (b := 12) c18)
        refine gg_iinc (w := nI (g + 1)) dX1_costInAll_39 rfl (nI_1 g) (Nat.le_of_ble_eq_true rfl) rfl ?_
        refine gg_goto (tgt := 4) dX1_costInAll_42 (by decide) ?_
        have h9 := ih (g + 1) (by omega)
        rw [e] at h9
        exact h9
      · have e : ciF w a (g + 1) = ciF w a g + (w g (a g) >>> ((40 : Int32).toInt64 &&& 63)).toInt32 := if_neg (n_ne (b := 12) c18)
        refine gg_iload_n dX1_costInAll_21 rfl rfl ?_
        refine gg_aload_n dX1_costInAll_22 rfl rfl ?_
        refine gg_iload_n dX1_costInAll_23 rfl rfl ?_
        refine gg_aload_n dX1_costInAll_24 rfl rfl ?_
        refine gf_X1_20 rfl dX1_costInAll_25 hp.1 rfl ?_
        refine gg_iload_n dX1_costInAll_28 rfl rfl ?_
        refine gg_ald_i (g) dX1_costInAll_29 hp.2.2.2.2.1 rfl hg (by decide) ?_
        refine gg_callV (sp_X1_weightOf hp hg (show a g < 13 by omega)) dX1_costInAll_30 kw_X1_66 rfl hp.1 rfl rfl (Nat.le_of_ble_eq_true rfl) (Nat.le_of_ble_eq_true rfl) (Nat.le_of_ble_eq_true rfl) ⟨(Nat.le_of_ble_eq_true rfl), (Nat.le_of_ble_eq_true rfl)⟩ (fun r S1 hq => ?_)
        refine gg_k (k2 := (0, 0)) rfl ?_
        obtain ⟨e9, rfl⟩ := hq
        rw [e9]
        clear e9 S1
        refine gg_bipush (v := 40) dX1_costInAll_33 (by decide) ?_
        refine gg_lshr dX1_costInAll_35 ?_
        refine gg_l2i dX1_costInAll_36 ?_
        refine gg_iadd dX1_costInAll_37 ?_
        refine gg_istore_n dX1_costInAll_38 rfl (Nat.le_of_ble_eq_true rfl) rfl ?_
        refine gg_iinc (w := nI (g + 1)) dX1_costInAll_39 rfl (nI_1 g) (Nat.le_of_ble_eq_true rfl) rfl ?_
        refine gg_goto (tgt := 4) dX1_costInAll_42 (by decide) ?_
        have h9 := ih (g + 1) (by omega)
        rw [e] at h9
        exact h9
theorem sp_X1_costInAll {S : gl_H} {og tk : Int32} {w : Nat → Nat → Int64} {tks : Nat → Int32} {a : Nat → Nat} {tl : Nat → Int64} {lt : Nat → Int32} (hp : PM S og tk w tks (fun i => nI (a i)) tl lt) (ha : ∀ i, a i ≤ 12) : Sp mX1_costInAll yX1_costInAll [.ref 12] S (fun r S1 => S1 = S ∧ r = some (.int (ciF w a 10))) := by
  refine gl_enter (j := 2) (by decide +kernel) rfl (fun h => absurd h (by decide)) (Nat.le_of_ble_eq_true rfl) rfl (fun x => ?_)
  refine gg_iconst (v := 0) dX1_costInAll_0 (by decide) ?_
  refine gg_istore_n dX1_costInAll_1 rfl (Nat.le_of_ble_eq_true rfl) rfl ?_
  refine gg_iconst (v := 0) dX1_costInAll_2 (by decide) ?_
  refine gg_istore_n dX1_costInAll_3 rfl (Nat.le_of_ble_eq_true rfl) rfl ?_
  exact ci_loop hp ha x 10 0 rfl
def tkF (tks : Nat → Int32) (set : Int32) : Nat → Int32
  | 0 => 0
  | g + 1 => if hb_ set (nI g) then tkF tks set g ||| tks g else tkF tks set g
theorem to_loop {S : gl_H} {og tk : Int32} {w : Nat → Nat → Int64} {tks to : Nat → Int32} {tl : Nat → Int64} {lt : Nat → Int32} (hp : PM S og tk w tks to tl lt) (set : Int32) (x : gl_X) : ∀ (m g : Nat), g + m = 10 → GG mX1_takersOf x (gl_Z mX1_takersOf x (fun r S1 => S1 = S ∧ r = some (.int (tkF tks set 10)))) 4 [some (.ref 12), some (.int set), some (.int (tkF tks set g)), some (.int (nI g))] [] S (0, 0) := by
  intro m
  induction m with
  | zero =>
    intro g hm
    have e : g = 10 := by omega
    subst e
    refine gg_iload_n dX1_takersOf_4 rfl rfl ?_
    refine gg_bipush (v := 10) dX1_takersOf_5 (by decide) ?_
    refine gg_icmp_ge (tgt := 33) dX1_takersOf_7 (by decide) (fun c7 => ?_) (fun c7 => ?_)
    · refine gg_iload_n dX1_takersOf_33 rfl rfl ?_
      exact gg_ireturn dX1_takersOf_34 rfl rfl ⟨(Nat.le_of_ble_eq_true rfl), (Nat.le_of_ble_eq_true rfl)⟩ (⟨rfl, rfl⟩)
    · exact absurd (nI_le (Nat.le_refl 10) (by omega)) c7
  | succ m ih =>
    intro g hm
    have hg : g < 10 := by omega
    refine gg_iload_n dX1_takersOf_4 rfl rfl ?_
    refine gg_bipush (v := 10) dX1_takersOf_5 (by decide) ?_
    refine gg_icmp_ge (tgt := 33) dX1_takersOf_7 (by decide) (fun c7 => ?_) (fun c7 => ?_)
    · exact absurd (n_le (a := 10) c7) (by omega)
    · refine gg_iload_n dX1_takersOf_10 rfl rfl ?_
      refine gg_iload_n dX1_takersOf_11 rfl rfl ?_
      refine gg_callSN (host := RX6) (sp_X6_hasBit S set (nI g)) dX1_takersOf_12 (fun _ _ _ _ h => h.2.2.2.2.2.2.2.2.2) kw_X1_58 rfl rfl (Nat.le_of_ble_eq_true rfl) (Nat.le_of_ble_eq_true rfl) (Nat.le_of_ble_eq_true rfl) ⟨(Nat.le_of_ble_eq_true rfl), (Nat.le_of_ble_eq_true rfl)⟩ (fun r S1 hq => ?_)
      refine gg_k (k2 := (0, 0)) rfl ?_
      obtain ⟨e9, rfl⟩ := hq
      rw [e9]
      clear e9 S1
      refine gg_if_eq (tgt := 27) dX1_takersOf_15 (by decide) (fun c15 => ?_) (fun c15 => ?_)
      · have e : tkF tks set (g + 1) = tkF tks set g := if_neg (by rw [bI_z c15]; decide)
        refine gg_iinc (w := nI (g + 1)) dX1_takersOf_27 rfl (nI_1 g) (Nat.le_of_ble_eq_true rfl) rfl ?_
        refine gg_goto (tgt := 4) dX1_takersOf_30 (by decide) ?_
        have h9 := ih (g + 1) (by omega)
        rw [e] at h9
        exact h9
      · have e : tkF tks set (g + 1) = tkF tks set g ||| tks g := if_pos (bI_nz c15)
        refine gg_iload_n dX1_takersOf_18 rfl rfl ?_
        refine gg_aload_n dX1_takersOf_19 rfl rfl ?_
        refine gf_X1_16 rfl dX1_takersOf_20 hp.1 rfl ?_
        refine gg_iload_n dX1_takersOf_23 rfl rfl ?_
        refine gg_ald_i (g) dX1_takersOf_24 hp.2.2.2.1 rfl hg (by decide) ?_
        refine gg_ior dX1_takersOf_25 ?_
        refine gg_istore_n dX1_takersOf_26 rfl (Nat.le_of_ble_eq_true rfl) rfl ?_
        refine gg_iinc (w := nI (g + 1)) dX1_takersOf_27 rfl (nI_1 g) (Nat.le_of_ble_eq_true rfl) rfl ?_
        refine gg_goto (tgt := 4) dX1_takersOf_30 (by decide) ?_
        have h9 := ih (g + 1) (by omega)
        rw [e] at h9
        exact h9
theorem sp_X1_takersOf {S : gl_H} {og tk : Int32} {w : Nat → Nat → Int64} {tks to : Nat → Int32} {tl : Nat → Int64} {lt : Nat → Int32} (hp : PM S og tk w tks to tl lt) (set : Int32) : Sp mX1_takersOf yX1_takersOf [.ref 12, .int set] S (fun r S1 => S1 = S ∧ r = some (.int (tkF tks set 10))) := by
  refine gl_enter (j := 2) (by decide +kernel) rfl (fun h => absurd h (by decide)) (Nat.le_of_ble_eq_true rfl) rfl (fun x => ?_)
  refine gg_iconst (v := 0) dX1_takersOf_0 (by decide) ?_
  refine gg_istore_n dX1_takersOf_1 rfl (Nat.le_of_ble_eq_true rfl) rfl ?_
  refine gg_iconst (v := 0) dX1_takersOf_2 (by decide) ?_
  refine gg_istore_n dX1_takersOf_3 rfl (Nat.le_of_ble_eq_true rfl) rfl ?_
  exact to_loop hp set x 10 0 rfl
set_option maxRecDepth 20000 in
theorem kq_J265 : Cond.constant RJ6 265 1431655765 ∈ gl_T := (gl_T_in (by decide +kernel) (by decide +kernel))
set_option maxRecDepth 20000 in
theorem kq_J266 : Cond.constant RJ6 266 858993459 ∈ gl_T := (gl_T_in (by decide +kernel) (by decide +kernel))
set_option maxRecDepth 20000 in
theorem kq_J267 : Cond.constant RJ6 267 252645135 ∈ gl_T := (gl_T_in (by decide +kernel) (by decide +kernel))
def bc1 (a : Int32) : Int32 := a - ((a.toUInt32 >>> (((1 : Int32)).toUInt32 &&& Int32.toUInt32 31)).toInt32 &&& 1431655765)
def bc2 (a : Int32) : Int32 := ((bc1 a) &&& 858993459) + (((bc1 a).toUInt32 >>> (((2 : Int32)).toUInt32 &&& Int32.toUInt32 31)).toInt32 &&& 858993459)
def bc3 (a : Int32) : Int32 := ((bc2 a) + ((bc2 a).toUInt32 >>> (((4 : Int32)).toUInt32 &&& Int32.toUInt32 31)).toInt32) &&& 252645135
def bc4 (a : Int32) : Int32 := (bc3 a) + ((bc3 a).toUInt32 >>> (((8 : Int32)).toUInt32 &&& Int32.toUInt32 31)).toInt32
def bc5 (a : Int32) : Int32 := (bc4 a) + ((bc4 a).toUInt32 >>> (((16 : Int32)).toUInt32 &&& Int32.toUInt32 31)).toInt32
def bcv (a : Int32) : Int32 := (bc5 a) &&& 63
theorem sp_J6_bitCount_0f7a4 (S : gl_H) (a : Int32) : Sp mJ6_bitCount_0f7a4 yJ6_bitCount_0f7a4 [.int a] S (fun r S1 => S1 = S ∧ r = some (.int (bcv a))) := by
  refine gl_enter (j := 0) (by decide +kernel) rfl (fun h => absurd h (by decide)) (Nat.le_of_ble_eq_true rfl) rfl (fun x => ?_)
  refine gg_iload_n dJ6_bitCount_0f7a4_0 rfl rfl ?_
  refine gg_iload_n dJ6_bitCount_0f7a4_1 rfl rfl ?_
  refine gg_iconst (v := 1) dJ6_bitCount_0f7a4_2 (by decide) ?_
  refine gg_iushr dJ6_bitCount_0f7a4_3 ?_
  refine gg_ldc_w (v := 1431655765) dJ6_bitCount_0f7a4_4 kq_J265 ?_
  refine gg_iand dJ6_bitCount_0f7a4_7 ?_
  refine gg_isub dJ6_bitCount_0f7a4_8 ?_
  refine gg_istore_n (ls2 := [some (.int (bc1 a))]) dJ6_bitCount_0f7a4_9 rfl (Nat.le_of_ble_eq_true rfl) rfl ?_
  refine gg_iload_n dJ6_bitCount_0f7a4_10 rfl rfl ?_
  refine gg_ldc_w (v := 858993459) dJ6_bitCount_0f7a4_11 kq_J266 ?_
  refine gg_iand dJ6_bitCount_0f7a4_14 ?_
  refine gg_iload_n dJ6_bitCount_0f7a4_15 rfl rfl ?_
  refine gg_iconst (v := 2) dJ6_bitCount_0f7a4_16 (by decide) ?_
  refine gg_iushr dJ6_bitCount_0f7a4_17 ?_
  refine gg_ldc_w (v := 858993459) dJ6_bitCount_0f7a4_18 kq_J266 ?_
  refine gg_iand dJ6_bitCount_0f7a4_21 ?_
  refine gg_iadd dJ6_bitCount_0f7a4_22 ?_
  refine gg_istore_n (ls2 := [some (.int (bc2 a))]) dJ6_bitCount_0f7a4_23 rfl (Nat.le_of_ble_eq_true rfl) rfl ?_
  refine gg_iload_n dJ6_bitCount_0f7a4_24 rfl rfl ?_
  refine gg_iload_n dJ6_bitCount_0f7a4_25 rfl rfl ?_
  refine gg_iconst (v := 4) dJ6_bitCount_0f7a4_26 (by decide) ?_
  refine gg_iushr dJ6_bitCount_0f7a4_27 ?_
  refine gg_iadd dJ6_bitCount_0f7a4_28 ?_
  refine gg_ldc_w (v := 252645135) dJ6_bitCount_0f7a4_29 kq_J267 ?_
  refine gg_iand dJ6_bitCount_0f7a4_32 ?_
  refine gg_istore_n (ls2 := [some (.int (bc3 a))]) dJ6_bitCount_0f7a4_33 rfl (Nat.le_of_ble_eq_true rfl) rfl ?_
  refine gg_iload_n dJ6_bitCount_0f7a4_34 rfl rfl ?_
  refine gg_iload_n dJ6_bitCount_0f7a4_35 rfl rfl ?_
  refine gg_bipush (v := 8) dJ6_bitCount_0f7a4_36 (by decide) ?_
  refine gg_iushr dJ6_bitCount_0f7a4_38 ?_
  refine gg_iadd dJ6_bitCount_0f7a4_39 ?_
  refine gg_istore_n (ls2 := [some (.int (bc4 a))]) dJ6_bitCount_0f7a4_40 rfl (Nat.le_of_ble_eq_true rfl) rfl ?_
  refine gg_iload_n dJ6_bitCount_0f7a4_41 rfl rfl ?_
  refine gg_iload_n dJ6_bitCount_0f7a4_42 rfl rfl ?_
  refine gg_bipush (v := 16) dJ6_bitCount_0f7a4_43 (by decide) ?_
  refine gg_iushr dJ6_bitCount_0f7a4_45 ?_
  refine gg_iadd dJ6_bitCount_0f7a4_46 ?_
  refine gg_istore_n (ls2 := [some (.int (bc5 a))]) dJ6_bitCount_0f7a4_47 rfl (Nat.le_of_ble_eq_true rfl) rfl ?_
  refine gg_iload_n dJ6_bitCount_0f7a4_48 rfl rfl ?_
  refine gg_bipush (v := 63) dJ6_bitCount_0f7a4_49 (by decide) ?_
  refine gg_iand dJ6_bitCount_0f7a4_51 ?_
  exact gg_ireturn dJ6_bitCount_0f7a4_52 rfl rfl ⟨(Nat.le_of_ble_eq_true rfl), (Nat.le_of_ble_eq_true rfl)⟩ (⟨rfl, rfl⟩)
abbrev fu_T : Type := Nat × Int32
def fuS (tks : Nat → Int32) (og : Int32) (s : Nat) (q : fu_T) : fu_T := if nI s &&& og = nI s ∧ bcv (nI s) < q.2 ∧ bcv (tkF tks (nI s) 10) < bcv (nI s) then (s, bcv (nI s)) else q
/-- the sets 1 .. n -/
def fuF (tks : Nat → Int32) (og : Int32) : Nat → fu_T
  | 0 => (0, 11)
  | n + 1 => fuS tks og (n + 1) (fuF tks og n)
theorem fu_loop {S : gl_H} {o9 : Nat} {tk : Int32} {w : Nat → Nat → Int64} {tks to : Nat → Int32} {tl : Nat → Int64} {lt : Nat → Int32} (hp : PM S (nI o9) tk w tks to tl lt) (ho : o9 < 1024) (x : gl_X) : ∀ (m s : Nat), s + m = o9 → GG mX1_fewestUnfillable x (gl_Z mX1_fewestUnfillable x (fun r S1 => S1 = S ∧ r = some (.int (nI (fuF tks (nI o9) o9).1)))) 7 [some (.ref 12), some (.int (nI (fuF tks (nI o9) s).1)), some (.int (fuF tks (nI o9) s).2), some (.int (nI (s + 1))), none] [] S (0, 0) := by
  intro m
  induction m with
  | zero =>
    intro s hm
    have e : s = o9 := by omega
    subst e
    refine gg_iload_n dX1_fewestUnfillable_7 rfl rfl ?_
    refine gg_aload_n dX1_fewestUnfillable_8 rfl rfl ?_
    refine gf_X1_41 rfl dX1_fewestUnfillable_9 hp.1 rfl ?_
    refine gg_icmp_gt (tgt := 64) dX1_fewestUnfillable_12 (by decide) (fun c12 => ?_) (fun c12 => ?_)
    · refine gg_iload_n dX1_fewestUnfillable_64 rfl rfl ?_
      exact gg_ireturn dX1_fewestUnfillable_65 rfl rfl ⟨(Nat.le_of_ble_eq_true rfl), (Nat.le_of_ble_eq_true rfl)⟩ (⟨rfl, rfl⟩)
    · exact absurd (nI_lt (Nat.lt_succ_self s) (by omega)) c12
  | succ m ih =>
    intro s hm
    generalize hs : fuF tks (nI o9) s = q
    refine gg_iload_n dX1_fewestUnfillable_7 rfl rfl ?_
    refine gg_aload_n dX1_fewestUnfillable_8 rfl rfl ?_
    refine gf_X1_41 rfl dX1_fewestUnfillable_9 hp.1 rfl ?_
    refine gg_icmp_gt (tgt := 64) dX1_fewestUnfillable_12 (by decide) (fun c12 => ?_) (fun c12 => ?_)
    · exact absurd (n_lt c12) (by omega)
    · refine gg_iload_n dX1_fewestUnfillable_15 rfl rfl ?_
      refine gg_aload_n dX1_fewestUnfillable_16 rfl rfl ?_
      refine gf_X1_41 rfl dX1_fewestUnfillable_17 hp.1 rfl ?_
      refine gg_iand dX1_fewestUnfillable_20 ?_
      refine gg_iload_n dX1_fewestUnfillable_21 rfl rfl ?_
      refine gg_icmp_eq (tgt := 28) dX1_fewestUnfillable_22 (by decide) (fun c22 => ?_) (fun c22 => ?_)
      · refine gg_iload_n dX1_fewestUnfillable_28 rfl rfl ?_
        refine gg_callS (sp_J6_bitCount_0f7a4 S (nI (s + 1))) dX1_fewestUnfillable_29 kw_X1_69 rfl rfl (Nat.le_of_ble_eq_true rfl) (Nat.le_of_ble_eq_true rfl) (Nat.le_of_ble_eq_true rfl) ⟨(Nat.le_of_ble_eq_true rfl), (Nat.le_of_ble_eq_true rfl)⟩ (fun r S1 hq => ?_)
        refine gg_k (k2 := (0, 0)) rfl ?_
        obtain ⟨e9, rfl⟩ := hq
        rw [e9]
        clear e9 S1
        refine gg_istore dX1_fewestUnfillable_32 (Nat.le_of_ble_eq_true rfl) rfl ?_
        refine gg_iload dX1_fewestUnfillable_34 rfl ?_
        refine gg_iload_n dX1_fewestUnfillable_36 rfl rfl ?_
        refine gg_icmp_ge (tgt := 58) dX1_fewestUnfillable_37 (by decide) (fun c37 => ?_) (fun c37 => ?_)
        · have e : fuS tks (nI o9) (s + 1) q = q := if_neg (fun z => Int32.not_lt.mpr c37 z.2.1)
          refine gg_iinc (w := nI (s + 1 + 1)) dX1_fewestUnfillable_58 rfl (nI_1 (s + 1)) (Nat.le_of_ble_eq_true rfl) rfl ?_
          refine gg_goto (tgt := 7) dX1_fewestUnfillable_61 (by decide) ?_
          have e3 : fuF tks (nI o9) (s + 1) = _ := (congrArg (fuS tks (nI o9) (s + 1)) hs).trans e
          refine gg_fg [true, true, true, true, false] ?_
          have h9 := ih (s + 1) (by omega)
          rw [e3] at h9
          exact h9
        · have c37 := Int32.not_le.mp c37
          refine gg_aload_n dX1_fewestUnfillable_40 rfl rfl ?_
          refine gg_iload_n dX1_fewestUnfillable_41 rfl rfl ?_
          refine gg_callV (sp_X1_takersOf hp (nI (s + 1))) dX1_fewestUnfillable_42 kw_X1_75 rfl hp.1 rfl rfl (Nat.le_of_ble_eq_true rfl) (Nat.le_of_ble_eq_true rfl) (Nat.le_of_ble_eq_true rfl) ⟨(Nat.le_of_ble_eq_true rfl), (Nat.le_of_ble_eq_true rfl)⟩ (fun r S1 hq => ?_)
          refine gg_k (k2 := (0, 0)) rfl ?_
          obtain ⟨e9, rfl⟩ := hq
          rw [e9]
          clear e9 S1
          refine gg_callS (sp_J6_bitCount_0f7a4 S (tkF tks (nI (s + 1)) 10)) dX1_fewestUnfillable_45 kw_X1_69 rfl rfl (Nat.le_of_ble_eq_true rfl) (Nat.le_of_ble_eq_true rfl) (Nat.le_of_ble_eq_true rfl) ⟨(Nat.le_of_ble_eq_true rfl), (Nat.le_of_ble_eq_true rfl)⟩ (fun r S1 hq => ?_)
          refine gg_k (k2 := (0, 0)) rfl ?_
          obtain ⟨e9, rfl⟩ := hq
          rw [e9]
          clear e9 S1
          refine gg_iload dX1_fewestUnfillable_48 rfl ?_
          refine gg_icmp_ge (tgt := 58) dX1_fewestUnfillable_50 (by decide) (fun c50 => ?_) (fun c50 => ?_)
          · have e : fuS tks (nI o9) (s + 1) q = q := if_neg (fun z => Int32.not_lt.mpr c50 z.2.2)
            refine gg_iinc (w := nI (s + 1 + 1)) dX1_fewestUnfillable_58 rfl (nI_1 (s + 1)) (Nat.le_of_ble_eq_true rfl) rfl ?_
            refine gg_goto (tgt := 7) dX1_fewestUnfillable_61 (by decide) ?_
            have e3 : fuF tks (nI o9) (s + 1) = _ := (congrArg (fuS tks (nI o9) (s + 1)) hs).trans e
            refine gg_fg [true, true, true, true, false] ?_
            have h9 := ih (s + 1) (by omega)
            rw [e3] at h9
            exact h9
          · have e : fuS tks (nI o9) (s + 1) q = (s + 1, bcv (nI (s + 1))) := if_pos ⟨c22, c37, Int32.not_le.mp c50⟩
            refine gg_iload_n dX1_fewestUnfillable_53 rfl rfl ?_
            refine gg_istore_n dX1_fewestUnfillable_54 rfl (Nat.le_of_ble_eq_true rfl) rfl ?_
            refine gg_iload dX1_fewestUnfillable_55 rfl ?_
            refine gg_istore_n dX1_fewestUnfillable_57 rfl (Nat.le_of_ble_eq_true rfl) rfl ?_
            refine gg_iinc (w := nI (s + 1 + 1)) dX1_fewestUnfillable_58 rfl (nI_1 (s + 1)) (Nat.le_of_ble_eq_true rfl) rfl ?_
            refine gg_goto (tgt := 7) dX1_fewestUnfillable_61 (by decide) ?_
            have e3 : fuF tks (nI o9) (s + 1) = _ := (congrArg (fuS tks (nI o9) (s + 1)) hs).trans e
            refine gg_fg [true, true, true, true, false] ?_
            have h9 := ih (s + 1) (by omega)
            rw [e3] at h9
            exact h9
      · have e : fuS tks (nI o9) (s + 1) q = q := if_neg (fun z => c22 z.1)
        refine gg_goto (tgt := 58) dX1_fewestUnfillable_25 (by decide) ?_
        refine gg_iinc (w := nI (s + 1 + 1)) dX1_fewestUnfillable_58 rfl (nI_1 (s + 1)) (Nat.le_of_ble_eq_true rfl) rfl ?_
        refine gg_goto (tgt := 7) dX1_fewestUnfillable_61 (by decide) ?_
        have e3 : fuF tks (nI o9) (s + 1) = _ := (congrArg (fuS tks (nI o9) (s + 1)) hs).trans e
        refine gg_fg [true, true, true, true, false] ?_
        have h9 := ih (s + 1) (by omega)
        rw [e3] at h9
        exact h9
theorem sp_X1_fewestUnfillable {S : gl_H} {o9 : Nat} {tk : Int32} {w : Nat → Nat → Int64} {tks to : Nat → Int32} {tl : Nat → Int64} {lt : Nat → Int32} (hp : PM S (nI o9) tk w tks to tl lt) (ho : o9 < 1024) : Sp mX1_fewestUnfillable yX1_fewestUnfillable [.ref 12] S (fun r S1 => S1 = S ∧ r = some (.int (nI (fuF tks (nI o9) o9).1))) := by
  refine gl_enter (j := 4) (by decide +kernel) rfl (fun h => absurd h (by decide)) (Nat.le_of_ble_eq_true rfl) rfl (fun x => ?_)
  refine gg_iconst (v := 0) dX1_fewestUnfillable_0 (by decide) ?_
  refine gg_istore_n dX1_fewestUnfillable_1 rfl (Nat.le_of_ble_eq_true rfl) rfl ?_
  refine gg_bipush (v := 11) dX1_fewestUnfillable_2 (by decide) ?_
  refine gg_istore_n dX1_fewestUnfillable_4 rfl (Nat.le_of_ble_eq_true rfl) rfl ?_
  refine gg_iconst (v := 1) dX1_fewestUnfillable_5 (by decide) ?_
  refine gg_istore_n dX1_fewestUnfillable_6 rfl (Nat.le_of_ble_eq_true rfl) rfl ?_
  exact fu_loop hp ho x o9 0 (by omega)
end
section
/-! System.arraycopy out of the static array AT_FIRST; the script -/
section GX
variable {M : gl_M} {x : gl_X} {Z : State → Prop} {pc idx : Nat} {ls : List (Option Value)} {st : List Value} {S : gl_H} {k : Nat × Nat}
theorem gg_copyx {p1 n1 : Nat} {g f : Nat → Int32} (t : Nat) (hx : 1000000 ≤ t) (hz : ∀ A ad U H, gl_Ext A ad U H → va_T .int (ad t) 7 (fun j => .int (f j)) A U H) (hd : decode M.1 pc = .ok (.invokestatic idx, 3)) (hw : Cond.methodLink M.2.1 idx arraycopyName ∈ gl_T ∧ Cond.native arraycopyName ∈ gl_T ∧ Cond.static arraycopyName ∈ gl_T ∧ Cond.initialized "java/lang/System" ∈ gl_T) (hp1 : S p1 = some (.inl (0, n1, .inl g))) (hb1 : 7 ≤ n1) (hdep : 1 ≤ M.2.2.2.2.2.1) (hcat : (st.map gl_w).sum ≤ 8)
    (K : GG M x Z (pc + 3) ls st (gl_pu S p1 (.inl (0, n1, .inl (va_cpy f g 0 0 7)))) k) : GG M x Z pc ls (.int 7 :: .int 0 :: .ref p1 :: .int 0 :: .ref t :: st) S k := by
  obtain ⟨p, l, e, R, s, m, args, below, meth, c, D, Kc, A, ad0, S0⟩ := x
  intro ok ad H locs LS hR hSS hAg hst hls hLS
  have hts := ok.2.2.2.2.2.1
  have hcat2 : ((st.map (gl_mv ad)).map fun v => v.category).sum ≤ 8 := by
    rw [List.map_map, show (fun v : Value => v.category) ∘ gl_mv ad = gl_w from funext (fun v => gl_mv_cat ad v)]
    exact hcat
  have hfr := ok.2.2.2.2.2.2.2.2.1
  have e9 : ad t = ad0 t := (hAg t).2 (Or.inr hx)
  obtain ⟨L, j, h1, h2, h3, h4, h5, h6, h7, h8⟩ := gl_at hR hp1
  obtain ⟨scr, z1, z2, z3, z4, z5, z6, z7⟩ := hz _ _ _ _ ok.2.2.2.2.2.2.2.2.2.2.2
  have hbl : ad0 t < s.heap.size := (Array.getElem?_eq_some_iff.mp z1).1
  have hc0 : H[ad t]? = some scr := by rw [e9, hSS.2.1 _ hbl z7]; exact z1
  have hc1 : H[ad p1]? = some (vp_cell (Kc 0) (n1, .inl g)) := h3 j _ h8
  obtain ⟨hs6, k0, hk0, cm0, hkk0⟩ := z2
  obtain ⟨-, k1, hk1, cm1, hkk1⟩ := (ok.2.2.2.2.2.2.2.2.2.1.2 0 (Kc 0, .int) rfl).1 n1 (fun j => .int (g j))
  have i0 : (0 : Int32).toInt = 0 := by decide
  have i7 : (7 : Int32).toInt = 7 := by decide
  have c0 : (0 : Int32).toNatClampNeg = 0 := by decide
  have c7 : (7 : Int32).toNatClampNeg = 7 := by decide
  show W p l e R s m args below meth c H locs k.1 k.2 Z (F0 m pc LS (.int 7 :: .int 0 :: .ref (ad p1) :: .int 0 :: .ref (ad t) :: st.map (gl_mv ad)))
  intro T hT X
  obtain ⟨vm', X', step⟩ := X.arraycopy ok.1 ok.2.2.2.2.1 (hts _ hw.1) (hts _ hw.2.1) (hts _ hw.2.2.1) (hts _ hw.2.2.2) (src := ad t) (dst := ad p1) (cs := scr) (cd := vp_cell (Kc 0) (n1, .inl g)) (srcPos := 0) (destPos := 0) (n := 7) (by rw [hT]; exact hc0) (by rw [hT]; exact hc1)
    hs6 (fun _ h => by cases h) z3 (fun h => by cases h) hk0 hk1 hkk0 hkk1 (by simp [refKind]) (by decide) (by decide) (by decide)
    (by rw [i0, i7]; omega)
    (by rw [i0, i7]; show ¬ _ > ((arrV (Kc 0) n1 (fun j => .int (g j))).slots.size : Int); rw [arrV_size]; omega)
    (fun vm₁ _ i hi => by
      rw [c7] at hi
      have e : scr.slots.getD ((0 : Int32).toNatClampNeg + i) .null = .int (f ((0 : Int32).toNatClampNeg + i)) := by
        rw [Array.getD_eq_getD_getElem?, z6 _ (by rw [c0]; omega)]
        rfl
      refine ⟨?_, ?_⟩
      · rw [e]
        rfl
      · rw [e]
        exact trivial)
    (g := F0 m pc LS (.int 7 :: .int 0 :: .ref (ad p1) :: .int 0 :: .ref (ad t) :: st.map (gl_mv ad))) rfl (by show LS.size = _; rw [hLS.1, ok.2.2.1]) (rest := st.map (gl_mv ad)) rfl (by rw [ok.2.1]; exact hd) (by omega) (by show 2 * 0 + _ + (7 + 11) ≤ _; omega)
  have e1 : copied scr (vp_cell (Kc 0) (n1, .inl g)) 0 0 7 = vp_cell (Kc 0) (n1, .inl (va_cpy f g (0 : Int32).toNatClampNeg (0 : Int32).toNatClampNeg (7 : Int32).toNatClampNeg)) := va_copiedX (n0 := 7) (fun z => .int z) scr (Kc 0) f g z6 (by rw [c0, c7]; omega)
  rw [e1, c0, c7] at X' step
  have hl : ad p1 < H.size := (Array.getElem?_eq_some_iff.mp hc1).1
  have hheap : ((T.setVm vm').setCell (ad p1) (vp_cell (Kc 0) (n1, .inl (va_cpy f g 0 0 7)))).heap = H.setIfInBounds (ad p1) (vp_cell (Kc 0) (n1, .inl (va_cpy f g 0 0 7))) := by rw [← hT]; rfl
  have oq : ∀ q : Nat, q ≠ ad p1 → (H.setIfInBounds (ad p1) (vp_cell (Kc 0) (n1, .inl (va_cpy f g 0 0 7))))[q]? = H[q]? := fun q hq => by simp [Array.getElem?_setIfInBounds, Ne.symm hq]
  have q1 := h3.set h4 h8 (e := .inl (Kc 0, n1, .inl (va_cpy f g 0 0 7))) (show (H.setIfInBounds (ad p1) _)[ad p1]? = some _ by simp [Array.getElem?_setIfInBounds, hl]) oq
  have q2 := h4.set (e := .inl (Kc 0, n1, .inl (va_cpy f g 0 0 7))) h8
  obtain ⟨t9, a1, b1⟩ := K ok ad _ _ LS (gl_R.pu (c' := .inl (0, n1, .inl (va_cpy f g 0 0 7))) h1 h2 h5 h6 h7 hp1 (fun r hr => hr.elim) q1 q2) ⟨by simp; exact hSS.1, fun q g1 g2 => by
      rw [oq q (fun e => g2 (by rw [e]; exact h4.2 j _ h8))]
      exact hSS.2.1 q g1 g2, fun q hq => by
      rcases List.mem_append.mp hq with h | h
      · exact hSS.2.2 q h
      · obtain ⟨z, -, hz⟩ := List.mem_map.mp h
        rw [← hz]
        exact h4.2 j _ h8⟩ hAg.pu (gl_bds.pu (gl_bd_t (gl_bd_t (gl_bd_t (gl_bd_t (gl_bd_t hst)))))) (gl_bdq.pu hls) hLS _ hheap X'
  exact ⟨t9, step t9 a1, b1⟩
/-- the script of the law -/
def gl_Scr (x : gl_X) (L : Nat) (xs : Nat → Int32) : Prop := match x with
  | (p, l, e, R, s, m, args, below, meth, c, D, K, A, ad0, S0) => va_X (ad0 1000010) L xs s s.heap ∧ ad0 1000010 < s.heap.size ∧ ¬ A (ad0 1000010)
theorem gg_sld {L : Nat} {xs : Nat → Int32} {i : Int32} (j : Nat) (hsc : gl_Scr x L xs) (hd : decode M.1 pc = .ok (.iaload, 1)) (hi : i = nI j) (hj : j < L) (hL : L < 2 ^ 31) (K : GG M x Z (pc + 1) ls (.int (xs j) :: st) S k) : GG M x Z pc ls (.int i :: .ref 1000010 :: st) S k := by
  obtain ⟨p, l, e, R, s, m, args, below, meth, c, D, Kc, A, ad0, S0⟩ := x
  intro ok ad H locs LS hR hSS hAg hst hls hLS
  subst hi
  have e9 : ad 1000010 = ad0 1000010 := (hAg 1000010).2 (Or.inr (by unfold gl_xt; omega))
  have hw := K ok ad H locs LS hR hSS hAg (gl_bd_c gl_bd_i (gl_bd_t (gl_bd_t hst))) hls hLS
  have hc : (nI j).toNatClampNeg = j := nI_clamp (by omega)
  show W p l e R s m args below meth c H locs k.1 k.2 Z (F0 m pc LS (.int (nI j) :: .ref (ad 1000010) :: st.map (gl_mv ad)))
  rw [e9]
  refine va_sld ok.1 ok.2.1 hsc.1 hsc.2.1 hsc.2.2 hSS (vp_in_nI hj hL) hd ?_
  rw [hc]
  exact hw
theorem gg_slen {L : Nat} {xs : Nat → Int32} (hsc : gl_Scr x L xs) (hd : decode M.1 pc = .ok (.arraylength, 1)) (K : GG M x Z (pc + 1) ls (.int (nI L) :: st) S k) : GG M x Z pc ls (.ref 1000010 :: st) S k := by
  obtain ⟨p, l, e, R, s, m, args, below, meth, c, D, Kc, A, ad0, S0⟩ := x
  intro ok ad H locs LS hR hSS hAg hst hls hLS
  have e9 : ad 1000010 = ad0 1000010 := (hAg 1000010).2 (Or.inr (by unfold gl_xt; omega))
  have hw := K ok ad H locs LS hR hSS hAg (gl_bd_c gl_bd_i (gl_bd_t hst)) hls hLS
  show W p l e R s m args below meth c H locs k.1 k.2 Z (F0 m pc LS (.ref (ad 1000010) :: st.map (gl_mv ad)))
  rw [e9]
  exact va_slen ok.1 ok.2.1 hsc.1 hsc.2.1 hsc.2.2 hSS hd hw
end GX
end
section
/-! THE TAPE (3, 4) AND THE RULE BOOK (5, 6, 7) -/
def PT (S : gl_H) (b : Nat → Int32) (n : Nat) : Prop := S 3 = some (.inr (3, [.ref 4, .int (nI n)])) ∧ S 4 = some (.inl (2, 60, .inl b))
def PB (S : gl_H) (num dr : Nat → Int32) (pl : Nat) : Prop := S 5 = some (.inr (2, [.ref 6, .ref 7, .int (nI pl)])) ∧ S 6 = some (.inl (0, 7, .inl num)) ∧ S 7 = some (.inl (0, 7, .inl dr))
/-- a weaker end -/
theorem gl_Z_mono {M : gl_M} {x : gl_X} {Q Q2 : Option Value → gl_H → Prop} (h : ∀ r S1, Q r S1 → Q2 r S1) (t : State) (ht : gl_Z M x Q t) : gl_Z M x Q2 t := by
  obtain ⟨p, l, e, R, s, m, args, below, meth, c, D, Kc, A, ad0, S0⟩ := x
  obtain ⟨o, h1, h2, ⟨⟨r, S1, ad1, e1, e2, e3⟩, h4⟩, h5⟩ := ht
  exact ⟨o, h1, h2, ⟨⟨r, S1, ad1, e1, h _ _ e2, e3⟩, h4⟩, h5⟩
theorem gg_Q {M : gl_M} {x : gl_X} {Q Q2 : Option Value → gl_H → Prop} {pc : Nat} {ls : List (Option Value)} {st : List Value} {S : gl_H} {k : Nat × Nat} (h : ∀ r S1, Q r S1 → Q2 r S1) (K : GG M x (gl_Z M x Q) pc ls st S k) : GG M x (gl_Z M x Q2) pc ls st S k := by
  obtain ⟨p, l, e, R, s, m, args, below, meth, c, D, Kc, A, ad0, S0⟩ := x
  intro ok ad H locs LS hR hS hAg hst hls hLS T hT X
  obtain ⟨t, a1, b1⟩ := K ok ad H locs LS hR hS hAg hst hls hLS T hT X
  exact ⟨t, a1, gl_Z_mono (x := (p, l, e, R, s, m, args, below, meth, c, D, Kc, A, ad0, S0)) h t b1⟩
section PBS
variable {M : gl_M} {x : gl_X} {Z : State → Prop} {pc : Nat} {ls : List (Option Value)} {st : List Value} {S S0 : gl_H} {k : Nat × Nat} {b num dr : Nat → Int32} {n pl : Nat}
theorem PTs_b {v : Nat → Int32} (h : PT S b n) (hf : Fr 3 5 S0 S) (K : ∀ S1, PT S1 v n → Fr 3 5 S0 S1 → GG M x Z pc ls st S1 k) : GG M x Z pc ls st (gl_pu S 4 (.inl (2, 60, .inl v))) k := K _ ⟨(gl_pu_n S _ (by decide)).trans h.1, gl_pu_s S _ _⟩ (hf.pu (by decide) (by decide))
theorem PTs_n {v : Int32} (m : Nat) (hv : v = nI m) (h : PT S b n) (hf : Fr 3 5 S0 S) (K : ∀ S1, PT S1 b m → Fr 3 5 S0 S1 → GG M x Z pc ls st S1 k) : GG M x Z pc ls st (gl_pu S 3 (.inr (3, [.ref 4, .int v]))) k := by
  subst hv
  exact K _ ⟨gl_pu_s S _ _, (gl_pu_n S _ (by decide)).trans h.2⟩ (hf.pu (by decide) (by decide))
theorem PBs_pl {v : Int32} (m : Nat) (hv : v = nI m) (h : PB S num dr pl) (hf : Fr 5 8 S0 S) (K : ∀ S1, PB S1 num dr m → Fr 5 8 S0 S1 → GG M x Z pc ls st S1 k) : GG M x Z pc ls st (gl_pu S 5 (.inr (2, [.ref 6, .ref 7, .int v]))) k := by
  subst hv
  exact K _ ⟨gl_pu_s S _ _, (gl_pu_n S _ (by decide)).trans h.2.1, (gl_pu_n S _ (by decide)).trans h.2.2⟩ (hf.pu (by decide) (by decide))
theorem PBs_num {v : Nat → Int32} (h : PB S num dr pl) (hf : Fr 5 8 S0 S) (K : ∀ S1, PB S1 v dr pl → Fr 5 8 S0 S1 → GG M x Z pc ls st S1 k) : GG M x Z pc ls st (gl_pu S 6 (.inl (0, 7, .inl v))) k := K _ ⟨(gl_pu_n S _ (by decide)).trans h.1, gl_pu_s S _ _, (gl_pu_n S _ (by decide)).trans h.2.2⟩ (hf.pu (by decide) (by decide))
theorem PBs_dr {v : Nat → Int32} (h : PB S num dr pl) (hf : Fr 5 8 S0 S) (K : ∀ S1, PB S1 num v pl → Fr 5 8 S0 S1 → GG M x Z pc ls st S1 k) : GG M x Z pc ls st (gl_pu S 7 (.inl (0, 7, .inl v))) k := K _ ⟨(gl_pu_n S _ (by decide)).trans h.1, (gl_pu_n S _ (by decide)).trans h.2.1, gl_pu_s S _ _⟩ (hf.pu (by decide) (by decide))
end PBS
theorem sp_X3_hasRoom {S : gl_H} {b : Nat → Int32} {n : Nat} (hT : PT S b n) (hn : n ≤ 60) : Sp mX3_hasRoom yX3_hasRoom [.ref 3] S (fun r S1 => S1 = S ∧ r = some (.int (bI (decide (n ≤ 40))))) := by
  refine gl_enter (j := 0) (by decide +kernel) rfl (fun h => absurd h (by decide)) (Nat.le_of_ble_eq_true rfl) rfl (fun x => ?_)
  refine gg_aload_n dX3_hasRoom_0 rfl rfl ?_
  refine gf_X3_15 rfl dX3_hasRoom_1 hT.1 rfl ?_
  refine gg_bipush (v := 20) dX3_hasRoom_4 (by decide) ?_
  refine gg_iadd dX3_hasRoom_6 ?_
  refine gg_bipush (v := 60) dX3_hasRoom_7 (by decide) ?_
  refine gg_icmp_gt (tgt := 16) dX3_hasRoom_9 (by decide) (fun c9 => ?_) (fun c9 => ?_)
  · have c9 : nI 60 < nI (n + 20) := by rw [← nI_add]; exact c9
    have e : decide (n ≤ 40) = false := by have := n_lt c9; simp; omega
    refine gg_iconst (v := 0) dX3_hasRoom_16 (by decide) ?_
    exact gg_ireturn dX3_hasRoom_17 rfl rfl ⟨(Nat.le_of_ble_eq_true rfl), (Nat.le_of_ble_eq_true rfl)⟩ (⟨rfl, by rw [e]; rfl⟩)
  · have c9 : ¬ nI 60 < nI (n + 20) := by rw [← nI_add]; exact c9
    have e : decide (n ≤ 40) = true := by have := n_nlt c9; simp; omega
    refine gg_iconst (v := 1) dX3_hasRoom_12 (by decide) ?_
    refine gg_goto (tgt := 17) dX3_hasRoom_13 (by decide) ?_
    exact gg_ireturn dX3_hasRoom_17 rfl rfl ⟨(Nat.le_of_ble_eq_true rfl), (Nat.le_of_ble_eq_true rfl)⟩ (⟨rfl, by rw [e]; rfl⟩)
def ap1 (b : Nat → Int32) (n : Nat) (v s : Int32) : Nat → Int32 := upd b n (v >>> (s &&& 31)).toInt8.toInt32
def ap4 (b : Nat → Int32) (n : Nat) (v : Int32) : Nat → Int32 := ap1 (ap1 (ap1 (ap1 b n v 24) (n + 1) v 16) (n + 1 + 1) v 8) (n + 1 + 1 + 1) v 0
theorem ap_step {S0 S : gl_H} {b : Nat → Int32} {n : Nat} {v s : Int32} {Z : State → Prop} (hT : PT S b n) (hf : Fr 3 5 S0 S) (hn : n < 60) (hs : ¬ s < 0) (x : gl_X) (K : ∀ S1, PT S1 (ap1 b n v s) (n + 1) → Fr 3 5 S0 S1 → GG mX3_append x Z 3 [some (.ref 3), some (.int v), some (.int (s + Int32.ofInt (-8)))] [] S1 (0, 0)) : GG mX3_append x Z 3 [some (.ref 3), some (.int v), some (.int s)] [] S (0, 0) := by
  refine gg_iload_n dX3_append_3 rfl rfl ?_
  refine gg_if_lt (tgt := 45) dX3_append_4 (by decide) (fun c4 => ?_) (fun c4 => ?_)
  · exact absurd c4 hs
  · refine gg_aload_n dX3_append_7 rfl rfl ?_
    refine gf_X3_15 rfl dX3_append_8 hT.1 rfl ?_
    refine gg_bipush (v := 60) dX3_append_11 (by decide) ?_
    refine gg_icmp_ge (tgt := 45) dX3_append_13 (by decide) (fun c13 => ?_) (fun c13 => ?_)
    · exact absurd (n_le (a := 60) c13) (by omega)
    · refine gg_aload_n dX3_append_16 rfl rfl ?_
      refine gf_X3_11 rfl dX3_append_17 hT.1 rfl ?_
      refine gg_aload_n dX3_append_20 rfl rfl ?_
      refine gf_X3_15 rfl dX3_append_21 hT.1 rfl ?_
      refine gg_iload_n dX3_append_24 rfl rfl ?_
      refine gg_iload_n dX3_append_25 rfl rfl ?_
      refine gg_ishr dX3_append_26 ?_
      refine gg_i2b dX3_append_27 ?_
      refine gg_ast_b (n) dX3_append_28 hT.2 rfl hn (by decide) ?_
      rw [pk_vb]
      refine PTs_b hT hf (fun S hT hf => ?_)
      refine gg_aload_n dX3_append_29 rfl rfl ?_
      refine gg_dup dX3_append_30 rfl ?_
      refine gf_X3_15 rfl dX3_append_31 hT.1 rfl ?_
      refine gg_iconst (v := 1) dX3_append_34 (by decide) ?_
      refine gg_iadd dX3_append_35 ?_
      refine pf_X3_15 rfl dX3_append_36 hT.1 (Nat.le_of_ble_eq_true rfl) ?_
      refine PTs_n (n + 1) (nI_1 n) hT hf (fun S hT hf => ?_)
      refine gg_iinc (w := _) dX3_append_39 rfl rfl (Nat.le_of_ble_eq_true rfl) rfl ?_
      refine gg_goto (tgt := 3) dX3_append_42 (by decide) ?_
      exact K S hT hf
theorem sp_X3_append {S : gl_H} {b : Nat → Int32} {n : Nat} (hT : PT S b n) (hn : n + 4 ≤ 60) (v : Int32) : Sp mX3_append yX3_append [.ref 3, .int v] S (fun r S1 => r = none ∧ PT S1 (ap4 b n v) (n + 4) ∧ Fr 3 5 S S1) := by
  refine gl_enter (j := 1) (by decide +kernel) rfl (fun h => absurd h (by decide)) (Nat.le_of_ble_eq_true rfl) rfl (fun x => ?_)
  refine gg_bipush (v := 24) dX3_append_0 (by decide) ?_
  refine gg_istore_n dX3_append_2 rfl (Nat.le_of_ble_eq_true rfl) rfl ?_
  refine ap_step (v := v) (s := 24) hT Fr.rf (by omega) (by decide) x (fun S hT hf => ?_)
  refine ap_step (v := v) (s := 16) hT hf (by omega) (by decide) x (fun S hT hf => ?_)
  refine ap_step (v := v) (s := 8) hT hf (by omega) (by decide) x (fun S hT hf => ?_)
  refine ap_step (v := v) (s := 0) hT hf (by omega) (by decide) x (fun S hT hf => ?_)
  refine gg_iload_n dX3_append_3 rfl rfl ?_
  refine gg_if_lt (tgt := 45) dX3_append_4 (by decide) (fun c4 => ?_) (fun c4 => absurd (by decide) c4)
  exact gg_return dX3_append_45 rfl ⟨(Nat.le_of_ble_eq_true rfl), (Nat.le_of_ble_eq_true rfl)⟩ ⟨rfl, hT, hf⟩
def ccV (b : Nat → Int32) (n p : Nat) : Int32 := if p < n then b p &&& 255 else 0
def sgV (b : Nat → Int32) (n p : Nat) : Int32 := if p < n then b p &&& 255 else -1
def dgB (b : Nat → Int32) (n p : Nat) : Bool := decide (48 ≤ ccV b n p ∧ ccV b n p ≤ 57)
def kdO (x : Int32) : Option Nat := ffst (fun k => gl_LT k == x) 0 7
theorem sg_dig (b : Nat → Int32) (n p : Nat) : (if 48 ≤ sgV b n p ∧ sgV b n p ≤ 57 then (1 : Int32) else 0) = bI (dgB b n p) := by
  unfold dgB sgV ccV bI
  by_cases h : p < n
  · rw [if_pos h, if_pos h]
    by_cases c : 48 ≤ b p &&& 255 ∧ b p &&& 255 ≤ 57
    · rw [if_pos c, decide_eq_true c]; rfl
    · rw [if_neg c, decide_eq_false c]; rfl
  · rw [if_neg h, if_neg h]; decide
theorem sg_kd (b : Nat → Int32) (n p : Nat) : kdO (sgV b n p) = kdO (ccV b n p) := by
  unfold sgV ccV
  by_cases h : p < n
  · rw [if_pos h, if_pos h]
  · rw [if_neg h, if_neg h]; decide
theorem dg_lt {b : Nat → Int32} {n p : Nat} (h : dgB b n p = true) : p < n := by
  by_cases c : p < n
  · exact c
  · unfold dgB ccV at h
    rw [if_neg c] at h
    exact absurd h (by decide)
theorem sg_cc {b : Nat → Int32} {n p : Nat} (h : p < n) : sgV b n p = ccV b n p := by
  unfold sgV ccV
  rw [if_pos h, if_pos h]
theorem sp_X3_signAt {S : gl_H} {b : Nat → Int32} {t : Nat} (hT : PT S b t) {n p : Nat} (hn : n ≤ 60) (hp : p < 2 ^ 30) : Sp mX3_signAt yX3_signAt [.ref 3, .int (nI p), .int (nI n)] S (fun r S1 => S1 = S ∧ r = some (.int (sgV b n p))) := by
  refine gl_enter (j := 0) (by decide +kernel) rfl (fun h => absurd h (by decide)) (Nat.le_of_ble_eq_true rfl) rfl (fun x => ?_)
  refine gg_iload_n dX3_signAt_0 rfl rfl ?_
  refine gg_if_lt (tgt := 28) dX3_signAt_1 (by decide) (fun c1 => ?_) (fun c1 => ?_)
  · exact absurd c1 (nI_pos (by omega))
  · refine gg_iload_n dX3_signAt_4 rfl rfl ?_
    refine gg_iload_n dX3_signAt_5 rfl rfl ?_
    refine gg_icmp_ge (tgt := 28) dX3_signAt_6 (by decide) (fun c6 => ?_) (fun c6 => ?_)
    · have e : sgV b n p = -1 := if_neg (by have := n_le c6; omega)
      refine gg_iconst (v := -1) dX3_signAt_28 (by decide) ?_
      exact gg_ireturn dX3_signAt_29 rfl rfl ⟨(Nat.le_of_ble_eq_true rfl), (Nat.le_of_ble_eq_true rfl)⟩ (⟨rfl, by rw [e]⟩)
    · have c6 := n_nle c6
      have e : sgV b n p = b p &&& 255 := if_pos c6
      refine gg_iload_n dX3_signAt_9 rfl rfl ?_
      refine gg_bipush (v := 60) dX3_signAt_10 (by decide) ?_
      refine gg_icmp_ge (tgt := 28) dX3_signAt_12 (by decide) (fun c12 => ?_) (fun c12 => ?_)
      · exact absurd (n_le (a := 60) c12) (by omega)
      · refine gg_aload_n dX3_signAt_15 rfl rfl ?_
        refine gf_X3_11 rfl dX3_signAt_16 hT.1 rfl ?_
        refine gg_iload_n dX3_signAt_19 rfl rfl ?_
        refine gg_ald_b (p) dX3_signAt_20 hT.2 rfl (by omega) (by decide) ?_
        refine gg_sipush (v := 255) dX3_signAt_21 (by decide) ?_
        refine gg_iand dX3_signAt_24 ?_
        refine gg_goto (tgt := 29) dX3_signAt_25 (by decide) ?_
        exact gg_ireturn dX3_signAt_29 rfl rfl ⟨(Nat.le_of_ble_eq_true rfl), (Nat.le_of_ble_eq_true rfl)⟩ (⟨rfl, by rw [e]⟩)
theorem sp_X2_isDigit (S : gl_H) (a : Int32) : Sp mX2_isDigit yX2_isDigit [.int a] S (fun r S1 => S1 = S ∧ r = some (.int (if 48 ≤ a ∧ a ≤ 57 then 1 else 0))) := by
  refine gl_enter (j := 0) (by decide +kernel) rfl (fun h => absurd h (by decide)) (Nat.le_of_ble_eq_true rfl) rfl (fun x => ?_)
  refine gg_iload_n dX2_isDigit_0 rfl rfl ?_
  refine gg_bipush (v := 48) dX2_isDigit_1 (by decide) ?_
  refine gg_icmp_lt (tgt := 16) dX2_isDigit_3 (by decide) (fun c3 => ?_) (fun c3 => ?_)
  · refine gg_iconst (v := 0) dX2_isDigit_16 (by decide) ?_
    exact gg_ireturn dX2_isDigit_17 rfl rfl ⟨(Nat.le_of_ble_eq_true rfl), (Nat.le_of_ble_eq_true rfl)⟩ (⟨rfl, by first | rw [wi_t c3 c9] | rw [wi_f1 c3] | rw [wi_f2 c9]⟩)
  · refine gg_iload_n dX2_isDigit_6 rfl rfl ?_
    refine gg_bipush (v := 57) dX2_isDigit_7 (by decide) ?_
    refine gg_icmp_gt (tgt := 16) dX2_isDigit_9 (by decide) (fun c9 => ?_) (fun c9 => ?_)
    · refine gg_iconst (v := 0) dX2_isDigit_16 (by decide) ?_
      exact gg_ireturn dX2_isDigit_17 rfl rfl ⟨(Nat.le_of_ble_eq_true rfl), (Nat.le_of_ble_eq_true rfl)⟩ (⟨rfl, by first | rw [wi_t c3 c9] | rw [wi_f1 c3] | rw [wi_f2 c9]⟩)
    · refine gg_iconst (v := 1) dX2_isDigit_12 (by decide) ?_
      refine gg_goto (tgt := 17) dX2_isDigit_13 (by decide) ?_
      exact gg_ireturn dX2_isDigit_17 rfl rfl ⟨(Nat.le_of_ble_eq_true rfl), (Nat.le_of_ble_eq_true rfl)⟩ (⟨rfl, by first | rw [wi_t c3 c9] | rw [wi_f1 c3] | rw [wi_f2 c9]⟩)
set_option maxRecDepth 20000 in
theorem lks_18 : Cond.fieldLink RX2 18 RX2 "AT_FIRST" "[I" ∈ gl_T := (gl_T_in (by decide +kernel) (by decide +kernel))
set_option maxRecDepth 20000 in
theorem lks_52 : Cond.fieldLink RX2 52 RX2 "LEAST" "[I" ∈ gl_T := (gl_T_in (by decide +kernel) (by decide +kernel))
set_option maxRecDepth 20000 in
theorem lks_55 : Cond.fieldLink RX2 55 RX2 "MOST" "[I" ∈ gl_T := (gl_T_in (by decide +kernel) (by decide +kernel))
set_option maxRecDepth 20000 in
theorem lks_58 : Cond.fieldLink RX2 58 RX2 "LETTERS" "[C" ∈ gl_T := (gl_T_in (by decide +kernel) (by decide +kernel))
theorem kd_loop {S : gl_H} {a : Int32} (x : gl_X) {Q : Option Value → gl_H → Prop} : ∀ (m g : Nat), g + m = 7 → Q (some (.int (oI (ffst (fun k => gl_LT k == a) g m)))) S → GG mX2_kindOf x (gl_Z mX2_kindOf x Q) 2 [some (.int a), some (.int (nI g))] [] S (0, 0) := by
  intro m
  induction m with
  | zero =>
    intro g hm hQ
    have e : g = 7 := by omega
    subst e
    refine gg_iload_n dX2_kindOf_2 rfl rfl ?_
    refine gg_bipush (v := 7) dX2_kindOf_3 (by decide) ?_
    refine gg_icmp_ge (tgt := 25) dX2_kindOf_5 (by decide) (fun c5 => ?_) (fun c5 => ?_)
    · refine gg_iconst (v := -1) dX2_kindOf_25 (by decide) ?_
      exact gg_ireturn dX2_kindOf_26 rfl rfl ⟨(Nat.le_of_ble_eq_true rfl), (Nat.le_of_ble_eq_true rfl)⟩ (hQ)
    · exact absurd (nI_le (Nat.le_refl 7) (by omega)) c5
  | succ m ih =>
    intro g hm hQ
    have hg : g < 7 := by omega
    have e0 : ffst (fun k => gl_LT k == a) g (m + 1) = if (gl_LT g == a) then some g else ffst (fun k => gl_LT k == a) (g + 1) m := rfl
    rw [e0] at hQ
    refine gg_iload_n dX2_kindOf_2 rfl rfl ?_
    refine gg_bipush (v := 7) dX2_kindOf_3 (by decide) ?_
    refine gg_icmp_ge (tgt := 25) dX2_kindOf_5 (by decide) (fun c5 => ?_) (fun c5 => ?_)
    · exact absurd (n_le (a := 7) c5) (by omega)
    · refine gg_getst 1000003 dX2_kindOf_8 lks_58 (by decide) (fun _ _ _ _ h => h.2.2.2.1.1) ?_
      refine gg_iload_n dX2_kindOf_11 rfl rfl ?_
      refine gg_tald_c 1000003 (g) (by decide) (fun _ _ _ _ h => h.2.2.2.1.2) dX2_kindOf_12 rfl hg ?_
      refine gg_iload_n dX2_kindOf_13 rfl rfl ?_
      refine gg_icmp_ne (tgt := 19) dX2_kindOf_14 (by decide) (fun c14 => ?_) (fun c14 => ?_)
      · have e : ¬ (gl_LT g == a) = true := by simp [c14]
        refine gg_iinc (w := nI (g + 1)) dX2_kindOf_19 rfl (nI_1 g) (Nat.le_of_ble_eq_true rfl) rfl ?_
        refine gg_goto (tgt := 2) dX2_kindOf_22 (by decide) ?_
        exact ih (g + 1) (by omega) (by rw [if_neg e] at hQ; exact hQ)
      · have e : (gl_LT g == a) = true := by simp [c14]
        rw [if_pos e] at hQ
        refine gg_iload_n dX2_kindOf_17 rfl rfl ?_
        exact gg_ireturn dX2_kindOf_18 rfl rfl ⟨(Nat.le_of_ble_eq_true rfl), (Nat.le_of_ble_eq_true rfl)⟩ (hQ)
theorem sp_X2_kindOf (S : gl_H) (a : Int32) : Sp mX2_kindOf yX2_kindOf [.int a] S (fun r S1 => S1 = S ∧ r = some (.int (oI (kdO a)))) := by
  refine gl_enter (j := 1) (by decide +kernel) rfl (fun h => absurd h (by decide)) (Nat.le_of_ble_eq_true rfl) rfl (fun x => ?_)
  refine gg_iconst (v := 0) dX2_kindOf_0 (by decide) ?_
  refine gg_istore_n dX2_kindOf_1 rfl (Nat.le_of_ble_eq_true rfl) rfl ?_
  exact kd_loop x 7 0 rfl ⟨rfl, rfl⟩
theorem sp_X2_number {S : gl_H} {num dr : Nat → Int32} {pl : Nat} (hB : PB S num dr pl) {k : Nat} (hk : k < 7) : Sp mX2_number yX2_number [.ref 5, .int (nI k)] S (fun r S1 => S1 = S ∧ r = some (.int (num k))) := by
  refine gl_enter (j := 0) (by decide +kernel) rfl (fun h => absurd h (by decide)) (Nat.le_of_ble_eq_true rfl) rfl (fun x => ?_)
  refine gg_iload_n dX2_number_0 rfl rfl ?_
  refine gg_if_lt (tgt := 19) dX2_number_1 (by decide) (fun c1 => ?_) (fun c1 => ?_)
  · exact absurd c1 (nI_pos (by omega))
  · refine gg_iload_n dX2_number_4 rfl rfl ?_
    refine gg_bipush (v := 7) dX2_number_5 (by decide) ?_
    refine gg_icmp_ge (tgt := 19) dX2_number_7 (by decide) (fun c7 => ?_) (fun c7 => ?_)
    · exact absurd (n_le (a := 7) c7) (by omega)
    · refine gg_aload_n dX2_number_10 rfl rfl ?_
      refine gf_X2_11 rfl dX2_number_11 hB.1 rfl ?_
      refine gg_iload_n dX2_number_14 rfl rfl ?_
      refine gg_ald_i (k) dX2_number_15 hB.2.1 rfl hk (by decide) ?_
      refine gg_goto (tgt := 20) dX2_number_16 (by decide) ?_
      exact gg_ireturn dX2_number_20 rfl rfl ⟨(Nat.le_of_ble_eq_true rfl), (Nat.le_of_ble_eq_true rfl)⟩ (⟨rfl, rfl⟩)
def rdg (b : Nat → Int32) (n : Nat) : Nat → Int32 × Nat → Int32 × Nat
  | 0, s => s
  | m + 1, s => if dgB b n s.2 then rdg b n m (10 * s.1 + ccV b n s.2 - 48, s.2 + 1) else s
theorem PT.fr {S0 S : gl_H} {b : Nat → Int32} {t : Nat} (h : PT S0 b t) (hf : Fr 5 8 S0 S) : PT S b t := ⟨(hf 3 (by decide)).trans h.1, (hf 4 (by decide)).trans h.2⟩
theorem rg_loop {S0 : gl_H} {b num dr : Nat → Int32} {t n : Nat} (hT0 : PT S0 b t) (hn : n ≤ 60) (x : gl_X) {Q : Option Value → gl_H → Prop} : ∀ (m d : Nat), d + m = 4 → ∀ (v : Int32) (p : Nat) (S : gl_H), p + m < 1000 → PB S num dr p → Fr 5 8 S0 S → (∀ S1, PB S1 num dr (rdg b n m (v, p)).2 → Fr 5 8 S0 S1 → Q (some (.int (rdg b n m (v, p)).1)) S1) → GG mX2_readDigits x (gl_Z mX2_readDigits x Q) 5 [some (.ref 5), some (.ref 3), some (.int (nI n)), some (.int v), some (.int (nI d))] [] S (0, 0) := by
  intro m
  induction m with
  | zero =>
    intro d hm v p S hp hB hf hQ
    have e : d = 4 := by omega
    subst e
    refine gg_iload dX2_readDigits_5 rfl ?_
    refine gg_iconst (v := 4) dX2_readDigits_7 (by decide) ?_
    refine gg_icmp_ge (tgt := 60) dX2_readDigits_8 (by decide) (fun c8 => ?_) (fun c8 => ?_)
    · refine gg_iload_n dX2_readDigits_60 rfl rfl ?_
      exact gg_ireturn dX2_readDigits_61 rfl rfl ⟨(Nat.le_of_ble_eq_true rfl), (Nat.le_of_ble_eq_true rfl)⟩ (hQ S hB hf)
    · exact absurd (nI_le (Nat.le_refl 4) (by omega)) c8
  | succ m ih =>
    intro d hm v p S hp hB hf hQ
    have hT := hT0.fr hf
    have hT3 := hT.1
    have hT4 := hT.2
    have e0 : rdg b n (m + 1) (v, p) = if dgB b n p then rdg b n m (10 * v + ccV b n p - 48, p + 1) else (v, p) := rfl
    rw [e0] at hQ
    refine gg_iload dX2_readDigits_5 rfl ?_
    refine gg_iconst (v := 4) dX2_readDigits_7 (by decide) ?_
    refine gg_icmp_ge (tgt := 60) dX2_readDigits_8 (by decide) (fun c8 => ?_) (fun c8 => ?_)
    · exact absurd (n_le (a := 4) c8) (by omega)
    · refine gg_aload_n dX2_readDigits_11 rfl rfl ?_
      refine gg_aload_n dX2_readDigits_12 rfl rfl ?_
      refine gf_X2_27 rfl dX2_readDigits_13 hB.1 rfl ?_
      refine gg_iload_n dX2_readDigits_16 rfl rfl ?_
      refine gg_callV (sp_X3_signAt hT hn (show p < 2 ^ 30 by omega)) dX2_readDigits_17 kw_X2_35 rfl hT3 rfl rfl (Nat.le_of_ble_eq_true rfl) (Nat.le_of_ble_eq_true rfl) (Nat.le_of_ble_eq_true rfl) ⟨(Nat.le_of_ble_eq_true rfl), (Nat.le_of_ble_eq_true rfl)⟩ (fun r S1 hq => ?_)
      refine gg_k (k2 := (0, 0)) rfl ?_
      obtain ⟨e9, rfl⟩ := hq
      rw [e9]
      clear e9 S1
      refine gg_callS (sp_X2_isDigit S (sgV b n p)) dX2_readDigits_20 kw_X2_45 rfl rfl (Nat.le_of_ble_eq_true rfl) (Nat.le_of_ble_eq_true rfl) (Nat.le_of_ble_eq_true rfl) ⟨(Nat.le_of_ble_eq_true rfl), (Nat.le_of_ble_eq_true rfl)⟩ (fun r S1 hq => ?_)
      refine gg_k (k2 := (0, 0)) rfl ?_
      obtain ⟨e9, rfl⟩ := hq
      rw [e9, sg_dig]
      clear e9 S1
      refine gg_if_eq (tgt := 60) dX2_readDigits_23 (by decide) (fun c23 => ?_) (fun c23 => ?_)
      · have c23 := bI_z c23
        rw [if_neg (by rw [c23]; decide)] at hQ
        refine gg_iload_n dX2_readDigits_60 rfl rfl ?_
        exact gg_ireturn dX2_readDigits_61 rfl rfl ⟨(Nat.le_of_ble_eq_true rfl), (Nat.le_of_ble_eq_true rfl)⟩ (hQ S hB hf)
      · have c23 := bI_nz c23
        refine gg_bipush (v := 10) dX2_readDigits_26 (by decide) ?_
        refine gg_iload_n dX2_readDigits_28 rfl rfl ?_
        refine gg_imul dX2_readDigits_29 ?_
        refine gg_aload_n dX2_readDigits_30 rfl rfl ?_
        refine gg_aload_n dX2_readDigits_31 rfl rfl ?_
        refine gf_X2_27 rfl dX2_readDigits_32 hB.1 rfl ?_
        refine gg_iload_n dX2_readDigits_35 rfl rfl ?_
        refine gg_callV (sp_X3_signAt hT hn (show p < 2 ^ 30 by omega)) dX2_readDigits_36 kw_X2_35 rfl hT3 rfl rfl (Nat.le_of_ble_eq_true rfl) (Nat.le_of_ble_eq_true rfl) (Nat.le_of_ble_eq_true rfl) ⟨(Nat.le_of_ble_eq_true rfl), (Nat.le_of_ble_eq_true rfl)⟩ (fun r S1 hq => ?_)
        refine gg_k (k2 := (0, 0)) rfl ?_
        obtain ⟨e9, rfl⟩ := hq
        rw [e9, sg_cc (dg_lt c23)]
        clear e9 S1
        refine gg_iadd dX2_readDigits_39 ?_
        refine gg_bipush (v := 48) dX2_readDigits_40 (by decide) ?_
        refine gg_isub dX2_readDigits_42 ?_
        refine gg_istore_n dX2_readDigits_43 rfl (Nat.le_of_ble_eq_true rfl) rfl ?_
        refine gg_aload_n dX2_readDigits_44 rfl rfl ?_
        refine gg_dup dX2_readDigits_45 rfl ?_
        refine gf_X2_27 rfl dX2_readDigits_46 hB.1 rfl ?_
        refine gg_iconst (v := 1) dX2_readDigits_49 (by decide) ?_
        refine gg_iadd dX2_readDigits_50 ?_
        refine pf_X2_27 rfl dX2_readDigits_51 hB.1 (Nat.le_of_ble_eq_true rfl) ?_
        refine PBs_pl (p + 1) (nI_1 p) hB hf (fun S hB hf => ?_)
        refine gg_iinc (w := nI (d + 1)) dX2_readDigits_54 rfl (nI_1 d) (Nat.le_of_ble_eq_true rfl) rfl ?_
        refine gg_goto (tgt := 5) dX2_readDigits_57 (by decide) ?_
        refine ih (d + 1) (by omega) (10 * v + ccV b n p - 48) (p + 1) S (by omega) hB hf ?_
        rw [if_pos c23] at hQ
        exact hQ
theorem sp_X2_readDigits {S : gl_H} {b num dr : Nat → Int32} {t n p : Nat} (hT : PT S b t) (hB : PB S num dr p) (hn : n ≤ 60) (hp : p < 900) : Sp mX2_readDigits yX2_readDigits [.ref 5, .ref 3, .int (nI n)] S (fun r S1 => r = some (.int (rdg b n 4 (0, p)).1) ∧ PB S1 num dr (rdg b n 4 (0, p)).2 ∧ Fr 5 8 S S1) := by
  refine gl_enter (j := 2) (by decide +kernel) rfl (fun h => absurd h (by decide)) (Nat.le_of_ble_eq_true rfl) rfl (fun x => ?_)
  refine gg_iconst (v := 0) dX2_readDigits_0 (by decide) ?_
  refine gg_istore_n dX2_readDigits_1 rfl (Nat.le_of_ble_eq_true rfl) rfl ?_
  refine gg_iconst (v := 0) dX2_readDigits_2 (by decide) ?_
  refine gg_istore dX2_readDigits_3 (Nat.le_of_ble_eq_true rfl) rfl ?_
  exact rg_loop hT hn x 4 0 rfl 0 p S (by omega) hB Fr.rf (fun S1 h1 h2 => ⟨rfl, h1, h2⟩)
def clQ (b : Nat → Int32) (n p : Nat) (dr : Nat → Int32) (k : Nat) (r : Int32 × Nat) : Nat × Nat × (Nat → Int32) := if dgB b n (p + 1) = false then (2, p + 1, dr) else if dgB b n r.2 then (3, r.2, dr) else if r.1 < gl_LE k ∨ gl_MO k < r.1 then (4, p + 1, dr) else if r.2 < n ∧ ccV b n r.2 ≠ 59 then (5, r.2, upd dr k r.1) else (0, r.2, upd dr k r.1)
def clR (b : Nat → Int32) (n p : Nat) (dr : Nat → Int32) : Nat × Nat × (Nat → Int32) :=
  match kdO (ccV b n p) with
  | none => (1, p, dr)
  | some k => clQ b n p dr k (rdg b n 4 (0, p + 1))
theorem rdg_le (b : Nat → Int32) (n : Nat) : ∀ (m : Nat) (s : Int32 × Nat), s.2 ≤ (rdg b n m s).2 ∧ (rdg b n m s).2 ≤ s.2 + m ∧ (s.2 ≤ n → (rdg b n m s).2 ≤ n)
  | 0, s => ⟨Nat.le_refl _, Nat.le_refl _, id⟩
  | m + 1, s => by
    show s.2 ≤ (if dgB b n s.2 then rdg b n m (10 * s.1 + ccV b n s.2 - 48, s.2 + 1) else s).2 ∧ (if dgB b n s.2 then rdg b n m (10 * s.1 + ccV b n s.2 - 48, s.2 + 1) else s).2 ≤ s.2 + (m + 1) ∧ (s.2 ≤ n → (if dgB b n s.2 then rdg b n m (10 * s.1 + ccV b n s.2 - 48, s.2 + 1) else s).2 ≤ n)
    by_cases h : dgB b n s.2 = true
    · rw [if_pos h]
      have ih := rdg_le b n m (10 * s.1 + ccV b n s.2 - 48, s.2 + 1)
      have hl := dg_lt h
      have i1 : s.2 + 1 ≤ (rdg b n m (10 * s.1 + ccV b n s.2 - 48, s.2 + 1)).2 := ih.1
      have i2 : (rdg b n m (10 * s.1 + ccV b n s.2 - 48, s.2 + 1)).2 ≤ s.2 + 1 + m := ih.2.1
      exact ⟨by omega, by omega, fun _ => ih.2.2 (show s.2 + 1 ≤ n by omega)⟩
    · rw [if_neg h]
      exact ⟨Nat.le_refl _, by omega, id⟩
theorem ffst_lt {p : Nat → Bool} : ∀ {m g k : Nat}, ffst p g m = some k → g ≤ k ∧ k < g + m ∧ p k = true
  | 0, g, k, h => by cases h
  | m + 1, g, k, h => by
    have h' : (if p g then some g else ffst p (g + 1) m) = some k := h
    by_cases c : p g = true
    · rw [if_pos c] at h'
      cases h'
      exact ⟨Nat.le_refl _, by omega, c⟩
    · rw [if_neg c] at h'
      obtain ⟨h1, h2, h3⟩ := ffst_lt h'
      exact ⟨by omega, by omega, h3⟩
theorem nI_m1 {k : Nat} (h : k < 2 ^ 31) : ¬ nI k = -1 := fun e => nI_pos h (by rw [e]; decide)
theorem sp_X2_readClause {S : gl_H} {b num dr : Nat → Int32} {t n p : Nat} (hT : PT S b t) (hB : PB S num dr p) (hn : n ≤ 60) (hp : p ≤ 800) : Sp mX2_readClause yX2_readClause [.ref 5, .ref 3, .int (nI n)] S (fun r S1 => r = some (.int (nI (clR b n p dr).1)) ∧ PB S1 num (clR b n p dr).2.2 (clR b n p dr).2.1 ∧ Fr 5 8 S S1) := by
  refine gl_enter (j := 3) (by decide +kernel) rfl (fun h => absurd h (by decide)) (Nat.le_of_ble_eq_true rfl) rfl (fun x => ?_)
  have hf : Fr 5 8 S S := Fr.rf
  have hT0 := hT
  have hT3 := hT.1
  have hT4 := hT.2
  cases hk : kdO (ccV b n p) with
  | none =>
    have ec : clR b n p dr = (1, p, dr) := by unfold clR; rw [hk]
    rw [ec]
    refine gg_aload_n dX2_readClause_0 rfl rfl ?_
    refine gg_aload_n dX2_readClause_1 rfl rfl ?_
    refine gf_X2_27 rfl dX2_readClause_2 hB.1 rfl ?_
    refine gg_iload_n dX2_readClause_5 rfl rfl ?_
    refine gg_callV (sp_X3_signAt hT hn (show p < 2 ^ 30 by omega)) dX2_readClause_6 kw_X2_35 rfl hT3 rfl rfl (Nat.le_of_ble_eq_true rfl) (Nat.le_of_ble_eq_true rfl) (Nat.le_of_ble_eq_true rfl) ⟨(Nat.le_of_ble_eq_true rfl), (Nat.le_of_ble_eq_true rfl)⟩ (fun r S1 hq => ?_)
    refine gg_k (k2 := (0, 0)) rfl ?_
    obtain ⟨e9, rfl⟩ := hq
    rw [e9]
    clear e9 S1
    refine gg_callS (sp_X2_kindOf S (sgV b n p)) dX2_readClause_9 kw_X2_41 rfl rfl (Nat.le_of_ble_eq_true rfl) (Nat.le_of_ble_eq_true rfl) (Nat.le_of_ble_eq_true rfl) ⟨(Nat.le_of_ble_eq_true rfl), (Nat.le_of_ble_eq_true rfl)⟩ (fun r S1 hq => ?_)
    refine gg_k (k2 := (0, 0)) rfl ?_
    obtain ⟨e9, rfl⟩ := hq
    rw [e9, sg_kd, hk]
    clear e9 S1
    refine gg_istore_n dX2_readClause_12 rfl (Nat.le_of_ble_eq_true rfl) rfl ?_
    refine gg_iload_n dX2_readClause_13 rfl rfl ?_
    refine gg_iconst (v := -1) dX2_readClause_14 (by decide) ?_
    refine gg_icmp_ne (tgt := 20) dX2_readClause_15 (by decide) (fun c15 => ?_) (fun c15 => ?_)
    · exact absurd rfl c15
    · refine gg_iconst (v := 1) dX2_readClause_18 (by decide) ?_
      exact gg_ireturn dX2_readClause_19 rfl rfl ⟨(Nat.le_of_ble_eq_true rfl), (Nat.le_of_ble_eq_true rfl)⟩ (⟨rfl, hB, hf⟩)
  | some k =>
    have hk7 : k < 7 := (ffst_lt hk).2.1
    have hrl := rdg_le b n 4 (0, p + 1)
    have ec : clR b n p dr = clQ b n p dr k (rdg b n 4 (0, p + 1)) := by unfold clR; rw [hk]
    rw [ec]
    refine gg_aload_n dX2_readClause_0 rfl rfl ?_
    refine gg_aload_n dX2_readClause_1 rfl rfl ?_
    refine gf_X2_27 rfl dX2_readClause_2 hB.1 rfl ?_
    refine gg_iload_n dX2_readClause_5 rfl rfl ?_
    refine gg_callV (sp_X3_signAt hT hn (show p < 2 ^ 30 by omega)) dX2_readClause_6 kw_X2_35 rfl hT3 rfl rfl (Nat.le_of_ble_eq_true rfl) (Nat.le_of_ble_eq_true rfl) (Nat.le_of_ble_eq_true rfl) ⟨(Nat.le_of_ble_eq_true rfl), (Nat.le_of_ble_eq_true rfl)⟩ (fun r S1 hq => ?_)
    refine gg_k (k2 := (0, 0)) rfl ?_
    obtain ⟨e9, rfl⟩ := hq
    rw [e9]
    clear e9 S1
    refine gg_callS (sp_X2_kindOf S (sgV b n p)) dX2_readClause_9 kw_X2_41 rfl rfl (Nat.le_of_ble_eq_true rfl) (Nat.le_of_ble_eq_true rfl) (Nat.le_of_ble_eq_true rfl) ⟨(Nat.le_of_ble_eq_true rfl), (Nat.le_of_ble_eq_true rfl)⟩ (fun r S1 hq => ?_)
    refine gg_k (k2 := (0, 0)) rfl ?_
    obtain ⟨e9, rfl⟩ := hq
    rw [e9, sg_kd, hk]
    clear e9 S1
    refine gg_istore_n dX2_readClause_12 rfl (Nat.le_of_ble_eq_true rfl) rfl ?_
    refine gg_iload_n dX2_readClause_13 rfl rfl ?_
    refine gg_iconst (v := -1) dX2_readClause_14 (by decide) ?_
    refine gg_icmp_ne (tgt := 20) dX2_readClause_15 (by decide) (fun c15 => ?_) (fun c15 => ?_)
    · refine gg_aload_n dX2_readClause_20 rfl rfl ?_
      refine gg_dup dX2_readClause_21 rfl ?_
      refine gf_X2_27 rfl dX2_readClause_22 hB.1 rfl ?_
      refine gg_iconst (v := 1) dX2_readClause_25 (by decide) ?_
      refine gg_iadd dX2_readClause_26 ?_
      refine pf_X2_27 rfl dX2_readClause_27 hB.1 (Nat.le_of_ble_eq_true rfl) ?_
      refine PBs_pl (p + 1) (nI_1 p) hB hf (fun S hB hf => ?_)
      have hT := hT0.fr hf
      have hT3 := hT.1
      have hT4 := hT.2
      refine gg_aload_n dX2_readClause_30 rfl rfl ?_
      refine gg_aload_n dX2_readClause_31 rfl rfl ?_
      refine gf_X2_27 rfl dX2_readClause_32 hB.1 rfl ?_
      refine gg_iload_n dX2_readClause_35 rfl rfl ?_
      refine gg_callV (sp_X3_signAt hT hn (show p + 1 < 2 ^ 30 by omega)) dX2_readClause_36 kw_X2_35 rfl hT3 rfl rfl (Nat.le_of_ble_eq_true rfl) (Nat.le_of_ble_eq_true rfl) (Nat.le_of_ble_eq_true rfl) ⟨(Nat.le_of_ble_eq_true rfl), (Nat.le_of_ble_eq_true rfl)⟩ (fun r S1 hq => ?_)
      refine gg_k (k2 := (0, 0)) rfl ?_
      obtain ⟨e9, rfl⟩ := hq
      rw [e9]
      clear e9 S1
      refine gg_callS (sp_X2_isDigit S (sgV b n (p + 1))) dX2_readClause_39 kw_X2_45 rfl rfl (Nat.le_of_ble_eq_true rfl) (Nat.le_of_ble_eq_true rfl) (Nat.le_of_ble_eq_true rfl) ⟨(Nat.le_of_ble_eq_true rfl), (Nat.le_of_ble_eq_true rfl)⟩ (fun r S1 hq => ?_)
      refine gg_k (k2 := (0, 0)) rfl ?_
      obtain ⟨e9, rfl⟩ := hq
      rw [e9, sg_dig]
      clear e9 S1
      refine gg_if_ne (tgt := 47) dX2_readClause_42 (by decide) (fun c42 => ?_) (fun c42 => ?_)
      · have c42 := bI_nz c42
        refine gg_aload_n dX2_readClause_47 rfl rfl ?_
        refine gf_X2_27 rfl dX2_readClause_48 hB.1 rfl ?_
        refine gg_istore dX2_readClause_51 (Nat.le_of_ble_eq_true rfl) rfl ?_
        refine gg_aload_n dX2_readClause_53 rfl rfl ?_
        refine gg_aload_n dX2_readClause_54 rfl rfl ?_
        refine gg_iload_n dX2_readClause_55 rfl rfl ?_
        refine gg_callV (sp_X2_readDigits hT hB hn (show p + 1 < 900 by omega)) dX2_readClause_56 kw_X2_49 rfl hB.1 rfl rfl (Nat.le_of_ble_eq_true rfl) (Nat.le_of_ble_eq_true rfl) (Nat.le_of_ble_eq_true rfl) ⟨(Nat.le_of_ble_eq_true rfl), (Nat.le_of_ble_eq_true rfl)⟩ (fun r S1 hq => ?_)
        refine gg_k (k2 := (0, 0)) rfl ?_
        obtain ⟨rfl, hB, hf1⟩ := hq
        have hf := hf.tr hf1
        clear hf1
        generalize hrr : rdg b n 4 (0, p + 1) = rr at hB hrl ⊢
        obtain ⟨v, q⟩ := rr
        have hq1 : p + 1 ≤ q := hrl.1
        have hq2 : q ≤ p + 1 + 4 := hrl.2.1
        revert S1
        intro S hf hB
        have hT := hT0.fr hf
        have hT3 := hT.1
        have hT4 := hT.2
        refine gg_istore dX2_readClause_59 (Nat.le_of_ble_eq_true rfl) rfl ?_
        refine gg_aload_n dX2_readClause_61 rfl rfl ?_
        refine gg_aload_n dX2_readClause_62 rfl rfl ?_
        refine gf_X2_27 rfl dX2_readClause_63 hB.1 rfl ?_
        refine gg_iload_n dX2_readClause_66 rfl rfl ?_
        refine gg_callV (sp_X3_signAt hT hn (show q < 2 ^ 30 by omega)) dX2_readClause_67 kw_X2_35 rfl hT3 rfl rfl (Nat.le_of_ble_eq_true rfl) (Nat.le_of_ble_eq_true rfl) (Nat.le_of_ble_eq_true rfl) ⟨(Nat.le_of_ble_eq_true rfl), (Nat.le_of_ble_eq_true rfl)⟩ (fun r S1 hq => ?_)
        refine gg_k (k2 := (0, 0)) rfl ?_
        obtain ⟨e9, rfl⟩ := hq
        rw [e9]
        clear e9 S1
        refine gg_callS (sp_X2_isDigit S (sgV b n q)) dX2_readClause_70 kw_X2_45 rfl rfl (Nat.le_of_ble_eq_true rfl) (Nat.le_of_ble_eq_true rfl) (Nat.le_of_ble_eq_true rfl) ⟨(Nat.le_of_ble_eq_true rfl), (Nat.le_of_ble_eq_true rfl)⟩ (fun r S1 hq => ?_)
        refine gg_k (k2 := (0, 0)) rfl ?_
        obtain ⟨e9, rfl⟩ := hq
        rw [e9, sg_dig]
        clear e9 S1
        refine gg_if_eq (tgt := 78) dX2_readClause_73 (by decide) (fun c73 => ?_) (fun c73 => ?_)
        · have c73 := bI_z c73
          refine gg_iload dX2_readClause_78 rfl ?_
          refine gg_getst 1000001 dX2_readClause_80 lks_52 (by decide) (fun _ _ _ _ h => h.2.1.1) ?_
          refine gg_iload_n dX2_readClause_83 rfl rfl ?_
          refine gg_tald_i 1000001 (k) (by decide) (fun _ _ _ _ h => h.2.1.2) dX2_readClause_84 rfl hk7 ?_
          refine gg_icmp_lt (tgt := 98) dX2_readClause_85 (by decide) (fun c85 => ?_) (fun c85 => ?_)
          · have c85 : v < gl_LE k ∨ gl_MO k < v := Or.inl c85
            refine gg_aload_n dX2_readClause_98 rfl rfl ?_
            refine gg_iload dX2_readClause_99 rfl ?_
            refine pf_X2_27 rfl dX2_readClause_101 hB.1 (Nat.le_of_ble_eq_true rfl) ?_
            refine PBs_pl (p + 1) rfl hB hf (fun S hB hf => ?_)
            refine gg_iconst (v := 4) dX2_readClause_104 (by decide) ?_
            have e : clQ b n p dr k (v, q) = (4, p + 1, dr) := by unfold clQ; dsimp only; rw [if_neg (by rw [c42]; decide), if_neg (by rw [c73]; decide), if_pos c85]
            rw [e]
            exact gg_ireturn dX2_readClause_105 rfl rfl ⟨(Nat.le_of_ble_eq_true rfl), (Nat.le_of_ble_eq_true rfl)⟩ (⟨rfl, hB, hf⟩)
          · refine gg_iload dX2_readClause_88 rfl ?_
            refine gg_getst 1000002 dX2_readClause_90 lks_55 (by decide) (fun _ _ _ _ h => h.2.2.1.1) ?_
            refine gg_iload_n dX2_readClause_93 rfl rfl ?_
            refine gg_tald_i 1000002 (k) (by decide) (fun _ _ _ _ h => h.2.2.1.2) dX2_readClause_94 rfl hk7 ?_
            refine gg_icmp_le (tgt := 106) dX2_readClause_95 (by decide) (fun c95 => ?_) (fun c95 => ?_)
            · have c85 : ¬ (v < gl_LE k ∨ gl_MO k < v) := fun z => z.elim c85 (fun y => Int32.not_lt.mpr c95 y)
              refine gg_aload_n dX2_readClause_106 rfl rfl ?_
              refine gf_X2_15 rfl dX2_readClause_107 hB.1 rfl ?_
              refine gg_iload_n dX2_readClause_110 rfl rfl ?_
              refine gg_iload dX2_readClause_111 rfl ?_
              refine gg_ast_i (k) dX2_readClause_113 hB.2.2 rfl hk7 (by decide) ?_
              refine PBs_dr hB hf (fun S hB hf => ?_)
              have hT := hT0.fr hf
              have hT3 := hT.1
              have hT4 := hT.2
              refine gg_aload_n dX2_readClause_114 rfl rfl ?_
              refine gf_X2_27 rfl dX2_readClause_115 hB.1 rfl ?_
              refine gg_iload_n dX2_readClause_118 rfl rfl ?_
              refine gg_icmp_ge (tgt := 140) dX2_readClause_119 (by decide) (fun c119 => ?_) (fun c119 => ?_)
              · have e5 : ¬ (q < n ∧ ccV b n q ≠ 59) := fun z => absurd z.1 (by have := n_le c119; omega)
                refine gg_iconst (v := 0) dX2_readClause_140 (by decide) ?_
                first
                  | rw [show clQ b n p dr k (v, q) = (5, q, upd dr k v) by unfold clQ; dsimp only; rw [if_neg (by rw [c42]; decide), if_neg (by rw [c73]; decide), if_neg c85, if_pos e5]]
                  | rw [show clQ b n p dr k (v, q) = (0, q, upd dr k v) by unfold clQ; dsimp only; rw [if_neg (by rw [c42]; decide), if_neg (by rw [c73]; decide), if_neg c85, if_neg e5]]
                exact gg_ireturn dX2_readClause_141 rfl rfl ⟨(Nat.le_of_ble_eq_true rfl), (Nat.le_of_ble_eq_true rfl)⟩ (⟨rfl, hB, hf⟩)
              · have c119 := n_nle c119
                refine gg_aload_n dX2_readClause_122 rfl rfl ?_
                refine gg_aload_n dX2_readClause_123 rfl rfl ?_
                refine gf_X2_27 rfl dX2_readClause_124 hB.1 rfl ?_
                refine gg_iload_n dX2_readClause_127 rfl rfl ?_
                refine gg_callV (sp_X3_signAt hT hn (show q < 2 ^ 30 by omega)) dX2_readClause_128 kw_X2_35 rfl hT3 rfl rfl (Nat.le_of_ble_eq_true rfl) (Nat.le_of_ble_eq_true rfl) (Nat.le_of_ble_eq_true rfl) ⟨(Nat.le_of_ble_eq_true rfl), (Nat.le_of_ble_eq_true rfl)⟩ (fun r S1 hq => ?_)
                refine gg_k (k2 := (0, 0)) rfl ?_
                obtain ⟨e9, rfl⟩ := hq
                rw [e9, sg_cc c119]
                clear e9 S1
                refine gg_bipush (v := 59) dX2_readClause_131 (by decide) ?_
                refine gg_icmp_eq (tgt := 140) dX2_readClause_133 (by decide) (fun c133 => ?_) (fun c133 => ?_)
                · have e5 : ¬ (q < n ∧ ccV b n q ≠ 59) := fun z => z.2 c133
                  refine gg_iconst (v := 0) dX2_readClause_140 (by decide) ?_
                  first
                    | rw [show clQ b n p dr k (v, q) = (5, q, upd dr k v) by unfold clQ; dsimp only; rw [if_neg (by rw [c42]; decide), if_neg (by rw [c73]; decide), if_neg c85, if_pos e5]]
                    | rw [show clQ b n p dr k (v, q) = (0, q, upd dr k v) by unfold clQ; dsimp only; rw [if_neg (by rw [c42]; decide), if_neg (by rw [c73]; decide), if_neg c85, if_neg e5]]
                  exact gg_ireturn dX2_readClause_141 rfl rfl ⟨(Nat.le_of_ble_eq_true rfl), (Nat.le_of_ble_eq_true rfl)⟩ (⟨rfl, hB, hf⟩)
                · have e5 : q < n ∧ ccV b n q ≠ 59 := ⟨c119, c133⟩
                  refine gg_iconst (v := 5) dX2_readClause_136 (by decide) ?_
                  refine gg_goto (tgt := 141) dX2_readClause_137 (by decide) ?_
                  first
                    | rw [show clQ b n p dr k (v, q) = (5, q, upd dr k v) by unfold clQ; dsimp only; rw [if_neg (by rw [c42]; decide), if_neg (by rw [c73]; decide), if_neg c85, if_pos e5]]
                    | rw [show clQ b n p dr k (v, q) = (0, q, upd dr k v) by unfold clQ; dsimp only; rw [if_neg (by rw [c42]; decide), if_neg (by rw [c73]; decide), if_neg c85, if_neg e5]]
                  exact gg_ireturn dX2_readClause_141 rfl rfl ⟨(Nat.le_of_ble_eq_true rfl), (Nat.le_of_ble_eq_true rfl)⟩ (⟨rfl, hB, hf⟩)
            · have c85 : v < gl_LE k ∨ gl_MO k < v := Or.inr (Int32.not_le.mp c95)
              refine gg_aload_n dX2_readClause_98 rfl rfl ?_
              refine gg_iload dX2_readClause_99 rfl ?_
              refine pf_X2_27 rfl dX2_readClause_101 hB.1 (Nat.le_of_ble_eq_true rfl) ?_
              refine PBs_pl (p + 1) rfl hB hf (fun S hB hf => ?_)
              refine gg_iconst (v := 4) dX2_readClause_104 (by decide) ?_
              have e : clQ b n p dr k (v, q) = (4, p + 1, dr) := by unfold clQ; dsimp only; rw [if_neg (by rw [c42]; decide), if_neg (by rw [c73]; decide), if_pos c85]
              rw [e]
              exact gg_ireturn dX2_readClause_105 rfl rfl ⟨(Nat.le_of_ble_eq_true rfl), (Nat.le_of_ble_eq_true rfl)⟩ (⟨rfl, hB, hf⟩)
        · have c73 := bI_nz c73
          refine gg_iconst (v := 3) dX2_readClause_76 (by decide) ?_
          have e : clQ b n p dr k (v, q) = (3, q, dr) := by unfold clQ; dsimp only; rw [if_neg (by rw [c42]; decide), if_pos c73]
          rw [e]
          exact gg_ireturn dX2_readClause_77 rfl rfl ⟨(Nat.le_of_ble_eq_true rfl), (Nat.le_of_ble_eq_true rfl)⟩ (⟨rfl, hB, hf⟩)
      · have c42 := bI_z c42
        refine gg_iconst (v := 2) dX2_readClause_45 (by decide) ?_
        rw [show clQ b n p dr k (rdg b n 4 (0, p + 1)) = (2, p + 1, dr) from if_pos c42]
        exact gg_ireturn dX2_readClause_46 rfl rfl ⟨(Nat.le_of_ble_eq_true rfl), (Nat.le_of_ble_eq_true rfl)⟩ (⟨rfl, hB, hf⟩)
    · exact absurd c15 (nI_m1 (by omega))
def rdL (b : Nat → Int32) (n : Nat) : Nat → Nat → (Nat → Int32) → Int32 × Option (Nat → Int32)
  | 0, _, _ => (0, none)
  | f + 1, p, dr => if (clR b n p dr).1 ≠ 0 then (nI (100 * (clR b n p dr).1 + (clR b n p dr).2.1), none) else if n ≤ (clR b n p dr).2.1 then (0, some (clR b n p dr).2.2) else rdL b n f ((clR b n p dr).2.1 + 1) (clR b n p dr).2.2
theorem clR_pos (b : Nat → Int32) (n p : Nat) (dr : Nat → Int32) : (clR b n p dr).1 ≤ 5 ∧ p ≤ (clR b n p dr).2.1 ∧ (clR b n p dr).2.1 ≤ p + 5 ∧ ((clR b n p dr).1 = 0 → p + 2 ≤ (clR b n p dr).2.1 ∧ (clR b n p dr).2.1 ≤ n) := by
  unfold clR
  have hrl := rdg_le b n 4 (0, p + 1)
  have hd4 : dgB b n (p + 1) = true → p + 2 ≤ (rdg b n 4 (0, p + 1)).2 ∧ (rdg b n 4 (0, p + 1)).2 ≤ n := fun h => by
    have hl := dg_lt h
    have e : rdg b n 4 (0, p + 1) = rdg b n 3 (10 * 0 + ccV b n (p + 1) - 48, p + 1 + 1) := if_pos h
    rw [e]
    have h3 := rdg_le b n 3 (10 * 0 + ccV b n (p + 1) - 48, p + 1 + 1)
    exact ⟨h3.1, h3.2.2 hl⟩
  generalize rdg b n 4 (0, p + 1) = rr at hrl hd4
  obtain ⟨v, q⟩ := rr
  have hq1 : p + 1 ≤ q := hrl.1
  have hq2 : q ≤ p + 1 + 4 := hrl.2.1
  cases kdO (ccV b n p) with
  | none => exact ⟨Nat.le_of_ble_eq_true rfl, Nat.le_refl _, Nat.le_add_right _ _, fun z => by cases z⟩
  | some k =>
    dsimp only
    unfold clQ
    dsimp only
    by_cases c1 : dgB b n (p + 1) = false
    · rw [if_pos c1]; exact ⟨Nat.le_of_ble_eq_true rfl, Nat.le_add_right _ _, by show p + 1 ≤ p + 5; omega, fun z => by cases z⟩
    · rw [if_neg c1]
      have hd := hd4 (by cases h : dgB b n (p + 1); exact absurd h c1; rfl)
      split
      · exact ⟨Nat.le_of_ble_eq_true rfl, by show p ≤ q; omega, by show q ≤ p + 5; omega, fun z => by cases z⟩
      · split
        · exact ⟨Nat.le_of_ble_eq_true rfl, Nat.le_add_right _ _, by show p + 1 ≤ p + 5; omega, fun z => by cases z⟩
        · split
          · exact ⟨Nat.le_of_ble_eq_true rfl, by show p ≤ q; omega, by show q ≤ p + 5; omega, fun z => by cases z⟩
          · exact ⟨Nat.le_of_ble_eq_true rfl, by show p ≤ q; omega, by show q ≤ p + 5; omega, fun _ => hd⟩
theorem re_loop {S0 : gl_H} {b num : Nat → Int32} {t n : Nat} (hT0 : PT S0 b t) (hn : n ≤ 60) (x : gl_X) : ∀ (m c : Nat), c + m = n + 1 → ∀ (p : Nat) (dr : Nat → Int32) (S : gl_H), 3 * c ≤ p → p ≤ n → PB S num dr p → Fr 5 8 S0 S → GG mX2_read x (gl_Z mX2_read x (fun r S1 => r = some (.int (rdL b n m p dr).1) ∧ (∃ num1 dr1 pl1, (∀ j, j < 7 → num1 j = ((rdL b n m p dr).2.getD num) j) ∧ PB S1 num1 dr1 pl1) ∧ Fr 5 8 S0 S1)) 21 [some (.ref 5), some (.ref 3), some (.int (nI n)), some (.int (nI c)), none] [] S (0, 0) := by
  intro m
  induction m with
  | zero =>
    intro c hm p dr S h3 hpn hB hf
    omega
  | succ m ih =>
    intro c hm p dr S h3 hpn hB hf
    have hT := hT0.fr hf
    have hT3 := hT.1
    have hT4 := hT.2
    have hcl := clR_pos b n p dr
    have e0 : rdL b n (m + 1) p dr = if (clR b n p dr).1 ≠ 0 then (nI (100 * (clR b n p dr).1 + (clR b n p dr).2.1), none) else if n ≤ (clR b n p dr).2.1 then (0, some (clR b n p dr).2.2) else rdL b n m ((clR b n p dr).2.1 + 1) (clR b n p dr).2.2 := rfl
    rw [e0]
    refine gg_iload_n dX2_read_21 rfl rfl ?_
    refine gg_iload_n dX2_read_22 rfl rfl ?_
    refine gg_icmp_gt (tgt := 77) dX2_read_23 (by decide) (fun c23 => ?_) (fun c23 => ?_)
    · exact absurd (n_lt c23) (by omega)
    · refine gg_aload_n dX2_read_26 rfl rfl ?_
      refine gg_aload_n dX2_read_27 rfl rfl ?_
      refine gg_iload_n dX2_read_28 rfl rfl ?_
      refine gg_callV (sp_X2_readClause hT hB hn (show p ≤ 800 by omega)) dX2_read_29 kw_X2_31 rfl hB.1 rfl rfl (Nat.le_of_ble_eq_true rfl) (Nat.le_of_ble_eq_true rfl) (Nat.le_of_ble_eq_true rfl) ⟨(Nat.le_of_ble_eq_true rfl), (Nat.le_of_ble_eq_true rfl)⟩ (fun r S1 hq => ?_)
      refine gg_k (k2 := (0, 0)) rfl ?_
      obtain ⟨rfl, hB, hf1⟩ := hq
      have hf := hf.tr hf1
      clear hf1
      generalize hcc : clR b n p dr = cr at hB hcl ⊢
      obtain ⟨co, q, d2⟩ := cr
      have hc1 : co ≤ 5 := hcl.1
      have hc2 : p ≤ q := hcl.2.1
      have hc3 : q ≤ p + 5 := hcl.2.2.1
      have hc4 : co = 0 → p + 2 ≤ q ∧ q ≤ n := hcl.2.2.2
      revert S1
      intro S hf hB
      refine gg_istore dX2_read_32 (Nat.le_of_ble_eq_true rfl) rfl ?_
      refine gg_iload dX2_read_34 rfl ?_
      refine gg_if_eq (tgt := 50) dX2_read_36 (by decide) (fun c36 => ?_) (fun c36 => ?_)
      · have c36 : co = 0 := n_eq (b := 0) c36
        refine gg_aload_n dX2_read_50 rfl rfl ?_
        refine gf_X2_27 rfl dX2_read_51 hB.1 rfl ?_
        refine gg_iload_n dX2_read_54 rfl rfl ?_
        refine gg_icmp_lt (tgt := 61) dX2_read_55 (by decide) (fun c55 => ?_) (fun c55 => ?_)
        · have c55 : q < n := n_lt c55
          refine gg_aload_n dX2_read_61 rfl rfl ?_
          refine gg_dup dX2_read_62 rfl ?_
          refine gf_X2_27 rfl dX2_read_63 hB.1 rfl ?_
          refine gg_iconst (v := 1) dX2_read_66 (by decide) ?_
          refine gg_iadd dX2_read_67 ?_
          refine pf_X2_27 rfl dX2_read_68 hB.1 (Nat.le_of_ble_eq_true rfl) ?_
          refine PBs_pl (q + 1) (nI_1 q) hB hf (fun S hB hf => ?_)
          refine gg_iinc (w := nI (c + 1)) dX2_read_71 rfl (nI_1 c) (Nat.le_of_ble_eq_true rfl) rfl ?_
          refine gg_goto (tgt := 21) dX2_read_74 (by decide) ?_
          rw [if_neg (fun z => z c36), if_neg (Nat.not_le.mpr c55)]
          refine gg_fg [true, true, true, true, false] ?_
          exact ih (c + 1) (by omega) (q + 1) d2 S (by omega) (by omega) hB hf
        · have c55 : n ≤ q := n_nlt c55
          refine gg_goto (tgt := 77) dX2_read_58 (by decide) ?_
          refine gg_aload_n dX2_read_77 rfl rfl ?_
          refine gf_X2_15 rfl dX2_read_78 hB.1 rfl ?_
          refine gg_iconst (v := 0) dX2_read_81 (by decide) ?_
          refine gg_aload_n dX2_read_82 rfl rfl ?_
          refine gf_X2_11 rfl dX2_read_83 hB.1 rfl ?_
          refine gg_iconst (v := 0) dX2_read_86 (by decide) ?_
          refine gg_bipush (v := 7) dX2_read_87 (by decide) ?_
          refine gg_copyi 7 dX2_read_89 kw_X2_21 hB.2.2 hB.2.1 (by decide) (by decide) (by decide) (by decide) (Nat.le_of_ble_eq_true rfl) (Nat.le_of_ble_eq_true rfl) ?_
          refine PBs_num hB hf (fun S hB hf => ?_)
          refine gg_iconst (v := 0) dX2_read_92 (by decide) ?_
          exact gg_ireturn dX2_read_93 rfl rfl ⟨(Nat.le_of_ble_eq_true rfl), (Nat.le_of_ble_eq_true rfl)⟩ (by rw [if_neg (fun z => z c36), if_pos c55]; exact ⟨rfl, ⟨_, d2, q, fun j hj => by rw [pk_cpy_in (Nat.zero_le j) (by omega)]; show d2 _ = d2 j; congr 1; omega, hB⟩, hf⟩)
      · have c36 : co ≠ 0 := n_ne (b := 0) c36
        refine gg_bipush (v := 100) dX2_read_39 (by decide) ?_
        refine gg_iload dX2_read_41 rfl ?_
        refine gg_imul dX2_read_43 ?_
        refine gg_aload_n dX2_read_44 rfl rfl ?_
        refine gf_X2_27 rfl dX2_read_45 hB.1 rfl ?_
        refine gg_iadd dX2_read_48 ?_
        exact gg_ireturn dX2_read_49 rfl rfl ⟨(Nat.le_of_ble_eq_true rfl), (Nat.le_of_ble_eq_true rfl)⟩ (by rw [if_pos c36]; refine ⟨?_, ⟨num, d2, q, fun j hj => rfl, hB⟩, hf⟩; rw [← nI_add, ← pk_mul]; rfl)
theorem sp_X2_read {S : gl_H} {b num dr : Nat → Int32} {t n p : Nat} (hT : PT S b t) (hB : PB S num dr p) (hn : n ≤ 60) : Sp mX2_read yX2_read [.ref 5, .ref 3, .int (nI n)] S (fun r S1 => ∃ d0 : Nat → Int32, (∀ j, j < 7 → d0 j = gl_AT j) ∧ r = some (.int (rdL b n (n + 1) 0 d0).1) ∧ (∃ num1 dr1 pl1, (∀ j, j < 7 → num1 j = ((rdL b n (n + 1) 0 d0).2.getD num) j) ∧ PB S1 num1 dr1 pl1) ∧ Fr 5 8 S S1) := by
  refine gl_enter (j := 2) (by decide +kernel) rfl (fun h => absurd h (by decide)) (Nat.le_of_ble_eq_true rfl) rfl (fun x => ?_)
  have hf : Fr 5 8 S S := Fr.rf
  refine gg_getst 1000000 dX2_read_0 lks_18 (by decide) (fun _ _ _ _ h => h.1.1) ?_
  refine gg_iconst (v := 0) dX2_read_3 (by decide) ?_
  refine gg_aload_n dX2_read_4 rfl rfl ?_
  refine gf_X2_15 rfl dX2_read_5 hB.1 rfl ?_
  refine gg_iconst (v := 0) dX2_read_8 (by decide) ?_
  refine gg_bipush (v := 7) dX2_read_9 (by decide) ?_
  refine gg_copyx 1000000 (by decide) (fun _ _ _ _ h => h.1.2) dX2_read_11 kw_X2_21 hB.2.2 (by decide) (Nat.le_of_ble_eq_true rfl) (Nat.le_of_ble_eq_true rfl) ?_
  refine PBs_dr hB hf (fun S hB hf => ?_)
  refine gg_aload_n dX2_read_14 rfl rfl ?_
  refine gg_iconst (v := 0) dX2_read_15 (by decide) ?_
  refine pf_X2_27 rfl dX2_read_16 hB.1 (Nat.le_of_ble_eq_true rfl) ?_
  refine PBs_pl 0 rfl hB hf (fun S hB hf => ?_)
  refine gg_iconst (v := 0) dX2_read_19 (by decide) ?_
  refine gg_istore_n dX2_read_20 rfl (Nat.le_of_ble_eq_true rfl) rfl ?_
  refine gg_Q (fun r S1 h => ⟨va_cpy gl_AT dr 0 0 7, fun j hj => by rw [pk_cpy_in (Nat.zero_le j) (by omega)]; congr 1; omega, h⟩) ?_
  exact re_loop hT hn x (n + 1) 0 (by omega) 0 _ S (by omega) (by omega) hB hf
end
