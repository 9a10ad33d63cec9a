/-! THE LAW, case by case: each call of the class answers as the model's; by wip/tools/law.py -/
section LC
variable {s : DS}
theorem who_e (hW : DW s) (hC : CW s) {A : Nat → Nat} {o : oa_T} {g9 : Int32} (h : tix (zG s) g9 = none ∨ (∃ j t, tix (zG s) g9 = some j ∧ opB (zf s) (zT s) j = some t) ∨ Mtd s A o) : whA s A g9 = whA s (bst s) g9 := by
  rcases h with h | ⟨j, t, h1, h2⟩ | h
  · unfold whA
    rw [h]
  · unfold whA
    rw [h1]
    dsimp only
    rw [h2]
  · exact wh_b hW (h.isb hW hC) g9
theorem ans_e (hW : DW s) (hC : CW s) {A : Nat → Nat} {o : oa_T} {t9 a9 : Int32} (h : (tix (zT s) t9 = none ∨ tix 3 a9 = none) ∨ Mtd s A o) : anN s A t9 a9 = anN s (bst s) t9 a9 := by
  have hm : ∀ i k, (match gpA A i with | some g => some (setTe s (up2 (zf s) i (taF (zf s i) k (nI g) (zr s 6))) (zm s) (zp s)) | none => none) = (match gpA A i with | some g => some (setTe s (up2 (zf s) i (taF (zf s i) k (nI g) (zr s 6))) (zm s) (zp s)) | none => none) := fun _ _ => rfl
  unfold anN
  rcases h with (h | h) | h
  · rw [h]
  · rw [h]
    cases tix (zT s) t9 <;> rfl
  · cases tix (zT s) t9 with
    | none => rfl
    | some i =>
      cases tix 3 a9 with
      | none => rfl
      | some k =>
        dsimp only
        rw [gpA_b (h.isb hW hC) i]
theorem gpA_in (hW : DW s) (hC : CW s) : ∀ t g, gpA (bst s) t = some g → g < zG s := fun t g hg => by
  unfold gpA at hg
  obtain ⟨h7, h8⟩ := ff_lt _ _ _ _ hg
  simp at h8
  by_cases z : g < zG s
  · exact z
  · exact absurd (bst_hi (by omega)) h8.1
end LC
theorem lw_feed {x : gl_X} {Z : State → Prop} {S : gl_H} {s : DS} {n L : Nat} {xs : Nat → Int32} (hL : L ≤ 3072) (hsc : gl_Scr x L xs) (hn : 6 * n + 6 ≤ L) (hP : DP S s) (hM : MP S s) (hI : IV s n) (K : ∀ S1 s1, DP S1 s1 → MP S1 s1 → IV s1 (n + 1) → GG mL_law x Z 739 [some (.ref 1000010), some (.ref 0), some (.ref 70), some (.int (nI (6 * n)))] [] S1 (53 + 2 * (n + 1), 48116 + 17 * (n + 1))) : GG mL_law x Z 128 [some (.ref 1000010), some (.ref 0), some (.ref 70), some (.int (nI (6 * n)))] [] S (53 + 2 * n, 48116 + 17 * n) := by
  have hW := hI.1
  have hC := hI.cw
  obtain ⟨f6, h6⟩ := hP.d0
  refine gg_aload_n dL_law_128 rfl rfl ?_
  refine gg_aload_n dL_law_129 rfl rfl ?_
  refine gg_iload_n dL_law_130 rfl rfl ?_
  refine gg_iconst (v := 1) dL_law_131 (by decide) ?_
  refine gg_iadd dL_law_132 ?_
  refine gg_sld (6 * n + 1) hsc dL_law_133 (nI_add (6 * n) 1) (by omega) (by omega) ?_
  refine gg_aload_n dL_law_134 rfl rfl ?_
  refine gg_iload_n dL_law_135 rfl rfl ?_
  refine gg_iconst (v := 2) dL_law_136 (by decide) ?_
  refine gg_iadd dL_law_137 ?_
  refine gg_sld (6 * n + 2) hsc dL_law_138 (nI_add (6 * n) 2) (by omega) (by omega) ?_
  refine gg_aload_n dL_law_139 rfl rfl ?_
  refine gg_iload_n dL_law_140 rfl rfl ?_
  refine gg_iconst (v := 3) dL_law_141 (by decide) ?_
  refine gg_iadd dL_law_142 ?_
  refine gg_sld (6 * n + 3) hsc dL_law_143 (nI_add (6 * n) 3) (by omega) (by omega) ?_
  refine gg_aload_n dL_law_144 rfl rfl ?_
  refine gg_iload_n dL_law_145 rfl rfl ?_
  refine gg_iconst (v := 4) dL_law_146 (by decide) ?_
  refine gg_iadd dL_law_147 ?_
  refine gg_sld (6 * n + 4) hsc dL_law_148 (nI_add (6 * n) 4) (by omega) (by omega) ?_
  refine gg_aload_n dL_law_149 rfl rfl ?_
  refine gg_iload_n dL_law_150 rfl rfl ?_
  refine gg_iconst (v := 5) dL_law_151 (by decide) ?_
  refine gg_iadd dL_law_152 ?_
  refine gg_sld (6 * n + 5) hsc dL_law_153 (nI_add (6 * n) 5) (by omega) (by omega) ?_
  refine gg_callV (sp_X6_feed hP hW (xs (6 * n + 1)) (xs (6 * n + 2)) (xs (6 * n + 3)) (xs (6 * n + 4)) (xs (6 * n + 5))) dL_law_154 kw_L_13 rfl h6 rfl rfl (Nat.le_of_ble_eq_true rfl) (Nat.le_of_ble_eq_true rfl) (Nat.le_of_ble_eq_true rfl) ⟨by show 53 + 2 * n + 0 ≤ 600000; omega, by show 48116 + 17 * n + 0 ≤ 7302250; omega⟩ (fun r S1 hq => ?_)
  refine gg_k (k2 := (53 + 2 * n, 48116 + 17 * n)) rfl ?_
  obtain ⟨rfl, hP1, hf⟩ := hq
  have hM := hM.keep hf
  obtain ⟨f7, h7⟩ := hM.d0
  refine gg_aload_n dL_law_157 rfl rfl ?_
  refine gg_aload_n dL_law_158 rfl rfl ?_
  refine gg_iload_n dL_law_159 rfl rfl ?_
  refine gg_iconst (v := 1) dL_law_160 (by decide) ?_
  refine gg_iadd dL_law_161 ?_
  refine gg_sld (6 * n + 1) hsc dL_law_162 (nI_add (6 * n) 1) (by omega) (by omega) ?_
  refine gg_aload_n dL_law_163 rfl rfl ?_
  refine gg_iload_n dL_law_164 rfl rfl ?_
  refine gg_iconst (v := 2) dL_law_165 (by decide) ?_
  refine gg_iadd dL_law_166 ?_
  refine gg_sld (6 * n + 2) hsc dL_law_167 (nI_add (6 * n) 2) (by omega) (by omega) ?_
  refine gg_aload_n dL_law_168 rfl rfl ?_
  refine gg_iload_n dL_law_169 rfl rfl ?_
  refine gg_iconst (v := 3) dL_law_170 (by decide) ?_
  refine gg_iadd dL_law_171 ?_
  refine gg_sld (6 * n + 3) hsc dL_law_172 (nI_add (6 * n) 3) (by omega) (by omega) ?_
  refine gg_aload_n dL_law_173 rfl rfl ?_
  refine gg_iload_n dL_law_174 rfl rfl ?_
  refine gg_iconst (v := 4) dL_law_175 (by decide) ?_
  refine gg_iadd dL_law_176 ?_
  refine gg_sld (6 * n + 4) hsc dL_law_177 (nI_add (6 * n) 4) (by omega) (by omega) ?_
  refine gg_aload_n dL_law_178 rfl rfl ?_
  refine gg_iload_n dL_law_179 rfl rfl ?_
  refine gg_iconst (v := 5) dL_law_180 (by decide) ?_
  refine gg_iadd dL_law_181 ?_
  refine gg_sld (6 * n + 5) hsc dL_law_182 (nI_add (6 * n) 5) (by omega) (by omega) ?_
  refine gg_callV (sp_M_feed hM hW (xs (6 * n + 1)) (xs (6 * n + 2)) (xs (6 * n + 3)) (xs (6 * n + 4)) (xs (6 * n + 5))) dL_law_183 kw_L_17 rfl h7 rfl rfl (Nat.le_of_ble_eq_true rfl) (Nat.le_of_ble_eq_true rfl) (Nat.le_of_ble_eq_true rfl) ⟨by show 53 + 2 * n + 0 ≤ 600000; omega, by show 48116 + 17 * n + 0 ≤ 7302250; omega⟩ (fun r S1 hq => ?_)
  refine gg_k (k2 := (53 + 2 * n, 48116 + 17 * n)) rfl ?_
  obtain ⟨rfl, hM, hf2⟩ := hq
  have hI2 : IV (feN s (xs (6 * n + 1)) (xs (6 * n + 2)) (xs (6 * n + 3)) (xs (6 * n + 4)) (xs (6 * n + 5))) (n + 1) := (hI.fe (xs (6 * n + 1)) (xs (6 * n + 2)) (xs (6 * n + 3)) (xs (6 * n + 4)) (xs (6 * n + 5))).up
  refine gg_icmp_eq (tgt := 739) dL_law_186 (by decide) (fun _ => ?_) (fun h => absurd rfl h)
  exact gg_wide (k2 := (53 + 2 * (n + 1), 48116 + 17 * (n + 1))) ⟨by show 53 + 2 * n ≤ 53 + 2 * (n + 1); omega, by show 48116 + 17 * n ≤ 48116 + 17 * (n + 1); omega⟩ (K _ _ (hP1.keepM hI2.1 hf2) hM hI2)
theorem lw_rules {x : gl_X} {Z : State → Prop} {S : gl_H} {s : DS} {n L : Nat} {xs : Nat → Int32} (hL : L ≤ 3072) (hsc : gl_Scr x L xs) (hn : 6 * n + 6 ≤ L) (hP : DP S s) (hM : MP S s) (hI : IV s n) (K : ∀ S1 s1, DP S1 s1 → MP S1 s1 → IV s1 (n + 1) → GG mL_law x Z 739 [some (.ref 1000010), some (.ref 0), some (.ref 70), some (.int (nI (6 * n)))] [] S1 (53 + 2 * (n + 1), 48116 + 17 * (n + 1))) : GG mL_law x Z 191 [some (.ref 1000010), some (.ref 0), some (.ref 70), some (.int (nI (6 * n)))] [] S (53 + 2 * n, 48116 + 17 * n) := by
  have hW := hI.1
  have hC := hI.cw
  obtain ⟨f6, h6⟩ := hP.d0
  refine gg_aload_n dL_law_191 rfl rfl ?_
  refine gg_aload_n dL_law_192 rfl rfl ?_
  refine gg_iload_n dL_law_193 rfl rfl ?_
  refine gg_iconst (v := 1) dL_law_194 (by decide) ?_
  refine gg_iadd dL_law_195 ?_
  refine gg_sld (6 * n + 1) hsc dL_law_196 (nI_add (6 * n) 1) (by omega) (by omega) ?_
  refine gg_callV (sp_X6_rules hP hW (xs (6 * n + 1))) dL_law_197 kw_L_18 rfl h6 rfl rfl (Nat.le_of_ble_eq_true rfl) (Nat.le_of_ble_eq_true rfl) (Nat.le_of_ble_eq_true rfl) ⟨by show 53 + 2 * n + 0 ≤ 600000; omega, by show 48116 + 17 * n + 0 ≤ 7302250; omega⟩ (fun r S1 hq => ?_)
  refine gg_k (k2 := (53 + 2 * n, 48116 + 17 * n)) rfl ?_
  obtain ⟨rfl, hP1, hf⟩ := hq
  have hM := hM.keep hf
  obtain ⟨f7, h7⟩ := hM.d0
  refine gg_aload_n dL_law_200 rfl rfl ?_
  refine gg_aload_n dL_law_201 rfl rfl ?_
  refine gg_iload_n dL_law_202 rfl rfl ?_
  refine gg_iconst (v := 1) dL_law_203 (by decide) ?_
  refine gg_iadd dL_law_204 ?_
  refine gg_sld (6 * n + 1) hsc dL_law_205 (nI_add (6 * n) 1) (by omega) (by omega) ?_
  refine gg_callV (sp_M_rules hM hW (xs (6 * n + 1))) dL_law_206 kw_L_22 rfl h7 rfl rfl (Nat.le_of_ble_eq_true rfl) (Nat.le_of_ble_eq_true rfl) (Nat.le_of_ble_eq_true rfl) ⟨by show 53 + 2 * n + 0 ≤ 600000; omega, by show 48116 + 17 * n + 0 ≤ 7302250; omega⟩ (fun r S1 hq => ?_)
  refine gg_k (k2 := (53 + 2 * n, 48116 + 17 * n)) rfl ?_
  obtain ⟨rfl, hM, hf2⟩ := hq
  have hI2 : IV (ruN s (xs (6 * n + 1))) (n + 1) := (hI.ru (xs (6 * n + 1))).up
  refine gg_icmp_eq (tgt := 739) dL_law_209 (by decide) (fun _ => ?_) (fun h => absurd rfl h)
  exact gg_wide (k2 := (53 + 2 * (n + 1), 48116 + 17 * (n + 1))) ⟨by show 53 + 2 * n ≤ 53 + 2 * (n + 1); omega, by show 48116 + 17 * n ≤ 48116 + 17 * (n + 1); omega⟩ (K _ _ (hP1.keepM hI2.1 hf2) hM hI2)
theorem lw_teacher {x : gl_X} {Z : State → Prop} {S : gl_H} {s : DS} {n L : Nat} {xs : Nat → Int32} (hL : L ≤ 3072) (hsc : gl_Scr x L xs) (hn : 6 * n + 6 ≤ L) (hP : DP S s) (hM : MP S s) (hI : IV s n) (K : ∀ S1 s1, DP S1 s1 → MP S1 s1 → IV s1 (n + 1) → GG mL_law x Z 739 [some (.ref 1000010), some (.ref 0), some (.ref 70), some (.int (nI (6 * n)))] [] S1 (53 + 2 * (n + 1), 48116 + 17 * (n + 1))) : GG mL_law x Z 214 [some (.ref 1000010), some (.ref 0), some (.ref 70), some (.int (nI (6 * n)))] [] S (53 + 2 * n, 48116 + 17 * n) := by
  have hW := hI.1
  have hC := hI.cw
  obtain ⟨f6, h6⟩ := hP.d0
  refine gg_aload_n dL_law_214 rfl rfl ?_
  refine gg_aload_n dL_law_215 rfl rfl ?_
  refine gg_iload_n dL_law_216 rfl rfl ?_
  refine gg_iconst (v := 1) dL_law_217 (by decide) ?_
  refine gg_iadd dL_law_218 ?_
  refine gg_sld (6 * n + 1) hsc dL_law_219 (nI_add (6 * n) 1) (by omega) (by omega) ?_
  refine gg_aload_n dL_law_220 rfl rfl ?_
  refine gg_iload_n dL_law_221 rfl rfl ?_
  refine gg_iconst (v := 2) dL_law_222 (by decide) ?_
  refine gg_iadd dL_law_223 ?_
  refine gg_sld (6 * n + 2) hsc dL_law_224 (nI_add (6 * n) 2) (by omega) (by omega) ?_
  refine gg_aload_n dL_law_225 rfl rfl ?_
  refine gg_iload_n dL_law_226 rfl rfl ?_
  refine gg_iconst (v := 3) dL_law_227 (by decide) ?_
  refine gg_iadd dL_law_228 ?_
  refine gg_sld (6 * n + 3) hsc dL_law_229 (nI_add (6 * n) 3) (by omega) (by omega) ?_
  refine gg_callV (sp_X6_teacher hP hW (xs (6 * n + 1)) (xs (6 * n + 2)) (xs (6 * n + 3))) dL_law_230 kw_L_23 rfl h6 rfl rfl (Nat.le_of_ble_eq_true rfl) (Nat.le_of_ble_eq_true rfl) (Nat.le_of_ble_eq_true rfl) ⟨by show 53 + 2 * n + 2 ≤ 600000; omega, by show 48116 + 17 * n + 17 ≤ 7302250; omega⟩ (fun r S1 hq => ?_)
  refine gg_k (k2 := (53 + 2 * n + 2, 48116 + 17 * n + 17)) rfl ?_
  obtain ⟨rfl, hP1, hf⟩ := hq
  have hM := hM.keep hf
  obtain ⟨f7, h7⟩ := hM.d0
  refine gg_aload_n dL_law_233 rfl rfl ?_
  refine gg_aload_n dL_law_234 rfl rfl ?_
  refine gg_iload_n dL_law_235 rfl rfl ?_
  refine gg_iconst (v := 1) dL_law_236 (by decide) ?_
  refine gg_iadd dL_law_237 ?_
  refine gg_sld (6 * n + 1) hsc dL_law_238 (nI_add (6 * n) 1) (by omega) (by omega) ?_
  refine gg_aload_n dL_law_239 rfl rfl ?_
  refine gg_iload_n dL_law_240 rfl rfl ?_
  refine gg_iconst (v := 2) dL_law_241 (by decide) ?_
  refine gg_iadd dL_law_242 ?_
  refine gg_sld (6 * n + 2) hsc dL_law_243 (nI_add (6 * n) 2) (by omega) (by omega) ?_
  refine gg_aload_n dL_law_244 rfl rfl ?_
  refine gg_iload_n dL_law_245 rfl rfl ?_
  refine gg_iconst (v := 3) dL_law_246 (by decide) ?_
  refine gg_iadd dL_law_247 ?_
  refine gg_sld (6 * n + 3) hsc dL_law_248 (nI_add (6 * n) 3) (by omega) (by omega) ?_
  refine gg_callV (sp_M_teacher hM hW (xs (6 * n + 1)) (xs (6 * n + 2)) (xs (6 * n + 3))) dL_law_249 kw_L_27 rfl h7 rfl rfl (Nat.le_of_ble_eq_true rfl) (Nat.le_of_ble_eq_true rfl) (Nat.le_of_ble_eq_true rfl) ⟨by show 53 + 2 * n + 2 + 0 ≤ 600000; omega, by show 48116 + 17 * n + 17 + 0 ≤ 7302250; omega⟩ (fun r S1 hq => ?_)
  refine gg_k (k2 := (53 + 2 * n + 2, 48116 + 17 * n + 17)) rfl ?_
  obtain ⟨rfl, hM, hf2⟩ := hq
  have hI2 : IV ((teN s (xs (6 * n + 1)) (xs (6 * n + 2)) (xs (6 * n + 3))).getD s) (n + 1) := (hI.te (xs (6 * n + 1)) (xs (6 * n + 2)) (xs (6 * n + 3))).up
  refine gg_icmp_eq (tgt := 739) dL_law_252 (by decide) (fun _ => ?_) (fun h => absurd rfl h)
  exact gg_wide (k2 := (53 + 2 * (n + 1), 48116 + 17 * (n + 1))) ⟨by show 53 + 2 * n + 2 ≤ 53 + 2 * (n + 1); omega, by show 48116 + 17 * n + 17 ≤ 48116 + 17 * (n + 1); omega⟩ (K _ _ (hP1.keepM hI2.1 hf2) hM hI2)
theorem lw_way {x : gl_X} {Z : State → Prop} {S : gl_H} {s : DS} {n L : Nat} {xs : Nat → Int32} (hL : L ≤ 3072) (hsc : gl_Scr x L xs) (hn : 6 * n + 6 ≤ L) (hP : DP S s) (hM : MP S s) (hI : IV s n) (K : ∀ S1 s1, DP S1 s1 → MP S1 s1 → IV s1 (n + 1) → GG mL_law x Z 739 [some (.ref 1000010), some (.ref 0), some (.ref 70), some (.int (nI (6 * n)))] [] S1 (53 + 2 * (n + 1), 48116 + 17 * (n + 1))) : GG mL_law x Z 257 [some (.ref 1000010), some (.ref 0), some (.ref 70), some (.int (nI (6 * n)))] [] S (53 + 2 * n, 48116 + 17 * n) := by
  have hW := hI.1
  have hC := hI.cw
  obtain ⟨f6, h6⟩ := hP.d0
  refine gg_aload_n dL_law_257 rfl rfl ?_
  refine gg_aload_n dL_law_258 rfl rfl ?_
  refine gg_iload_n dL_law_259 rfl rfl ?_
  refine gg_iconst (v := 1) dL_law_260 (by decide) ?_
  refine gg_iadd dL_law_261 ?_
  refine gg_sld (6 * n + 1) hsc dL_law_262 (nI_add (6 * n) 1) (by omega) (by omega) ?_
  refine gg_aload_n dL_law_263 rfl rfl ?_
  refine gg_iload_n dL_law_264 rfl rfl ?_
  refine gg_iconst (v := 2) dL_law_265 (by decide) ?_
  refine gg_iadd dL_law_266 ?_
  refine gg_sld (6 * n + 2) hsc dL_law_267 (nI_add (6 * n) 2) (by omega) (by omega) ?_
  refine gg_aload_n dL_law_268 rfl rfl ?_
  refine gg_iload_n dL_law_269 rfl rfl ?_
  refine gg_iconst (v := 3) dL_law_270 (by decide) ?_
  refine gg_iadd dL_law_271 ?_
  refine gg_sld (6 * n + 3) hsc dL_law_272 (nI_add (6 * n) 3) (by omega) (by omega) ?_
  refine gg_callV (sp_X6_way hP hW (xs (6 * n + 1)) (xs (6 * n + 2)) (xs (6 * n + 3))) dL_law_273 kw_L_28 rfl h6 rfl rfl (Nat.le_of_ble_eq_true rfl) (Nat.le_of_ble_eq_true rfl) (Nat.le_of_ble_eq_true rfl) ⟨by show 53 + 2 * n + 0 ≤ 600000; omega, by show 48116 + 17 * n + 0 ≤ 7302250; omega⟩ (fun r S1 hq => ?_)
  refine gg_k (k2 := (53 + 2 * n, 48116 + 17 * n)) rfl ?_
  obtain ⟨rfl, hP1, hf⟩ := hq
  have hM := hM.keep hf
  obtain ⟨f7, h7⟩ := hM.d0
  refine gg_aload_n dL_law_276 rfl rfl ?_
  refine gg_aload_n dL_law_277 rfl rfl ?_
  refine gg_iload_n dL_law_278 rfl rfl ?_
  refine gg_iconst (v := 1) dL_law_279 (by decide) ?_
  refine gg_iadd dL_law_280 ?_
  refine gg_sld (6 * n + 1) hsc dL_law_281 (nI_add (6 * n) 1) (by omega) (by omega) ?_
  refine gg_aload_n dL_law_282 rfl rfl ?_
  refine gg_iload_n dL_law_283 rfl rfl ?_
  refine gg_iconst (v := 2) dL_law_284 (by decide) ?_
  refine gg_iadd dL_law_285 ?_
  refine gg_sld (6 * n + 2) hsc dL_law_286 (nI_add (6 * n) 2) (by omega) (by omega) ?_
  refine gg_aload_n dL_law_287 rfl rfl ?_
  refine gg_iload_n dL_law_288 rfl rfl ?_
  refine gg_iconst (v := 3) dL_law_289 (by decide) ?_
  refine gg_iadd dL_law_290 ?_
  refine gg_sld (6 * n + 3) hsc dL_law_291 (nI_add (6 * n) 3) (by omega) (by omega) ?_
  refine gg_callV (sp_M_way hM hW (xs (6 * n + 1)) (xs (6 * n + 2)) (xs (6 * n + 3))) dL_law_292 kw_L_32 rfl h7 rfl rfl (Nat.le_of_ble_eq_true rfl) (Nat.le_of_ble_eq_true rfl) (Nat.le_of_ble_eq_true rfl) ⟨by show 53 + 2 * n + 0 ≤ 600000; omega, by show 48116 + 17 * n + 0 ≤ 7302250; omega⟩ (fun r S1 hq => ?_)
  refine gg_k (k2 := (53 + 2 * n, 48116 + 17 * n)) rfl ?_
  obtain ⟨rfl, hM, hf2⟩ := hq
  have hI2 : IV ((waN s (xs (6 * n + 1)) (xs (6 * n + 2)) (xs (6 * n + 3))).getD s) (n + 1) := (hI.wa (xs (6 * n + 1)) (xs (6 * n + 2)) (xs (6 * n + 3))).up
  refine gg_icmp_eq (tgt := 739) dL_law_295 (by decide) (fun _ => ?_) (fun h => absurd rfl h)
  exact gg_wide (k2 := (53 + 2 * (n + 1), 48116 + 17 * (n + 1))) ⟨by show 53 + 2 * n ≤ 53 + 2 * (n + 1); omega, by show 48116 + 17 * n ≤ 48116 + 17 * (n + 1); omega⟩ (K _ _ (hP1.keepM hI2.1 hf2) hM hI2)
theorem lw_likes {x : gl_X} {Z : State → Prop} {S : gl_H} {s : DS} {n L : Nat} {xs : Nat → Int32} (hL : L ≤ 3072) (hsc : gl_Scr x L xs) (hn : 6 * n + 6 ≤ L) (hP : DP S s) (hM : MP S s) (hI : IV s n) (K : ∀ S1 s1, DP S1 s1 → MP S1 s1 → IV s1 (n + 1) → GG mL_law x Z 739 [some (.ref 1000010), some (.ref 0), some (.ref 70), some (.int (nI (6 * n)))] [] S1 (53 + 2 * (n + 1), 48116 + 17 * (n + 1))) : GG mL_law x Z 300 [some (.ref 1000010), some (.ref 0), some (.ref 70), some (.int (nI (6 * n)))] [] S (53 + 2 * n, 48116 + 17 * n) := by
  have hW := hI.1
  have hC := hI.cw
  obtain ⟨f6, h6⟩ := hP.d0
  refine gg_aload_n dL_law_300 rfl rfl ?_
  refine gg_aload_n dL_law_301 rfl rfl ?_
  refine gg_iload_n dL_law_302 rfl rfl ?_
  refine gg_iconst (v := 1) dL_law_303 (by decide) ?_
  refine gg_iadd dL_law_304 ?_
  refine gg_sld (6 * n + 1) hsc dL_law_305 (nI_add (6 * n) 1) (by omega) (by omega) ?_
  refine gg_aload_n dL_law_306 rfl rfl ?_
  refine gg_iload_n dL_law_307 rfl rfl ?_
  refine gg_iconst (v := 2) dL_law_308 (by decide) ?_
  refine gg_iadd dL_law_309 ?_
  refine gg_sld (6 * n + 2) hsc dL_law_310 (nI_add (6 * n) 2) (by omega) (by omega) ?_
  refine gg_aload_n dL_law_311 rfl rfl ?_
  refine gg_iload_n dL_law_312 rfl rfl ?_
  refine gg_iconst (v := 3) dL_law_313 (by decide) ?_
  refine gg_iadd dL_law_314 ?_
  refine gg_sld (6 * n + 3) hsc dL_law_315 (nI_add (6 * n) 3) (by omega) (by omega) ?_
  refine gg_callV (sp_X6_likes hP hW (xs (6 * n + 1)) (xs (6 * n + 2)) (xs (6 * n + 3))) dL_law_316 kw_L_33 rfl h6 rfl rfl (Nat.le_of_ble_eq_true rfl) (Nat.le_of_ble_eq_true rfl) (Nat.le_of_ble_eq_true rfl) ⟨by show 53 + 2 * n + 0 ≤ 600000; omega, by show 48116 + 17 * n + 0 ≤ 7302250; omega⟩ (fun r S1 hq => ?_)
  refine gg_k (k2 := (53 + 2 * n, 48116 + 17 * n)) rfl ?_
  obtain ⟨rfl, hP1, hf⟩ := hq
  have hM := hM.keep hf
  obtain ⟨f7, h7⟩ := hM.d0
  refine gg_aload_n dL_law_319 rfl rfl ?_
  refine gg_aload_n dL_law_320 rfl rfl ?_
  refine gg_iload_n dL_law_321 rfl rfl ?_
  refine gg_iconst (v := 1) dL_law_322 (by decide) ?_
  refine gg_iadd dL_law_323 ?_
  refine gg_sld (6 * n + 1) hsc dL_law_324 (nI_add (6 * n) 1) (by omega) (by omega) ?_
  refine gg_aload_n dL_law_325 rfl rfl ?_
  refine gg_iload_n dL_law_326 rfl rfl ?_
  refine gg_iconst (v := 2) dL_law_327 (by decide) ?_
  refine gg_iadd dL_law_328 ?_
  refine gg_sld (6 * n + 2) hsc dL_law_329 (nI_add (6 * n) 2) (by omega) (by omega) ?_
  refine gg_aload_n dL_law_330 rfl rfl ?_
  refine gg_iload_n dL_law_331 rfl rfl ?_
  refine gg_iconst (v := 3) dL_law_332 (by decide) ?_
  refine gg_iadd dL_law_333 ?_
  refine gg_sld (6 * n + 3) hsc dL_law_334 (nI_add (6 * n) 3) (by omega) (by omega) ?_
  refine gg_callV (sp_M_likes hM hW (xs (6 * n + 1)) (xs (6 * n + 2)) (xs (6 * n + 3))) dL_law_335 kw_L_36 rfl h7 rfl rfl (Nat.le_of_ble_eq_true rfl) (Nat.le_of_ble_eq_true rfl) (Nat.le_of_ble_eq_true rfl) ⟨by show 53 + 2 * n + 0 ≤ 600000; omega, by show 48116 + 17 * n + 0 ≤ 7302250; omega⟩ (fun r S1 hq => ?_)
  refine gg_k (k2 := (53 + 2 * n, 48116 + 17 * n)) rfl ?_
  obtain ⟨rfl, hM, hf2⟩ := hq
  have hI2 : IV ((liN s (xs (6 * n + 1)) (xs (6 * n + 2)) (xs (6 * n + 3))).getD s) (n + 1) := (hI.li (xs (6 * n + 1)) (xs (6 * n + 2)) (xs (6 * n + 3))).up
  refine gg_icmp_eq (tgt := 739) dL_law_338 (by decide) (fun _ => ?_) (fun h => absurd rfl h)
  exact gg_wide (k2 := (53 + 2 * (n + 1), 48116 + 17 * (n + 1))) ⟨by show 53 + 2 * n ≤ 53 + 2 * (n + 1); omega, by show 48116 + 17 * n ≤ 48116 + 17 * (n + 1); omega⟩ (K _ _ (hP1.keepM hI2.1 hf2) hM hI2)
theorem lw_gap {x : gl_X} {Z : State → Prop} {S : gl_H} {s : DS} {n L : Nat} {xs : Nat → Int32} (hL : L ≤ 3072) (hsc : gl_Scr x L xs) (hn : 6 * n + 6 ≤ L) (hP : DP S s) (hM : MP S s) (hI : IV s n) (K : ∀ S1 s1, DP S1 s1 → MP S1 s1 → IV s1 (n + 1) → GG mL_law x Z 739 [some (.ref 1000010), some (.ref 0), some (.ref 70), some (.int (nI (6 * n)))] [] S1 (53 + 2 * (n + 1), 48116 + 17 * (n + 1))) : GG mL_law x Z 343 [some (.ref 1000010), some (.ref 0), some (.ref 70), some (.int (nI (6 * n)))] [] S (53 + 2 * n, 48116 + 17 * n) := by
  have hW := hI.1
  have hC := hI.cw
  obtain ⟨f6, h6⟩ := hP.d0
  refine gg_aload_n dL_law_343 rfl rfl ?_
  refine gg_aload_n dL_law_344 rfl rfl ?_
  refine gg_iload_n dL_law_345 rfl rfl ?_
  refine gg_iconst (v := 1) dL_law_346 (by decide) ?_
  refine gg_iadd dL_law_347 ?_
  refine gg_sld (6 * n + 1) hsc dL_law_348 (nI_add (6 * n) 1) (by omega) (by omega) ?_
  refine gg_aload_n dL_law_349 rfl rfl ?_
  refine gg_iload_n dL_law_350 rfl rfl ?_
  refine gg_iconst (v := 2) dL_law_351 (by decide) ?_
  refine gg_iadd dL_law_352 ?_
  refine gg_sld (6 * n + 2) hsc dL_law_353 (nI_add (6 * n) 2) (by omega) (by omega) ?_
  refine gg_aload_n dL_law_354 rfl rfl ?_
  refine gg_iload_n dL_law_355 rfl rfl ?_
  refine gg_iconst (v := 3) dL_law_356 (by decide) ?_
  refine gg_iadd dL_law_357 ?_
  refine gg_sld (6 * n + 3) hsc dL_law_358 (nI_add (6 * n) 3) (by omega) (by omega) ?_
  refine gg_aload_n dL_law_359 rfl rfl ?_
  refine gg_iload_n dL_law_360 rfl rfl ?_
  refine gg_iconst (v := 4) dL_law_361 (by decide) ?_
  refine gg_iadd dL_law_362 ?_
  refine gg_sld (6 * n + 4) hsc dL_law_363 (nI_add (6 * n) 4) (by omega) (by omega) ?_
  refine gg_aload_n dL_law_364 rfl rfl ?_
  refine gg_iload_n dL_law_365 rfl rfl ?_
  refine gg_iconst (v := 5) dL_law_366 (by decide) ?_
  refine gg_iadd dL_law_367 ?_
  refine gg_sld (6 * n + 5) hsc dL_law_368 (nI_add (6 * n) 5) (by omega) (by omega) ?_
  refine gg_callV (sp_X6_gap hP hW (by have := hI.2.2.2.2.2; omega) (xs (6 * n + 1)) (xs (6 * n + 2)) (xs (6 * n + 3)) (xs (6 * n + 4)) (xs (6 * n + 5))) dL_law_369 kw_L_37 rfl h6 rfl rfl (Nat.le_of_ble_eq_true rfl) (Nat.le_of_ble_eq_true rfl) (Nat.le_of_ble_eq_true rfl) ⟨by show 53 + 2 * n + 1 ≤ 600000; omega, by show 48116 + 17 * n + 5 ≤ 7302250; omega⟩ (fun r S1 hq => ?_)
  refine gg_k (k2 := (53 + 2 * n + 1, 48116 + 17 * n + 5)) rfl ?_
  obtain ⟨rfl, hP1, hf⟩ := hq
  have hM := hM.keep hf
  obtain ⟨f7, h7⟩ := hM.d0
  refine gg_aload_n dL_law_372 rfl rfl ?_
  refine gg_aload_n dL_law_373 rfl rfl ?_
  refine gg_iload_n dL_law_374 rfl rfl ?_
  refine gg_iconst (v := 1) dL_law_375 (by decide) ?_
  refine gg_iadd dL_law_376 ?_
  refine gg_sld (6 * n + 1) hsc dL_law_377 (nI_add (6 * n) 1) (by omega) (by omega) ?_
  refine gg_aload_n dL_law_378 rfl rfl ?_
  refine gg_iload_n dL_law_379 rfl rfl ?_
  refine gg_iconst (v := 2) dL_law_380 (by decide) ?_
  refine gg_iadd dL_law_381 ?_
  refine gg_sld (6 * n + 2) hsc dL_law_382 (nI_add (6 * n) 2) (by omega) (by omega) ?_
  refine gg_aload_n dL_law_383 rfl rfl ?_
  refine gg_iload_n dL_law_384 rfl rfl ?_
  refine gg_iconst (v := 3) dL_law_385 (by decide) ?_
  refine gg_iadd dL_law_386 ?_
  refine gg_sld (6 * n + 3) hsc dL_law_387 (nI_add (6 * n) 3) (by omega) (by omega) ?_
  refine gg_aload_n dL_law_388 rfl rfl ?_
  refine gg_iload_n dL_law_389 rfl rfl ?_
  refine gg_iconst (v := 4) dL_law_390 (by decide) ?_
  refine gg_iadd dL_law_391 ?_
  refine gg_sld (6 * n + 4) hsc dL_law_392 (nI_add (6 * n) 4) (by omega) (by omega) ?_
  refine gg_aload_n dL_law_393 rfl rfl ?_
  refine gg_iload_n dL_law_394 rfl rfl ?_
  refine gg_iconst (v := 5) dL_law_395 (by decide) ?_
  refine gg_iadd dL_law_396 ?_
  refine gg_sld (6 * n + 5) hsc dL_law_397 (nI_add (6 * n) 5) (by omega) (by omega) ?_
  refine gg_callV (sp_M_gap hM hW (xs (6 * n + 1)) (xs (6 * n + 2)) (xs (6 * n + 3)) (xs (6 * n + 4)) (xs (6 * n + 5))) dL_law_398 kw_L_40 rfl h7 rfl rfl (Nat.le_of_ble_eq_true rfl) (Nat.le_of_ble_eq_true rfl) (Nat.le_of_ble_eq_true rfl) ⟨by show 53 + 2 * n + 1 + 0 ≤ 600000; omega, by show 48116 + 17 * n + 5 + 0 ≤ 7302250; omega⟩ (fun r S1 hq => ?_)
  refine gg_k (k2 := (53 + 2 * n + 1, 48116 + 17 * n + 5)) rfl ?_
  obtain ⟨rfl, hM, hf2⟩ := hq
  have hI2 : IV ((gaN s (xs (6 * n + 1)) (xs (6 * n + 2)) (xs (6 * n + 3)) (xs (6 * n + 4)) (xs (6 * n + 5))).getD s) (n + 1) := hI.ga (xs (6 * n + 1)) (xs (6 * n + 2)) (xs (6 * n + 3)) (xs (6 * n + 4)) (xs (6 * n + 5))
  refine gg_icmp_eq (tgt := 739) dL_law_401 (by decide) (fun _ => ?_) (fun h => absurd rfl h)
  exact gg_wide (k2 := (53 + 2 * (n + 1), 48116 + 17 * (n + 1))) ⟨by show 53 + 2 * n + 1 ≤ 53 + 2 * (n + 1); omega, by show 48116 + 17 * n + 5 ≤ 48116 + 17 * (n + 1); omega⟩ (K _ _ (hP1.keepM hI2.1 hf2) hM hI2)
theorem lw_can {x : gl_X} {Z : State → Prop} {S : gl_H} {s : DS} {n L : Nat} {xs : Nat → Int32} (hL : L ≤ 3072) (hsc : gl_Scr x L xs) (hn : 6 * n + 6 ≤ L) (hP : DP S s) (hM : MP S s) (hI : IV s n) (K : ∀ S1 s1, DP S1 s1 → MP S1 s1 → IV s1 (n + 1) → GG mL_law x Z 739 [some (.ref 1000010), some (.ref 0), some (.ref 70), some (.int (nI (6 * n)))] [] S1 (53 + 2 * (n + 1), 48116 + 17 * (n + 1))) : GG mL_law x Z 406 [some (.ref 1000010), some (.ref 0), some (.ref 70), some (.int (nI (6 * n)))] [] S (53 + 2 * n, 48116 + 17 * n) := by
  have hW := hI.1
  have hC := hI.cw
  obtain ⟨f6, h6⟩ := hP.d0
  refine gg_aload_n dL_law_406 rfl rfl ?_
  refine gg_aload_n dL_law_407 rfl rfl ?_
  refine gg_iload_n dL_law_408 rfl rfl ?_
  refine gg_iconst (v := 1) dL_law_409 (by decide) ?_
  refine gg_iadd dL_law_410 ?_
  refine gg_sld (6 * n + 1) hsc dL_law_411 (nI_add (6 * n) 1) (by omega) (by omega) ?_
  refine gg_aload_n dL_law_412 rfl rfl ?_
  refine gg_iload_n dL_law_413 rfl rfl ?_
  refine gg_iconst (v := 2) dL_law_414 (by decide) ?_
  refine gg_iadd dL_law_415 ?_
  refine gg_sld (6 * n + 2) hsc dL_law_416 (nI_add (6 * n) 2) (by omega) (by omega) ?_
  refine gg_callV (sp_X6_can hP hW (xs (6 * n + 1)) (xs (6 * n + 2))) dL_law_417 kw_L_41 rfl h6 rfl rfl (Nat.le_of_ble_eq_true rfl) (Nat.le_of_ble_eq_true rfl) (Nat.le_of_ble_eq_true rfl) ⟨by show 53 + 2 * n + 0 ≤ 600000; omega, by show 48116 + 17 * n + 0 ≤ 7302250; omega⟩ (fun r S1 hq => ?_)
  refine gg_k (k2 := (53 + 2 * n, 48116 + 17 * n)) rfl ?_
  obtain ⟨rfl, rfl⟩ := hq
  obtain ⟨f7, h7⟩ := hM.d0
  have hM0 := hM
  obtain ⟨A, py, fr, mt, mc, hR, hG, hF⟩ := hM
  refine gg_aload_n dL_law_420 rfl rfl ?_
  refine gg_aload_n dL_law_421 rfl rfl ?_
  refine gg_iload_n dL_law_422 rfl rfl ?_
  refine gg_iconst (v := 1) dL_law_423 (by decide) ?_
  refine gg_iadd dL_law_424 ?_
  refine gg_sld (6 * n + 1) hsc dL_law_425 (nI_add (6 * n) 1) (by omega) (by omega) ?_
  refine gg_aload_n dL_law_426 rfl rfl ?_
  refine gg_iload_n dL_law_427 rfl rfl ?_
  refine gg_iconst (v := 2) dL_law_428 (by decide) ?_
  refine gg_iadd dL_law_429 ?_
  refine gg_sld (6 * n + 2) hsc dL_law_430 (nI_add (6 * n) 2) (by omega) (by omega) ?_
  refine gg_callV (sp_X7_can hR hG hW (xs (6 * n + 1)) (xs (6 * n + 2))) dL_law_431 kw_L_45 rfl h7 rfl rfl (Nat.le_of_ble_eq_true rfl) (Nat.le_of_ble_eq_true rfl) (Nat.le_of_ble_eq_true rfl) ⟨by show 53 + 2 * n + 0 ≤ 600000; omega, by show 48116 + 17 * n + 0 ≤ 7302250; omega⟩ (fun r S1 hq => ?_)
  refine gg_k (k2 := (53 + 2 * n, 48116 + 17 * n)) rfl ?_
  obtain ⟨rfl, rfl⟩ := hq
  refine gg_icmp_eq (tgt := 739) dL_law_434 (by decide) (fun _ => ?_) (fun h => absurd rfl h)
  exact gg_wide (k2 := (53 + 2 * (n + 1), 48116 + 17 * (n + 1))) ⟨by show 53 + 2 * n ≤ 53 + 2 * (n + 1); omega, by show 48116 + 17 * n ≤ 48116 + 17 * (n + 1); omega⟩ (K _ _ hP hM0 hI.up)
theorem lw_cost {x : gl_X} {Z : State → Prop} {S : gl_H} {s : DS} {n L : Nat} {xs : Nat → Int32} (hL : L ≤ 3072) (hsc : gl_Scr x L xs) (hn : 6 * n + 6 ≤ L) (hP : DP S s) (hM : MP S s) (hI : IV s n) (K : ∀ S1 s1, DP S1 s1 → MP S1 s1 → IV s1 (n + 1) → GG mL_law x Z 739 [some (.ref 1000010), some (.ref 0), some (.ref 70), some (.int (nI (6 * n)))] [] S1 (53 + 2 * (n + 1), 48116 + 17 * (n + 1))) : GG mL_law x Z 439 [some (.ref 1000010), some (.ref 0), some (.ref 70), some (.int (nI (6 * n)))] [] S (53 + 2 * n, 48116 + 17 * n) := by
  have hW := hI.1
  have hC := hI.cw
  obtain ⟨f6, h6⟩ := hP.d0
  refine gg_aload_n dL_law_439 rfl rfl ?_
  refine gg_aload_n dL_law_440 rfl rfl ?_
  refine gg_iload_n dL_law_441 rfl rfl ?_
  refine gg_iconst (v := 1) dL_law_442 (by decide) ?_
  refine gg_iadd dL_law_443 ?_
  refine gg_sld (6 * n + 1) hsc dL_law_444 (nI_add (6 * n) 1) (by omega) (by omega) ?_
  refine gg_aload_n dL_law_445 rfl rfl ?_
  refine gg_iload_n dL_law_446 rfl rfl ?_
  refine gg_iconst (v := 2) dL_law_447 (by decide) ?_
  refine gg_iadd dL_law_448 ?_
  refine gg_sld (6 * n + 2) hsc dL_law_449 (nI_add (6 * n) 2) (by omega) (by omega) ?_
  refine gg_callV (sp_X6_cost hP hW (xs (6 * n + 1)) (xs (6 * n + 2))) dL_law_450 kw_L_46 rfl h6 rfl rfl (Nat.le_of_ble_eq_true rfl) (Nat.le_of_ble_eq_true rfl) (Nat.le_of_ble_eq_true rfl) ⟨by show 53 + 2 * n + 0 ≤ 600000; omega, by show 48116 + 17 * n + 0 ≤ 7302250; omega⟩ (fun r S1 hq => ?_)
  refine gg_k (k2 := (53 + 2 * n, 48116 + 17 * n)) rfl ?_
  obtain ⟨rfl, rfl⟩ := hq
  obtain ⟨f7, h7⟩ := hM.d0
  have hM0 := hM
  obtain ⟨A, py, fr, mt, mc, hR, hG, hF⟩ := hM
  refine gg_aload_n dL_law_453 rfl rfl ?_
  refine gg_aload_n dL_law_454 rfl rfl ?_
  refine gg_iload_n dL_law_455 rfl rfl ?_
  refine gg_iconst (v := 1) dL_law_456 (by decide) ?_
  refine gg_iadd dL_law_457 ?_
  refine gg_sld (6 * n + 1) hsc dL_law_458 (nI_add (6 * n) 1) (by omega) (by omega) ?_
  refine gg_aload_n dL_law_459 rfl rfl ?_
  refine gg_iload_n dL_law_460 rfl rfl ?_
  refine gg_iconst (v := 2) dL_law_461 (by decide) ?_
  refine gg_iadd dL_law_462 ?_
  refine gg_sld (6 * n + 2) hsc dL_law_463 (nI_add (6 * n) 2) (by omega) (by omega) ?_
  refine gg_callV (sp_X7_cost hR hG hW (xs (6 * n + 1)) (xs (6 * n + 2))) dL_law_464 kw_L_49 rfl h7 rfl rfl (Nat.le_of_ble_eq_true rfl) (Nat.le_of_ble_eq_true rfl) (Nat.le_of_ble_eq_true rfl) ⟨by show 53 + 2 * n + 0 ≤ 600000; omega, by show 48116 + 17 * n + 0 ≤ 7302250; omega⟩ (fun r S1 hq => ?_)
  refine gg_k (k2 := (53 + 2 * n, 48116 + 17 * n)) rfl ?_
  obtain ⟨rfl, rfl⟩ := hq
  refine gg_icmp_eq (tgt := 739) dL_law_467 (by decide) (fun _ => ?_) (fun h => absurd rfl h)
  exact gg_wide (k2 := (53 + 2 * (n + 1), 48116 + 17 * (n + 1))) ⟨by show 53 + 2 * n ≤ 53 + 2 * (n + 1); omega, by show 48116 + 17 * n ≤ 48116 + 17 * (n + 1); omega⟩ (K _ _ hP hM0 hI.up)
theorem lw_match {x : gl_X} {Z : State → Prop} {S : gl_H} {s : DS} {n L : Nat} {xs : Nat → Int32} (hL : L ≤ 3072) (hsc : gl_Scr x L xs) (hn : 6 * n + 6 ≤ L) (hP : DP S s) (hM : MP S s) (hI : IV s n) (K : ∀ S1 s1, DP S1 s1 → MP S1 s1 → IV s1 (n + 1) → GG mL_law x Z 739 [some (.ref 1000010), some (.ref 0), some (.ref 70), some (.int (nI (6 * n)))] [] S1 (53 + 2 * (n + 1), 48116 + 17 * (n + 1))) : GG mL_law x Z 472 [some (.ref 1000010), some (.ref 0), some (.ref 70), some (.int (nI (6 * n)))] [] S (53 + 2 * n, 48116 + 17 * n) := by
  have hW := hI.1
  have hC := hI.cw
  obtain ⟨f6, h6⟩ := hP.d0
  refine gg_aload_n dL_law_472 rfl rfl ?_
  refine gg_callV (sp_X6_match hP hW) dL_law_473 kw_L_50 rfl h6 rfl rfl (Nat.le_of_ble_eq_true rfl) (Nat.le_of_ble_eq_true rfl) (Nat.le_of_ble_eq_true rfl) ⟨by show 53 + 2 * n + 0 ≤ 600000; omega, by show 48116 + 17 * n + 0 ≤ 7302250; omega⟩ (fun r S1 hq => ?_)
  refine gg_k (k2 := (53 + 2 * n, 48116 + 17 * n)) rfl ?_
  obtain ⟨A, o, hT, rfl, hP1, hf⟩ := hq
  rw [hT.cnt hW hC]
  have hM := hM.keep hf
  obtain ⟨f7, h7⟩ := hM.d0
  refine gg_aload_n dL_law_476 rfl rfl ?_
  refine gg_callV (sp_M_match hM hW) dL_law_477 kw_L_54 rfl h7 rfl rfl (Nat.le_of_ble_eq_true rfl) (Nat.le_of_ble_eq_true rfl) (Nat.le_of_ble_eq_true rfl) ⟨by show 53 + 2 * n + 0 ≤ 600000; omega, by show 48116 + 17 * n + 0 ≤ 7302250; omega⟩ (fun r S1 hq => ?_)
  refine gg_k (k2 := (53 + 2 * n, 48116 + 17 * n)) rfl ?_
  obtain ⟨rfl, hM, hf2⟩ := hq
  refine gg_icmp_eq (tgt := 739) dL_law_480 (by decide) (fun _ => ?_) (fun h => absurd rfl h)
  exact gg_wide (k2 := (53 + 2 * (n + 1), 48116 + 17 * (n + 1))) ⟨by show 53 + 2 * n ≤ 53 + 2 * (n + 1); omega, by show 48116 + 17 * n ≤ 48116 + 17 * (n + 1); omega⟩ (K _ _ (hP1.keepM hW hf2) hM hI.up)
theorem lw_costs {x : gl_X} {Z : State → Prop} {S : gl_H} {s : DS} {n L : Nat} {xs : Nat → Int32} (hL : L ≤ 3072) (hsc : gl_Scr x L xs) (hn : 6 * n + 6 ≤ L) (hP : DP S s) (hM : MP S s) (hI : IV s n) (K : ∀ S1 s1, DP S1 s1 → MP S1 s1 → IV s1 (n + 1) → GG mL_law x Z 739 [some (.ref 1000010), some (.ref 0), some (.ref 70), some (.int (nI (6 * n)))] [] S1 (53 + 2 * (n + 1), 48116 + 17 * (n + 1))) : GG mL_law x Z 485 [some (.ref 1000010), some (.ref 0), some (.ref 70), some (.int (nI (6 * n)))] [] S (53 + 2 * n, 48116 + 17 * n) := by
  have hW := hI.1
  have hC := hI.cw
  obtain ⟨f6, h6⟩ := hP.d0
  refine gg_aload_n dL_law_485 rfl rfl ?_
  refine gg_callV (sp_X6_costs hP hW) dL_law_486 kw_L_55 rfl h6 rfl rfl (Nat.le_of_ble_eq_true rfl) (Nat.le_of_ble_eq_true rfl) (Nat.le_of_ble_eq_true rfl) ⟨by show 53 + 2 * n + 0 ≤ 600000; omega, by show 48116 + 17 * n + 0 ≤ 7302250; omega⟩ (fun r S1 hq => ?_)
  refine gg_k (k2 := (53 + 2 * n, 48116 + 17 * n)) rfl ?_
  obtain ⟨A, o, hT, rfl, hP1, hf⟩ := hq
  rw [hT.cost hW hC]
  have hM := hM.keep hf
  obtain ⟨f7, h7⟩ := hM.d0
  refine gg_aload_n dL_law_489 rfl rfl ?_
  refine gg_callV (sp_M_costs hM hW) dL_law_490 kw_L_58 rfl h7 rfl rfl (Nat.le_of_ble_eq_true rfl) (Nat.le_of_ble_eq_true rfl) (Nat.le_of_ble_eq_true rfl) ⟨by show 53 + 2 * n + 0 ≤ 600000; omega, by show 48116 + 17 * n + 0 ≤ 7302250; omega⟩ (fun r S1 hq => ?_)
  refine gg_k (k2 := (53 + 2 * n, 48116 + 17 * n)) rfl ?_
  obtain ⟨rfl, hM, hf2⟩ := hq
  refine gg_icmp_eq (tgt := 739) dL_law_493 (by decide) (fun _ => ?_) (fun h => absurd rfl h)
  exact gg_wide (k2 := (53 + 2 * (n + 1), 48116 + 17 * (n + 1))) ⟨by show 53 + 2 * n ≤ 53 + 2 * (n + 1); omega, by show 48116 + 17 * n ≤ 48116 + 17 * (n + 1); omega⟩ (K _ _ (hP1.keepM hW hf2) hM hI.up)
theorem lw_who {x : gl_X} {Z : State → Prop} {S : gl_H} {s : DS} {n L : Nat} {xs : Nat → Int32} (hL : L ≤ 3072) (hsc : gl_Scr x L xs) (hn : 6 * n + 6 ≤ L) (hP : DP S s) (hM : MP S s) (hI : IV s n) (K : ∀ S1 s1, DP S1 s1 → MP S1 s1 → IV s1 (n + 1) → GG mL_law x Z 739 [some (.ref 1000010), some (.ref 0), some (.ref 70), some (.int (nI (6 * n)))] [] S1 (53 + 2 * (n + 1), 48116 + 17 * (n + 1))) : GG mL_law x Z 498 [some (.ref 1000010), some (.ref 0), some (.ref 70), some (.int (nI (6 * n)))] [] S (53 + 2 * n, 48116 + 17 * n) := by
  have hW := hI.1
  have hC := hI.cw
  obtain ⟨f6, h6⟩ := hP.d0
  refine gg_aload_n dL_law_498 rfl rfl ?_
  refine gg_aload_n dL_law_499 rfl rfl ?_
  refine gg_iload_n dL_law_500 rfl rfl ?_
  refine gg_iconst (v := 1) dL_law_501 (by decide) ?_
  refine gg_iadd dL_law_502 ?_
  refine gg_sld (6 * n + 1) hsc dL_law_503 (nI_add (6 * n) 1) (by omega) (by omega) ?_
  refine gg_callV (sp_X6_who hP hW (xs (6 * n + 1))) dL_law_504 kw_L_59 rfl h6 rfl rfl (Nat.le_of_ble_eq_true rfl) (Nat.le_of_ble_eq_true rfl) (Nat.le_of_ble_eq_true rfl) ⟨by show 53 + 2 * n + 0 ≤ 600000; omega, by show 48116 + 17 * n + 0 ≤ 7302250; omega⟩ (fun r S1 hq => ?_)
  refine gg_k (k2 := (53 + 2 * n, 48116 + 17 * n)) rfl ?_
  obtain ⟨A, o, hT, rfl, hP1, hf⟩ := hq
  rw [who_e hW hC hT]
  have hM := hM.keep hf
  obtain ⟨f7, h7⟩ := hM.d0
  refine gg_aload_n dL_law_507 rfl rfl ?_
  refine gg_aload_n dL_law_508 rfl rfl ?_
  refine gg_iload_n dL_law_509 rfl rfl ?_
  refine gg_iconst (v := 1) dL_law_510 (by decide) ?_
  refine gg_iadd dL_law_511 ?_
  refine gg_sld (6 * n + 1) hsc dL_law_512 (nI_add (6 * n) 1) (by omega) (by omega) ?_
  refine gg_callV (sp_M_who hM hW (ag_b hW (fun _ _ => rfl)) (xs (6 * n + 1))) dL_law_513 kw_L_62 rfl h7 rfl rfl (Nat.le_of_ble_eq_true rfl) (Nat.le_of_ble_eq_true rfl) (Nat.le_of_ble_eq_true rfl) ⟨by show 53 + 2 * n + 0 ≤ 600000; omega, by show 48116 + 17 * n + 0 ≤ 7302250; omega⟩ (fun r S1 hq => ?_)
  refine gg_k (k2 := (53 + 2 * n, 48116 + 17 * n)) rfl ?_
  obtain ⟨rfl, hM, hf2⟩ := hq
  refine gg_icmp_eq (tgt := 739) dL_law_516 (by decide) (fun _ => ?_) (fun h => absurd rfl h)
  exact gg_wide (k2 := (53 + 2 * (n + 1), 48116 + 17 * (n + 1))) ⟨by show 53 + 2 * n ≤ 53 + 2 * (n + 1); omega, by show 48116 + 17 * n ≤ 48116 + 17 * (n + 1); omega⟩ (K _ _ (hP1.keepM hW hf2) hM hI.up)
theorem lw_next {x : gl_X} {Z : State → Prop} {S : gl_H} {s : DS} {n L : Nat} {xs : Nat → Int32} (hL : L ≤ 3072) (hsc : gl_Scr x L xs) (hn : 6 * n + 6 ≤ L) (hP : DP S s) (hM : MP S s) (hI : IV s n) (K : ∀ S1 s1, DP S1 s1 → MP S1 s1 → IV s1 (n + 1) → GG mL_law x Z 739 [some (.ref 1000010), some (.ref 0), some (.ref 70), some (.int (nI (6 * n)))] [] S1 (53 + 2 * (n + 1), 48116 + 17 * (n + 1))) : GG mL_law x Z 521 [some (.ref 1000010), some (.ref 0), some (.ref 70), some (.int (nI (6 * n)))] [] S (53 + 2 * n, 48116 + 17 * n) := by
  have hW := hI.1
  have hC := hI.cw
  obtain ⟨f6, h6⟩ := hP.d0
  refine gg_aload_n dL_law_521 rfl rfl ?_
  refine gg_callV (sp_X6_next hP hW (fun A o hT => hT.at hW hC)) dL_law_522 kw_L_63 rfl h6 rfl rfl (Nat.le_of_ble_eq_true rfl) (Nat.le_of_ble_eq_true rfl) (Nat.le_of_ble_eq_true rfl) ⟨by show 53 + 2 * n + 0 ≤ 600000; omega, by show 48116 + 17 * n + 0 ≤ 7302250; omega⟩ (fun r S1 hq => ?_)
  refine gg_k (k2 := (53 + 2 * n, 48116 + 17 * n)) rfl ?_
  obtain ⟨A, o, hT, rfl, hP1, hf⟩ := hq
  have hM := hM.keep hf
  obtain ⟨f7, h7⟩ := hM.d0
  refine gg_aload_n dL_law_525 rfl rfl ?_
  refine gg_callV (sp_M_next hM hW (hT.agr hW hC)) dL_law_526 kw_L_66 rfl h7 rfl rfl (Nat.le_of_ble_eq_true rfl) (Nat.le_of_ble_eq_true rfl) (Nat.le_of_ble_eq_true rfl) ⟨by show 53 + 2 * n + 0 ≤ 600000; omega, by show 48116 + 17 * n + 0 ≤ 7302250; omega⟩ (fun r S1 hq => ?_)
  refine gg_k (k2 := (53 + 2 * n, 48116 + 17 * n)) rfl ?_
  obtain ⟨rfl, hM, hf2⟩ := hq
  refine gg_icmp_eq (tgt := 739) dL_law_529 (by decide) (fun _ => ?_) (fun h => absurd rfl h)
  exact gg_wide (k2 := (53 + 2 * (n + 1), 48116 + 17 * (n + 1))) ⟨by show 53 + 2 * n ≤ 53 + 2 * (n + 1); omega, by show 48116 + 17 * n ≤ 48116 + 17 * (n + 1); omega⟩ (K _ _ (hP1.keepM hW hf2) hM hI.up)
theorem lw_answer {x : gl_X} {Z : State → Prop} {S : gl_H} {s : DS} {n L : Nat} {xs : Nat → Int32} (hL : L ≤ 3072) (hsc : gl_Scr x L xs) (hn : 6 * n + 6 ≤ L) (hP : DP S s) (hM : MP S s) (hI : IV s n) (K : ∀ S1 s1, DP S1 s1 → MP S1 s1 → IV s1 (n + 1) → GG mL_law x Z 739 [some (.ref 1000010), some (.ref 0), some (.ref 70), some (.int (nI (6 * n)))] [] S1 (53 + 2 * (n + 1), 48116 + 17 * (n + 1))) : GG mL_law x Z 534 [some (.ref 1000010), some (.ref 0), some (.ref 70), some (.int (nI (6 * n)))] [] S (53 + 2 * n, 48116 + 17 * n) := by
  have hW := hI.1
  have hC := hI.cw
  obtain ⟨f6, h6⟩ := hP.d0
  refine gg_aload_n dL_law_534 rfl rfl ?_
  refine gg_aload_n dL_law_535 rfl rfl ?_
  refine gg_iload_n dL_law_536 rfl rfl ?_
  refine gg_iconst (v := 1) dL_law_537 (by decide) ?_
  refine gg_iadd dL_law_538 ?_
  refine gg_sld (6 * n + 1) hsc dL_law_539 (nI_add (6 * n) 1) (by omega) (by omega) ?_
  refine gg_aload_n dL_law_540 rfl rfl ?_
  refine gg_iload_n dL_law_541 rfl rfl ?_
  refine gg_iconst (v := 2) dL_law_542 (by decide) ?_
  refine gg_iadd dL_law_543 ?_
  refine gg_sld (6 * n + 2) hsc dL_law_544 (nI_add (6 * n) 2) (by omega) (by omega) ?_
  refine gg_callV (sp_X6_answer hP hW (xs (6 * n + 1)) (xs (6 * n + 2))) dL_law_545 kw_L_67 rfl h6 rfl rfl (Nat.le_of_ble_eq_true rfl) (Nat.le_of_ble_eq_true rfl) (Nat.le_of_ble_eq_true rfl) ⟨by show 53 + 2 * n + 0 ≤ 600000; omega, by show 48116 + 17 * n + 0 ≤ 7302250; omega⟩ (fun r S1 hq => ?_)
  refine gg_k (k2 := (53 + 2 * n, 48116 + 17 * n)) rfl ?_
  obtain ⟨A, o, hT, rfl, hP1, hf⟩ := hq
  rw [ans_e hW hC hT] at hP1 ⊢
  have hM := hM.keep hf
  obtain ⟨f7, h7⟩ := hM.d0
  refine gg_aload_n dL_law_548 rfl rfl ?_
  refine gg_aload_n dL_law_549 rfl rfl ?_
  refine gg_iload_n dL_law_550 rfl rfl ?_
  refine gg_iconst (v := 1) dL_law_551 (by decide) ?_
  refine gg_iadd dL_law_552 ?_
  refine gg_sld (6 * n + 1) hsc dL_law_553 (nI_add (6 * n) 1) (by omega) (by omega) ?_
  refine gg_aload_n dL_law_554 rfl rfl ?_
  refine gg_iload_n dL_law_555 rfl rfl ?_
  refine gg_iconst (v := 2) dL_law_556 (by decide) ?_
  refine gg_iadd dL_law_557 ?_
  refine gg_sld (6 * n + 2) hsc dL_law_558 (nI_add (6 * n) 2) (by omega) (by omega) ?_
  refine gg_callV (sp_M_answer hM hW (gp_b hW hC (fun _ _ => rfl)) (xs (6 * n + 1)) (xs (6 * n + 2))) dL_law_559 kw_L_71 rfl h7 rfl rfl (Nat.le_of_ble_eq_true rfl) (Nat.le_of_ble_eq_true rfl) (Nat.le_of_ble_eq_true rfl) ⟨by show 53 + 2 * n + 0 ≤ 600000; omega, by show 48116 + 17 * n + 0 ≤ 7302250; omega⟩ (fun r S1 hq => ?_)
  refine gg_k (k2 := (53 + 2 * n, 48116 + 17 * n)) rfl ?_
  obtain ⟨rfl, hM, hf2⟩ := hq
  have hI2 : IV ((anN s (bst s) (xs (6 * n + 1)) (xs (6 * n + 2))).getD s) (n + 1) := (hI.an (gpA_in hW hC) (xs (6 * n + 1)) (xs (6 * n + 2))).up
  refine gg_icmp_eq (tgt := 739) dL_law_562 (by decide) (fun _ => ?_) (fun h => absurd rfl h)
  exact gg_wide (k2 := (53 + 2 * (n + 1), 48116 + 17 * (n + 1))) ⟨by show 53 + 2 * n ≤ 53 + 2 * (n + 1); omega, by show 48116 + 17 * n ≤ 48116 + 17 * (n + 1); omega⟩ (K _ _ (hP1.keepM hI2.1 hf2) hM hI2)
theorem lw_hall {x : gl_X} {Z : State → Prop} {S : gl_H} {s : DS} {n L : Nat} {xs : Nat → Int32} (hL : L ≤ 3072) (hsc : gl_Scr x L xs) (hn : 6 * n + 6 ≤ L) (hP : DP S s) (hM : MP S s) (hI : IV s n) (K : ∀ S1 s1, DP S1 s1 → MP S1 s1 → IV s1 (n + 1) → GG mL_law x Z 739 [some (.ref 1000010), some (.ref 0), some (.ref 70), some (.int (nI (6 * n)))] [] S1 (53 + 2 * (n + 1), 48116 + 17 * (n + 1))) : GG mL_law x Z 567 [some (.ref 1000010), some (.ref 0), some (.ref 70), some (.int (nI (6 * n)))] [] S (53 + 2 * n, 48116 + 17 * n) := by
  have hW := hI.1
  have hC := hI.cw
  obtain ⟨f6, h6⟩ := hP.d0
  refine gg_aload_n dL_law_567 rfl rfl ?_
  refine gg_callV (sp_X6_hall hP hW (hO_ok hW)) dL_law_568 kw_L_72 rfl h6 rfl rfl (Nat.le_of_ble_eq_true rfl) (Nat.le_of_ble_eq_true rfl) (Nat.le_of_ble_eq_true rfl) ⟨by show 53 + 2 * n + 0 ≤ 600000; omega, by show 48116 + 17 * n + 0 ≤ 7302250; omega⟩ (fun r S1 hq => ?_)
  refine gg_k (k2 := (53 + 2 * n, 48116 + 17 * n)) rfl ?_
  obtain ⟨o, hT, ⟨o9, ho9, eo9, rfl⟩, hP1, hf⟩ := hq
  rw [hT.hall hW hC ho9 eo9]
  have hM := hM.keep hf
  obtain ⟨f7, h7⟩ := hM.d0
  refine gg_aload_n dL_law_571 rfl rfl ?_
  refine gg_callV (sp_M_hall hM hW) dL_law_572 kw_L_75 rfl h7 rfl rfl (Nat.le_of_ble_eq_true rfl) (Nat.le_of_ble_eq_true rfl) (Nat.le_of_ble_eq_true rfl) ⟨by show 53 + 2 * n + 0 ≤ 600000; omega, by show 48116 + 17 * n + 0 ≤ 7302250; omega⟩ (fun r S1 hq => ?_)
  refine gg_k (k2 := (53 + 2 * n, 48116 + 17 * n)) rfl ?_
  obtain ⟨rfl, hM, hf2⟩ := hq
  refine gg_icmp_eq (tgt := 739) dL_law_575 (by decide) (fun _ => ?_) (fun h => absurd rfl h)
  exact gg_wide (k2 := (53 + 2 * (n + 1), 48116 + 17 * (n + 1))) ⟨by show 53 + 2 * n ≤ 53 + 2 * (n + 1); omega, by show 48116 + 17 * n ≤ 48116 + 17 * (n + 1); omega⟩ (K _ _ (hP1.keepM hW hf2) hM hI.up)
theorem lw_day {x : gl_X} {Z : State → Prop} {S : gl_H} {s : DS} {n L : Nat} {xs : Nat → Int32} (hL : L ≤ 3072) (hsc : gl_Scr x L xs) (hn : 6 * n + 6 ≤ L) (hP : DP S s) (hM : MP S s) (hI : IV s n) (K : ∀ S1 s1, DP S1 s1 → MP S1 s1 → IV s1 (n + 1) → GG mL_law x Z 739 [some (.ref 1000010), some (.ref 0), some (.ref 70), some (.int (nI (6 * n)))] [] S1 (53 + 2 * (n + 1), 48116 + 17 * (n + 1))) : GG mL_law x Z 580 [some (.ref 1000010), some (.ref 0), some (.ref 70), some (.int (nI (6 * n)))] [] S (53 + 2 * n, 48116 + 17 * n) := by
  have hW := hI.1
  have hC := hI.cw
  obtain ⟨f6, h6⟩ := hP.d0
  refine gg_aload_n dL_law_580 rfl rfl ?_
  refine gg_callV (sp_X6_day hP hW) dL_law_581 kw_L_76 rfl h6 rfl rfl (Nat.le_of_ble_eq_true rfl) (Nat.le_of_ble_eq_true rfl) (Nat.le_of_ble_eq_true rfl) ⟨by show 53 + 2 * n + 0 ≤ 600000; omega, by show 48116 + 17 * n + 0 ≤ 7302250; omega⟩ (fun r S1 hq => ?_)
  refine gg_k (k2 := (53 + 2 * n, 48116 + 17 * n)) rfl ?_
  obtain ⟨rfl, hP1, hf⟩ := hq
  have hM := hM.keep hf
  obtain ⟨f7, h7⟩ := hM.d0
  refine gg_aload_n dL_law_584 rfl rfl ?_
  refine gg_callV (sp_M_day hM hW hI.rw hI.sw (by have := hI.2.2.2.2.1.1; omega)) dL_law_585 kw_L_79 rfl h7 rfl rfl (Nat.le_of_ble_eq_true rfl) (Nat.le_of_ble_eq_true rfl) (Nat.le_of_ble_eq_true rfl) ⟨by show 53 + 2 * n + 0 ≤ 600000; omega, by show 48116 + 17 * n + 0 ≤ 7302250; omega⟩ (fun r S1 hq => ?_)
  refine gg_k (k2 := (53 + 2 * n, 48116 + 17 * n)) rfl ?_
  obtain ⟨rfl, hM, hf2⟩ := hq
  have hI2 : IV (dyN s) (n + 1) := hI.dy
  refine gg_icmp_eq (tgt := 739) dL_law_588 (by decide) (fun _ => ?_) (fun h => absurd rfl h)
  exact gg_wide (k2 := (53 + 2 * (n + 1), 48116 + 17 * (n + 1))) ⟨by show 53 + 2 * n ≤ 53 + 2 * (n + 1); omega, by show 48116 + 17 * n ≤ 48116 + 17 * (n + 1); omega⟩ (K _ _ (hP1.keepM hI2.1 hf2) hM hI2)
theorem lw_pay {x : gl_X} {Z : State → Prop} {S : gl_H} {s : DS} {n L : Nat} {xs : Nat → Int32} (hL : L ≤ 3072) (hsc : gl_Scr x L xs) (hn : 6 * n + 6 ≤ L) (hP : DP S s) (hM : MP S s) (hI : IV s n) (K : ∀ S1 s1, DP S1 s1 → MP S1 s1 → IV s1 (n + 1) → GG mL_law x Z 739 [some (.ref 1000010), some (.ref 0), some (.ref 70), some (.int (nI (6 * n)))] [] S1 (53 + 2 * (n + 1), 48116 + 17 * (n + 1))) : GG mL_law x Z 593 [some (.ref 1000010), some (.ref 0), some (.ref 70), some (.int (nI (6 * n)))] [] S (53 + 2 * n, 48116 + 17 * n) := by
  have hW := hI.1
  have hC := hI.cw
  obtain ⟨f6, h6⟩ := hP.d0
  refine gg_aload_n dL_law_593 rfl rfl ?_
  refine gg_aload_n dL_law_594 rfl rfl ?_
  refine gg_iload_n dL_law_595 rfl rfl ?_
  refine gg_iconst (v := 1) dL_law_596 (by decide) ?_
  refine gg_iadd dL_law_597 ?_
  refine gg_sld (6 * n + 1) hsc dL_law_598 (nI_add (6 * n) 1) (by omega) (by omega) ?_
  refine gg_callV (sp_X6_pay hP hW (xs (6 * n + 1))) dL_law_599 kw_L_80 rfl h6 rfl rfl (Nat.le_of_ble_eq_true rfl) (Nat.le_of_ble_eq_true rfl) (Nat.le_of_ble_eq_true rfl) ⟨by show 53 + 2 * n + 0 ≤ 600000; omega, by show 48116 + 17 * n + 0 ≤ 7302250; omega⟩ (fun r S1 hq => ?_)
  refine gg_k (k2 := (53 + 2 * n, 48116 + 17 * n)) rfl ?_
  obtain ⟨rfl, rfl⟩ := hq
  obtain ⟨f7, h7⟩ := hM.d0
  have hM0 := hM
  obtain ⟨A, py, fr, mt, mc, hR, hG, hF⟩ := hM
  refine gg_aload_n dL_law_602 rfl rfl ?_
  refine gg_aload_n dL_law_603 rfl rfl ?_
  refine gg_iload_n dL_law_604 rfl rfl ?_
  refine gg_iconst (v := 1) dL_law_605 (by decide) ?_
  refine gg_iadd dL_law_606 ?_
  refine gg_sld (6 * n + 1) hsc dL_law_607 (nI_add (6 * n) 1) (by omega) (by omega) ?_
  refine gg_callV (sp_X7_pay hR hG hW (xs (6 * n + 1))) dL_law_608 kw_L_84 rfl h7 rfl rfl (Nat.le_of_ble_eq_true rfl) (Nat.le_of_ble_eq_true rfl) (Nat.le_of_ble_eq_true rfl) ⟨by show 53 + 2 * n + 0 ≤ 600000; omega, by show 48116 + 17 * n + 0 ≤ 7302250; omega⟩ (fun r S1 hq => ?_)
  refine gg_k (k2 := (53 + 2 * n, 48116 + 17 * n)) rfl ?_
  obtain ⟨rfl, rfl⟩ := hq
  refine gg_lcmp dL_law_611 ?_
  refine gg_if_eq (tgt := 739) dL_law_612 (by decide) (fun _ => ?_) (fun h => absurd ((lg_cmp_eq _ _).mpr rfl) h)
  exact gg_wide (k2 := (53 + 2 * (n + 1), 48116 + 17 * (n + 1))) ⟨by show 53 + 2 * n ≤ 53 + 2 * (n + 1); omega, by show 48116 + 17 * n ≤ 48116 + 17 * (n + 1); omega⟩ (K _ _ hP hM0 hI.up)
theorem lw_strangers {x : gl_X} {Z : State → Prop} {S : gl_H} {s : DS} {n L : Nat} {xs : Nat → Int32} (hL : L ≤ 3072) (hsc : gl_Scr x L xs) (hn : 6 * n + 6 ≤ L) (hP : DP S s) (hM : MP S s) (hI : IV s n) (K : ∀ S1 s1, DP S1 s1 → MP S1 s1 → IV s1 (n + 1) → GG mL_law x Z 739 [some (.ref 1000010), some (.ref 0), some (.ref 70), some (.int (nI (6 * n)))] [] S1 (53 + 2 * (n + 1), 48116 + 17 * (n + 1))) : GG mL_law x Z 617 [some (.ref 1000010), some (.ref 0), some (.ref 70), some (.int (nI (6 * n)))] [] S (53 + 2 * n, 48116 + 17 * n) := by
  have hW := hI.1
  have hC := hI.cw
  obtain ⟨f6, h6⟩ := hP.d0
  refine gg_aload_n dL_law_617 rfl rfl ?_
  refine gg_aload_n dL_law_618 rfl rfl ?_
  refine gg_iload_n dL_law_619 rfl rfl ?_
  refine gg_iconst (v := 1) dL_law_620 (by decide) ?_
  refine gg_iadd dL_law_621 ?_
  refine gg_sld (6 * n + 1) hsc dL_law_622 (nI_add (6 * n) 1) (by omega) (by omega) ?_
  refine gg_aload_n dL_law_623 rfl rfl ?_
  refine gg_iload_n dL_law_624 rfl rfl ?_
  refine gg_iconst (v := 2) dL_law_625 (by decide) ?_
  refine gg_iadd dL_law_626 ?_
  refine gg_sld (6 * n + 2) hsc dL_law_627 (nI_add (6 * n) 2) (by omega) (by omega) ?_
  refine gg_callV (sp_X6_strangers hP hW (xs (6 * n + 1)) (xs (6 * n + 2))) dL_law_628 kw_L_85 rfl h6 rfl rfl (Nat.le_of_ble_eq_true rfl) (Nat.le_of_ble_eq_true rfl) (Nat.le_of_ble_eq_true rfl) ⟨by show 53 + 2 * n + 0 ≤ 600000; omega, by show 48116 + 17 * n + 0 ≤ 7302250; omega⟩ (fun r S1 hq => ?_)
  refine gg_k (k2 := (53 + 2 * n, 48116 + 17 * n)) rfl ?_
  obtain ⟨rfl, rfl⟩ := hq
  obtain ⟨f7, h7⟩ := hM.d0
  have hM0 := hM
  obtain ⟨A, py, fr, mt, mc, hR, hG, hF⟩ := hM
  refine gg_aload_n dL_law_631 rfl rfl ?_
  refine gg_aload_n dL_law_632 rfl rfl ?_
  refine gg_iload_n dL_law_633 rfl rfl ?_
  refine gg_iconst (v := 1) dL_law_634 (by decide) ?_
  refine gg_iadd dL_law_635 ?_
  refine gg_sld (6 * n + 1) hsc dL_law_636 (nI_add (6 * n) 1) (by omega) (by omega) ?_
  refine gg_aload_n dL_law_637 rfl rfl ?_
  refine gg_iload_n dL_law_638 rfl rfl ?_
  refine gg_iconst (v := 2) dL_law_639 (by decide) ?_
  refine gg_iadd dL_law_640 ?_
  refine gg_sld (6 * n + 2) hsc dL_law_641 (nI_add (6 * n) 2) (by omega) (by omega) ?_
  refine gg_callV (sp_X7_strangers hR hG hW (hI.vw (by omega)) (xs (6 * n + 1)) (xs (6 * n + 2))) dL_law_642 kw_L_88 rfl h7 rfl rfl (Nat.le_of_ble_eq_true rfl) (Nat.le_of_ble_eq_true rfl) (Nat.le_of_ble_eq_true rfl) ⟨by show 53 + 2 * n + 0 ≤ 600000; omega, by show 48116 + 17 * n + 0 ≤ 7302250; omega⟩ (fun r S1 hq => ?_)
  refine gg_k (k2 := (53 + 2 * n, 48116 + 17 * n)) rfl ?_
  obtain ⟨rfl, rfl⟩ := hq
  refine gg_icmp_eq (tgt := 739) dL_law_645 (by decide) (fun _ => ?_) (fun h => absurd rfl h)
  exact gg_wide (k2 := (53 + 2 * (n + 1), 48116 + 17 * (n + 1))) ⟨by show 53 + 2 * n ≤ 53 + 2 * (n + 1); omega, by show 48116 + 17 * n ≤ 48116 + 17 * (n + 1); omega⟩ (K _ _ hP hM0 hI.up)
theorem lw_look {x : gl_X} {Z : State → Prop} {S : gl_H} {s : DS} {n L : Nat} {xs : Nat → Int32} (hL : L ≤ 3072) (hsc : gl_Scr x L xs) (hn : 6 * n + 6 ≤ L) (hP : DP S s) (hM : MP S s) (hI : IV s n) (K : ∀ S1 s1, DP S1 s1 → MP S1 s1 → IV s1 (n + 1) → GG mL_law x Z 739 [some (.ref 1000010), some (.ref 0), some (.ref 70), some (.int (nI (6 * n)))] [] S1 (53 + 2 * (n + 1), 48116 + 17 * (n + 1))) : GG mL_law x Z 650 [some (.ref 1000010), some (.ref 0), some (.ref 70), some (.int (nI (6 * n)))] [] S (53 + 2 * n, 48116 + 17 * n) := by
  have hW := hI.1
  have hC := hI.cw
  obtain ⟨f6, h6⟩ := hP.d0
  refine gg_aload_n dL_law_650 rfl rfl ?_
  refine gg_aload_n dL_law_651 rfl rfl ?_
  refine gg_iload_n dL_law_652 rfl rfl ?_
  refine gg_iconst (v := 1) dL_law_653 (by decide) ?_
  refine gg_iadd dL_law_654 ?_
  refine gg_sld (6 * n + 1) hsc dL_law_655 (nI_add (6 * n) 1) (by omega) (by omega) ?_
  refine gg_aload_n dL_law_656 rfl rfl ?_
  refine gg_iload_n dL_law_657 rfl rfl ?_
  refine gg_iconst (v := 2) dL_law_658 (by decide) ?_
  refine gg_iadd dL_law_659 ?_
  refine gg_sld (6 * n + 2) hsc dL_law_660 (nI_add (6 * n) 2) (by omega) (by omega) ?_
  refine gg_callV (sp_X6_look hP hW (xs (6 * n + 1)) (xs (6 * n + 2))) dL_law_661 kw_L_89 rfl h6 rfl rfl (Nat.le_of_ble_eq_true rfl) (Nat.le_of_ble_eq_true rfl) (Nat.le_of_ble_eq_true rfl) ⟨by show 53 + 2 * n + 0 ≤ 600000; omega, by show 48116 + 17 * n + 0 ≤ 7302250; omega⟩ (fun r S1 hq => ?_)
  refine gg_k (k2 := (53 + 2 * n, 48116 + 17 * n)) rfl ?_
  obtain ⟨rfl, rfl⟩ := hq
  obtain ⟨f7, h7⟩ := hM.d0
  have hM0 := hM
  obtain ⟨A, py, fr, mt, mc, hR, hG, hF⟩ := hM
  refine gg_aload_n dL_law_664 rfl rfl ?_
  refine gg_aload_n dL_law_665 rfl rfl ?_
  refine gg_iload_n dL_law_666 rfl rfl ?_
  refine gg_iconst (v := 1) dL_law_667 (by decide) ?_
  refine gg_iadd dL_law_668 ?_
  refine gg_sld (6 * n + 1) hsc dL_law_669 (nI_add (6 * n) 1) (by omega) (by omega) ?_
  refine gg_aload_n dL_law_670 rfl rfl ?_
  refine gg_iload_n dL_law_671 rfl rfl ?_
  refine gg_iconst (v := 2) dL_law_672 (by decide) ?_
  refine gg_iadd dL_law_673 ?_
  refine gg_sld (6 * n + 2) hsc dL_law_674 (nI_add (6 * n) 2) (by omega) (by omega) ?_
  refine gg_callV (sp_X7_look hR hG hW (xs (6 * n + 1)) (xs (6 * n + 2))) dL_law_675 kw_L_92 rfl h7 rfl rfl (Nat.le_of_ble_eq_true rfl) (Nat.le_of_ble_eq_true rfl) (Nat.le_of_ble_eq_true rfl) ⟨by show 53 + 2 * n + 0 ≤ 600000; omega, by show 48116 + 17 * n + 0 ≤ 7302250; omega⟩ (fun r S1 hq => ?_)
  refine gg_k (k2 := (53 + 2 * n, 48116 + 17 * n)) rfl ?_
  obtain ⟨rfl, rfl⟩ := hq
  refine gg_icmp_eq (tgt := 739) dL_law_678 (by decide) (fun _ => ?_) (fun h => absurd rfl h)
  exact gg_wide (k2 := (53 + 2 * (n + 1), 48116 + 17 * (n + 1))) ⟨by show 53 + 2 * n ≤ 53 + 2 * (n + 1); omega, by show 48116 + 17 * n ≤ 48116 + 17 * (n + 1); omega⟩ (K _ _ hP hM0 hI.up)
theorem lw_about {x : gl_X} {Z : State → Prop} {S : gl_H} {s : DS} {n L : Nat} {xs : Nat → Int32} (hL : L ≤ 3072) (hsc : gl_Scr x L xs) (hn : 6 * n + 6 ≤ L) (hP : DP S s) (hM : MP S s) (hI : IV s n) (K : ∀ S1 s1, DP S1 s1 → MP S1 s1 → IV s1 (n + 1) → GG mL_law x Z 739 [some (.ref 1000010), some (.ref 0), some (.ref 70), some (.int (nI (6 * n)))] [] S1 (53 + 2 * (n + 1), 48116 + 17 * (n + 1))) : GG mL_law x Z 683 [some (.ref 1000010), some (.ref 0), some (.ref 70), some (.int (nI (6 * n)))] [] S (53 + 2 * n, 48116 + 17 * n) := by
  have hW := hI.1
  have hC := hI.cw
  obtain ⟨f6, h6⟩ := hP.d0
  refine gg_aload_n dL_law_683 rfl rfl ?_
  refine gg_aload_n dL_law_684 rfl rfl ?_
  refine gg_iload_n dL_law_685 rfl rfl ?_
  refine gg_iconst (v := 1) dL_law_686 (by decide) ?_
  refine gg_iadd dL_law_687 ?_
  refine gg_sld (6 * n + 1) hsc dL_law_688 (nI_add (6 * n) 1) (by omega) (by omega) ?_
  refine gg_aload_n dL_law_689 rfl rfl ?_
  refine gg_iload_n dL_law_690 rfl rfl ?_
  refine gg_iconst (v := 2) dL_law_691 (by decide) ?_
  refine gg_iadd dL_law_692 ?_
  refine gg_sld (6 * n + 2) hsc dL_law_693 (nI_add (6 * n) 2) (by omega) (by omega) ?_
  refine gg_callV (sp_X6_about hP hW (xs (6 * n + 1)) (xs (6 * n + 2))) dL_law_694 kw_L_93 rfl h6 rfl rfl (Nat.le_of_ble_eq_true rfl) (Nat.le_of_ble_eq_true rfl) (Nat.le_of_ble_eq_true rfl) ⟨by show 53 + 2 * n + 0 ≤ 600000; omega, by show 48116 + 17 * n + 0 ≤ 7302250; omega⟩ (fun r S1 hq => ?_)
  refine gg_k (k2 := (53 + 2 * n, 48116 + 17 * n)) rfl ?_
  obtain ⟨rfl, rfl⟩ := hq
  obtain ⟨f7, h7⟩ := hM.d0
  have hM0 := hM
  obtain ⟨A, py, fr, mt, mc, hR, hG, hF⟩ := hM
  refine gg_aload_n dL_law_697 rfl rfl ?_
  refine gg_aload_n dL_law_698 rfl rfl ?_
  refine gg_iload_n dL_law_699 rfl rfl ?_
  refine gg_iconst (v := 1) dL_law_700 (by decide) ?_
  refine gg_iadd dL_law_701 ?_
  refine gg_sld (6 * n + 1) hsc dL_law_702 (nI_add (6 * n) 1) (by omega) (by omega) ?_
  refine gg_aload_n dL_law_703 rfl rfl ?_
  refine gg_iload_n dL_law_704 rfl rfl ?_
  refine gg_iconst (v := 2) dL_law_705 (by decide) ?_
  refine gg_iadd dL_law_706 ?_
  refine gg_sld (6 * n + 2) hsc dL_law_707 (nI_add (6 * n) 2) (by omega) (by omega) ?_
  refine gg_callV (sp_X7_about hR hG hW (xs (6 * n + 1)) (xs (6 * n + 2))) dL_law_708 kw_L_96 rfl h7 rfl rfl (Nat.le_of_ble_eq_true rfl) (Nat.le_of_ble_eq_true rfl) (Nat.le_of_ble_eq_true rfl) ⟨by show 53 + 2 * n + 0 ≤ 600000; omega, by show 48116 + 17 * n + 0 ≤ 7302250; omega⟩ (fun r S1 hq => ?_)
  refine gg_k (k2 := (53 + 2 * n, 48116 + 17 * n)) rfl ?_
  obtain ⟨rfl, rfl⟩ := hq
  refine gg_icmp_eq (tgt := 739) dL_law_711 (by decide) (fun _ => ?_) (fun h => absurd rfl h)
  exact gg_wide (k2 := (53 + 2 * (n + 1), 48116 + 17 * (n + 1))) ⟨by show 53 + 2 * n ≤ 53 + 2 * (n + 1); omega, by show 48116 + 17 * n ≤ 48116 + 17 * (n + 1); omega⟩ (K _ _ hP hM0 hI.up)
theorem lw_count {x : gl_X} {Z : State → Prop} {S : gl_H} {s : DS} {n L : Nat} {xs : Nat → Int32} (hL : L ≤ 3072) (hsc : gl_Scr x L xs) (hn : 6 * n + 6 ≤ L) (hP : DP S s) (hM : MP S s) (hI : IV s n) (K : ∀ S1 s1, DP S1 s1 → MP S1 s1 → IV s1 (n + 1) → GG mL_law x Z 739 [some (.ref 1000010), some (.ref 0), some (.ref 70), some (.int (nI (6 * n)))] [] S1 (53 + 2 * (n + 1), 48116 + 17 * (n + 1))) : GG mL_law x Z 716 [some (.ref 1000010), some (.ref 0), some (.ref 70), some (.int (nI (6 * n)))] [] S (53 + 2 * n, 48116 + 17 * n) := by
  have hW := hI.1
  have hC := hI.cw
  obtain ⟨f6, h6⟩ := hP.d0
  refine gg_aload_n dL_law_716 rfl rfl ?_
  refine gg_aload_n dL_law_717 rfl rfl ?_
  refine gg_iload_n dL_law_718 rfl rfl ?_
  refine gg_iconst (v := 1) dL_law_719 (by decide) ?_
  refine gg_iadd dL_law_720 ?_
  refine gg_sld (6 * n + 1) hsc dL_law_721 (nI_add (6 * n) 1) (by omega) (by omega) ?_
  refine gg_callV (sp_X6_count hP hW (xs (6 * n + 1))) dL_law_722 kw_L_97 rfl h6 rfl rfl (Nat.le_of_ble_eq_true rfl) (Nat.le_of_ble_eq_true rfl) (Nat.le_of_ble_eq_true rfl) ⟨by show 53 + 2 * n + 0 ≤ 600000; omega, by show 48116 + 17 * n + 0 ≤ 7302250; omega⟩ (fun r S1 hq => ?_)
  refine gg_k (k2 := (53 + 2 * n, 48116 + 17 * n)) rfl ?_
  obtain ⟨rfl, rfl⟩ := hq
  obtain ⟨f7, h7⟩ := hM.d0
  have hM0 := hM
  obtain ⟨A, py, fr, mt, mc, hR, hG, hF⟩ := hM
  refine gg_aload_n dL_law_725 rfl rfl ?_
  refine gg_aload_n dL_law_726 rfl rfl ?_
  refine gg_iload_n dL_law_727 rfl rfl ?_
  refine gg_iconst (v := 1) dL_law_728 (by decide) ?_
  refine gg_iadd dL_law_729 ?_
  refine gg_sld (6 * n + 1) hsc dL_law_730 (nI_add (6 * n) 1) (by omega) (by omega) ?_
  refine gg_callV (sp_X7_count hR hG hW (by have := hI.2.2.2.2.1.1; omega) (xs (6 * n + 1))) dL_law_731 kw_L_100 rfl h7 rfl rfl (Nat.le_of_ble_eq_true rfl) (Nat.le_of_ble_eq_true rfl) (Nat.le_of_ble_eq_true rfl) ⟨by show 53 + 2 * n + 0 ≤ 600000; omega, by show 48116 + 17 * n + 0 ≤ 7302250; omega⟩ (fun r S1 hq => ?_)
  refine gg_k (k2 := (53 + 2 * n, 48116 + 17 * n)) rfl ?_
  obtain ⟨rfl, rfl⟩ := hq
  refine gg_icmp_eq (tgt := 739) dL_law_734 (by decide) (fun _ => ?_) (fun h => absurd rfl h)
  exact gg_wide (k2 := (53 + 2 * (n + 1), 48116 + 17 * (n + 1))) ⟨by show 53 + 2 * n ≤ 53 + 2 * (n + 1); omega, by show 48116 + 17 * n ≤ 48116 + 17 * (n + 1); omega⟩ (K _ _ hP hM0 hI.up)
