/-! the law's loop -/
section Lw
variable {l : Launch} {g : Gc} {sl ru : Nat}
set_option maxHeartbeats 4000000 in
theorem law_loop (hg : Gok g) {K : Kt} (hK : Gd l g "GradientShardsLaw" b_Lw_law 4 8 K) {b L : Nat} {xs : Nat → Int32} (hL : L ≤ 2051) (hsl : sl ≤ 3) (hru : ru ≤ 2)
    (hsld : ∀ (pc : Nat) (lv st : List Value) (σ : Sg) (j : Nat), decode b_Lw_law pc = .ok (.iaload, 1) → j < L → K (pc + 1) lv (.int (xs j) :: st) σ → K pc lv (.int (nI j) :: .ref b :: st) σ)
    (hslen : ∀ (pc : Nat) (lv st : List Value) (σ : Sg), decode b_Lw_law pc = .ok (.arraylength, 1) → K (pc + 1) lv (.int (nI L) :: st) σ → K pc lv (.ref b :: st) σ)
    (hret : ∀ (pc : Nat) (lv : List Value) (σ : Sg), decode b_Lw_law pc = .ok (.ireturn, 1) → K pc lv [.int (nI 1)] σ) :
    ∀ (d n : Nat) (s : Sp) (σ : Sg), L < 3 + 4 * n + 4 * d + 4 → AI g.2.1 n s → CP g.2.1 sl ru s σ → MP g.2.1 sl ru s σ → 4 * n ≤ 2051 → K 48 [.ref b, .ref (g.1 0 0), .ref (g.1 16 0), .int (nI (3 + 4 * n))] [] σ := by
  intro d
  induction d with
  | zero =>
    intro n s σ hd hA hC hM hn
    refine r_iload_n hK d_Lw_law_48 rfl rfl ?_
    refine r_aload_n hK d_Lw_law_49 rfl rfl ?_
    refine hslen _ _ _ _ d_Lw_law_50 ?_
    refine r_iconst (v := nI 4) hK d_Lw_law_51 (by decide) ?_
    refine r_isub hK d_Lw_law_52 rfl ?_
    refine r_icmp_gt (tgt := 662) hK d_Lw_law_53 (by decide) (fun _ => ?_) (fun hno => absurd ((gt_subI (by omega) (by omega)).mpr (by omega)) hno)
    refine r_iconst (v := nI 1) hK d_Lw_law_662 (by decide) ?_
    exact hret _ _ _ d_Lw_law_663
  | succ d ih =>
    intro n s σ hd hA hC hM hn
    by_cases hend : L < 3 + 4 * n + 4
    · refine r_iload_n hK d_Lw_law_48 rfl rfl ?_
      refine r_aload_n hK d_Lw_law_49 rfl rfl ?_
      refine hslen _ _ _ _ d_Lw_law_50 ?_
      refine r_iconst (v := nI 4) hK d_Lw_law_51 (by decide) ?_
      refine r_isub hK d_Lw_law_52 rfl ?_
      refine r_icmp_gt (tgt := 662) hK d_Lw_law_53 (by decide) (fun _ => ?_) (fun hno => absurd ((gt_subI (by omega) (by omega)).mpr hend) hno)
      refine r_iconst (v := nI 1) hK d_Lw_law_662 (by decide) ?_
      exact hret _ _ _ d_Lw_law_663
    · have hn1 : n + 1 ≤ 512 := by omega
      have hA1 := AI_more hA hn1
      have hmk : ∀ l, l < 3 * g.2.1 → s.1 1 l 0 < n + 1 := fun l hl => by have := (hA.2.2.1 l hl).2.2.1; omega
      have hmk5 : ∀ l, l < 3 * g.2.1 → s.1 1 l 0 < 512 := fun l hl => by have := (hA.2.2.1 l hl).2.2.1; omega
      have hck : ∀ v, v < g.2.1 → s.1 0 v 0 < n + 1 := fun v hv => by have := hA.2.1 v hv; omega
      have htm := hA.1.2.2.2.2
      have hT20 : s.1 12 0 0 + 20 ≤ 20 * (n + 1) := by omega
      have hT1 : s.1 12 0 0 + 1 ≤ 20 * (n + 1) := by omega
      have hih := fun s σ => ih (n + 1) s σ (by omega)
      obtain ⟨c, hc, hcx⟩ := and31 (xs (3 + 4 * n))
      refine r_iload_n hK d_Lw_law_48 rfl rfl ?_
      refine r_aload_n hK d_Lw_law_49 rfl rfl ?_
      refine hslen _ _ _ _ d_Lw_law_50 ?_
      refine r_iconst (v := nI 4) hK d_Lw_law_51 (by decide) ?_
      refine r_isub hK d_Lw_law_52 rfl ?_
      refine r_icmp_gt (tgt := 662) hK d_Lw_law_53 (by decide) (fun hno => absurd hno (fun z => hend ((gt_subI (by omega) (by omega)).mp z))) (fun _ => ?_)
      refine r_aload_n hK d_Lw_law_56 rfl rfl ?_
      refine r_iload_n hK d_Lw_law_57 rfl rfl ?_
      refine hsld _ _ _ _ _ d_Lw_law_58 (by omega) ?_
      refine r_bipush (v := nI 31) hK d_Lw_law_59 (by decide) ?_
      refine r_iand hK d_Lw_law_61 hcx ?_
      skip
      have hnext : ∀ s σ, AI g.2.1 (n + 1) s → CP g.2.1 sl ru s σ → MP g.2.1 sl ru s σ → K 656 [.ref b, .ref (g.1 0 0), .ref (g.1 16 0), .int (nI (3 + 4 * n))] [] σ := by
        intro s σ hA2 hC2 hM2
        refine r_iinc hK d_Lw_law_656 rfl (nI_add _ 4) rfl ?_
        refine r_goto (tgt := 48) hK d_Lw_law_659 (by decide) ?_
        exact hih s σ hA2 hC2 hM2 (by omega)
      by_cases hc19 : 19 < c
      · refine r_tableOut (tgt := 656) hK d_Lw_law_62 (Or.inr (by rw [nI_toInt (by omega)]; omega)) (by decide) ?_
        exact hnext s σ hA1 hC hM
      rcases (by omega : c = 0 ∨ c = 1 ∨ c = 2 ∨ c = 3 ∨ c = 4 ∨ c = 5 ∨ c = 6 ∨ c = 7 ∨ c = 8 ∨ c = 9 ∨ c = 10 ∨ c = 11 ∨ c = 12 ∨ c = 13 ∨ c = 14 ∨ c = 15 ∨ c = 16 ∨ c = 17 ∨ c = 18 ∨ c = 19) with rfl | rfl | rfl | rfl | rfl | rfl | rfl | rfl | rfl | rfl | rfl | rfl | rfl | rfl | rfl | rfl | rfl | rfl | rfl | rfl
      · refine r_tableIn (off := 94) (tgt := 156) hK d_Lw_law_62 (by decide) (by decide) (by decide) (by decide) ?_
        refine r_aload_n hK d_Lw_law_156 rfl rfl ?_
        refine r_aload_n hK d_Lw_law_157 rfl rfl ?_
        refine r_iload_n hK d_Lw_law_158 rfl rfl ?_
        refine r_iconst (v := nI 1) hK d_Lw_law_159 (by decide) ?_
        refine r_iadd hK d_Lw_law_160 (nI_add _ _) ?_
        refine hsld _ _ _ _ _ d_Lw_law_161 (by omega) ?_
        refine r_aload_n hK d_Lw_law_162 rfl rfl ?_
        refine r_iload_n hK d_Lw_law_163 rfl rfl ?_
        refine r_iconst (v := nI 2) hK d_Lw_law_164 (by decide) ?_
        refine r_iadd hK d_Lw_law_165 (nI_add _ _) ?_
        refine hsld _ _ _ _ _ d_Lw_law_166 (by omega) ?_
        refine r_aload_n hK d_Lw_law_167 rfl rfl ?_
        refine r_iload_n hK d_Lw_law_168 rfl rfl ?_
        refine r_iconst (v := nI 3) hK d_Lw_law_169 (by decide) ?_
        refine r_iadd hK d_Lw_law_170 (nI_add _ _) ?_
        refine hsld _ _ _ _ _ d_Lw_law_171 (by omega) ?_
        refine r_callVP hK d_Lw_law_172 m_Lw_21 rfl (in_fix rfl) (c_Gs_add hg hC hA1 hsl _ _ _) (by decide) rfl rfl rfl (fun r9 τ9 hP9 => ?_)
        obtain ⟨rfl, hC2, hF2⟩ := hP9
        have hM2 := MP_fr hM hF2
        refine r_aload_n hK d_Lw_law_175 rfl rfl ?_
        refine r_aload_n hK d_Lw_law_176 rfl rfl ?_
        refine r_iload_n hK d_Lw_law_177 rfl rfl ?_
        refine r_iconst (v := nI 1) hK d_Lw_law_178 (by decide) ?_
        refine r_iadd hK d_Lw_law_179 (nI_add _ _) ?_
        refine hsld _ _ _ _ _ d_Lw_law_180 (by omega) ?_
        refine r_aload_n hK d_Lw_law_181 rfl rfl ?_
        refine r_iload_n hK d_Lw_law_182 rfl rfl ?_
        refine r_iconst (v := nI 2) hK d_Lw_law_183 (by decide) ?_
        refine r_iadd hK d_Lw_law_184 (nI_add _ _) ?_
        refine hsld _ _ _ _ _ d_Lw_law_185 (by omega) ?_
        refine r_aload_n hK d_Lw_law_186 rfl rfl ?_
        refine r_iload_n hK d_Lw_law_187 rfl rfl ?_
        refine r_iconst (v := nI 3) hK d_Lw_law_188 (by decide) ?_
        refine r_iadd hK d_Lw_law_189 (nI_add _ _) ?_
        refine hsld _ _ _ _ _ d_Lw_law_190 (by omega) ?_
        refine r_callVP hK d_Lw_law_191 m_Lw_25 rfl (in_fix rfl) (c_Md_add hg hM2 hA1 hsl hmk5 _ _ _) (by decide) rfl rfl rfl (fun r9 τ9 hP9 => ?_)
        obtain ⟨rfl, hM3, hF3⟩ := hP9
        refine r_icmp_eq (tgt := 656) hK d_Lw_law_194 (by decide) (fun _ => ?_) (fun hno => absurd (rfl) hno)
        exact hnext _ _ (AI_addR hA1 hmk _ _ _) (CP_fr hC2 hF3) hM3
      · refine r_tableIn (off := 137) (tgt := 199) hK d_Lw_law_62 (by decide) (by decide) (by decide) (by decide) ?_
        refine r_aload_n hK d_Lw_law_199 rfl rfl ?_
        refine r_aload_n hK d_Lw_law_200 rfl rfl ?_
        refine r_iload_n hK d_Lw_law_201 rfl rfl ?_
        refine r_iconst (v := nI 1) hK d_Lw_law_202 (by decide) ?_
        refine r_iadd hK d_Lw_law_203 (nI_add _ _) ?_
        refine hsld _ _ _ _ _ d_Lw_law_204 (by omega) ?_
        refine r_callVP hK d_Lw_law_205 m_Lw_26 rfl (in_fix rfl) (c_Gs_advance hg hC hA1 hsl hmk _) (by decide) rfl rfl rfl (fun r9 τ9 hP9 => ?_)
        obtain ⟨rfl, hC2, hF2⟩ := hP9
        have hM2 := MP_fr hM hF2
        refine r_aload_n hK d_Lw_law_208 rfl rfl ?_
        refine r_aload_n hK d_Lw_law_209 rfl rfl ?_
        refine r_iload_n hK d_Lw_law_210 rfl rfl ?_
        refine r_iconst (v := nI 1) hK d_Lw_law_211 (by decide) ?_
        refine r_iadd hK d_Lw_law_212 (nI_add _ _) ?_
        refine hsld _ _ _ _ _ d_Lw_law_213 (by omega) ?_
        refine r_callVP hK d_Lw_law_214 m_Lw_30 rfl (in_fix rfl) (c_Md_advance hg hM2 hA1 hsl hmk _) (by decide) rfl rfl rfl (fun r9 τ9 hP9 => ?_)
        obtain ⟨rfl, hM3, hF3⟩ := hP9
        refine r_icmp_eq (tgt := 656) hK d_Lw_law_217 (by decide) (fun _ => ?_) (fun hno => absurd (rfl) hno)
        exact hnext _ _ (AI_advR hA1 hmk hck _) (CP_fr hC2 hF3) hM3
      · refine r_tableIn (off := 160) (tgt := 222) hK d_Lw_law_62 (by decide) (by decide) (by decide) (by decide) ?_
        refine r_aload_n hK d_Lw_law_222 rfl rfl ?_
        refine r_aload_n hK d_Lw_law_223 rfl rfl ?_
        refine r_iload_n hK d_Lw_law_224 rfl rfl ?_
        refine r_iconst (v := nI 1) hK d_Lw_law_225 (by decide) ?_
        refine r_iadd hK d_Lw_law_226 (nI_add _ _) ?_
        refine hsld _ _ _ _ _ d_Lw_law_227 (by omega) ?_
        refine r_aload_n hK d_Lw_law_228 rfl rfl ?_
        refine r_iload_n hK d_Lw_law_229 rfl rfl ?_
        refine r_iconst (v := nI 2) hK d_Lw_law_230 (by decide) ?_
        refine r_iadd hK d_Lw_law_231 (nI_add _ _) ?_
        refine hsld _ _ _ _ _ d_Lw_law_232 (by omega) ?_
        refine r_callVI hK d_Lw_law_233 m_Lw_31 rfl (in_fix rfl) (c_Gs_ready hg hC hA1 hsl _ _) (by decide) rfl rfl rfl ?_
        refine r_aload_n hK d_Lw_law_236 rfl rfl ?_
        refine r_aload_n hK d_Lw_law_237 rfl rfl ?_
        refine r_iload_n hK d_Lw_law_238 rfl rfl ?_
        refine r_iconst (v := nI 1) hK d_Lw_law_239 (by decide) ?_
        refine r_iadd hK d_Lw_law_240 (nI_add _ _) ?_
        refine hsld _ _ _ _ _ d_Lw_law_241 (by omega) ?_
        refine r_aload_n hK d_Lw_law_242 rfl rfl ?_
        refine r_iload_n hK d_Lw_law_243 rfl rfl ?_
        refine r_iconst (v := nI 2) hK d_Lw_law_244 (by decide) ?_
        refine r_iadd hK d_Lw_law_245 (nI_add _ _) ?_
        refine hsld _ _ _ _ _ d_Lw_law_246 (by omega) ?_
        refine r_callVI hK d_Lw_law_247 m_Lw_35 rfl (in_fix rfl) (c_Md_ready hg hM hA1 hsl _ _) (by decide) rfl rfl rfl ?_
        refine r_icmp_eq (tgt := 656) hK d_Lw_law_250 (by decide) (fun _ => ?_) (fun hno => absurd (rfl) hno)
        exact hnext s σ hA1 hC hM
      · refine r_tableIn (off := 193) (tgt := 255) hK d_Lw_law_62 (by decide) (by decide) (by decide) (by decide) ?_
        refine r_aload_n hK d_Lw_law_255 rfl rfl ?_
        refine r_aload_n hK d_Lw_law_256 rfl rfl ?_
        refine r_iload_n hK d_Lw_law_257 rfl rfl ?_
        refine r_iconst (v := nI 1) hK d_Lw_law_258 (by decide) ?_
        refine r_iadd hK d_Lw_law_259 (nI_add _ _) ?_
        refine hsld _ _ _ _ _ d_Lw_law_260 (by omega) ?_
        refine r_aload_n hK d_Lw_law_261 rfl rfl ?_
        refine r_iload_n hK d_Lw_law_262 rfl rfl ?_
        refine r_iconst (v := nI 2) hK d_Lw_law_263 (by decide) ?_
        refine r_iadd hK d_Lw_law_264 (nI_add _ _) ?_
        refine hsld _ _ _ _ _ d_Lw_law_265 (by omega) ?_
        refine r_callVP hK d_Lw_law_266 m_Lw_36 rfl (in_fix rfl) (c_Gs_pull hg hC hA1 hsl _ _) (by decide) rfl rfl rfl (fun r9 τ9 hP9 => ?_)
        obtain ⟨rfl, hC2, hF2⟩ := hP9
        have hM2 := MP_fr hM hF2
        refine r_aload_n hK d_Lw_law_269 rfl rfl ?_
        refine r_aload_n hK d_Lw_law_270 rfl rfl ?_
        refine r_iload_n hK d_Lw_law_271 rfl rfl ?_
        refine r_iconst (v := nI 1) hK d_Lw_law_272 (by decide) ?_
        refine r_iadd hK d_Lw_law_273 (nI_add _ _) ?_
        refine hsld _ _ _ _ _ d_Lw_law_274 (by omega) ?_
        refine r_aload_n hK d_Lw_law_275 rfl rfl ?_
        refine r_iload_n hK d_Lw_law_276 rfl rfl ?_
        refine r_iconst (v := nI 2) hK d_Lw_law_277 (by decide) ?_
        refine r_iadd hK d_Lw_law_278 (nI_add _ _) ?_
        refine hsld _ _ _ _ _ d_Lw_law_279 (by omega) ?_
        refine r_callVP hK d_Lw_law_280 m_Lw_40 rfl (in_fix rfl) (c_Md_pull hg hM2 hA1 hsl hru _ _) (by decide) rfl rfl rfl (fun r9 τ9 hP9 => ?_)
        obtain ⟨rfl, hM3, hF3⟩ := hP9
        refine r_icmp_eq (tgt := 656) hK d_Lw_law_283 (by decide) (fun _ => ?_) (fun hno => absurd (rfl) hno)
        exact hnext _ _ hA1 (CP_fr hC2 hF3) hM3
      · refine r_tableIn (off := 226) (tgt := 288) hK d_Lw_law_62 (by decide) (by decide) (by decide) (by decide) ?_
        refine r_aload_n hK d_Lw_law_288 rfl rfl ?_
        refine r_aload_n hK d_Lw_law_289 rfl rfl ?_
        refine r_iload_n hK d_Lw_law_290 rfl rfl ?_
        refine r_iconst (v := nI 1) hK d_Lw_law_291 (by decide) ?_
        refine r_iadd hK d_Lw_law_292 (nI_add _ _) ?_
        refine hsld _ _ _ _ _ d_Lw_law_293 (by omega) ?_
        refine r_callVP hK d_Lw_law_294 m_Lw_41 rfl (in_fix rfl) (c_Gs_clock hg hC hA1 _) (by decide) rfl rfl rfl (fun r9 τ9 hP9 => ?_)
        obtain ⟨rfl, hC2, hF2⟩ := hP9
        have hM2 := MP_fr hM hF2
        refine r_aload_n hK d_Lw_law_297 rfl rfl ?_
        refine r_aload_n hK d_Lw_law_298 rfl rfl ?_
        refine r_iload_n hK d_Lw_law_299 rfl rfl ?_
        refine r_iconst (v := nI 1) hK d_Lw_law_300 (by decide) ?_
        refine r_iadd hK d_Lw_law_301 (nI_add _ _) ?_
        refine hsld _ _ _ _ _ d_Lw_law_302 (by omega) ?_
        refine r_callVP hK d_Lw_law_303 m_Lw_45 rfl (in_fix rfl) (c_Md_clock hg hM2 hA1 _) (by decide) rfl rfl rfl (fun r9 τ9 hP9 => ?_)
        obtain ⟨rfl, hM3, hF3⟩ := hP9
        refine r_icmp_eq (tgt := 656) hK d_Lw_law_306 (by decide) (fun _ => ?_) (fun hno => absurd (rfl) hno)
        exact hnext _ _ hA1 (CP_fr hC2 hF3) hM3
      · refine r_tableIn (off := 249) (tgt := 311) hK d_Lw_law_62 (by decide) (by decide) (by decide) (by decide) ?_
        refine r_aload_n hK d_Lw_law_311 rfl rfl ?_
        refine r_aload_n hK d_Lw_law_312 rfl rfl ?_
        refine r_iload_n hK d_Lw_law_313 rfl rfl ?_
        refine r_iconst (v := nI 1) hK d_Lw_law_314 (by decide) ?_
        refine r_iadd hK d_Lw_law_315 (nI_add _ _) ?_
        refine hsld _ _ _ _ _ d_Lw_law_316 (by omega) ?_
        refine r_callVP hK d_Lw_law_317 m_Lw_46 rfl (in_fix rfl) (c_Gs_deliver hg hC hA1 hru _) (by decide) rfl rfl rfl (fun r9 τ9 hP9 => ?_)
        obtain ⟨rfl, hC2, hF2⟩ := hP9
        have hM2 := MP_fr hM hF2
        refine r_aload_n hK d_Lw_law_320 rfl rfl ?_
        refine r_aload_n hK d_Lw_law_321 rfl rfl ?_
        refine r_iload_n hK d_Lw_law_322 rfl rfl ?_
        refine r_iconst (v := nI 1) hK d_Lw_law_323 (by decide) ?_
        refine r_iadd hK d_Lw_law_324 (nI_add _ _) ?_
        refine hsld _ _ _ _ _ d_Lw_law_325 (by omega) ?_
        refine r_callVP hK d_Lw_law_326 m_Lw_49 rfl (in_fix rfl) (c_Md_deliver hg hM2 hA1 _) (by decide) rfl rfl rfl (fun r9 τ9 hP9 => ?_)
        obtain ⟨rfl, hM3, hF3⟩ := hP9
        refine r_icmp_eq (tgt := 656) hK d_Lw_law_329 (by decide) (fun _ => ?_) (fun hno => absurd (rfl) hno)
        exact hnext _ _ (AI_dlvR hA1 _) (CP_fr hC2 hF3) hM3
      · refine r_tableIn (off := 272) (tgt := 334) hK d_Lw_law_62 (by decide) (by decide) (by decide) (by decide) ?_
        refine r_aload_n hK d_Lw_law_334 rfl rfl ?_
        refine r_aload_n hK d_Lw_law_335 rfl rfl ?_
        refine r_iload_n hK d_Lw_law_336 rfl rfl ?_
        refine r_iconst (v := nI 1) hK d_Lw_law_337 (by decide) ?_
        refine r_iadd hK d_Lw_law_338 (nI_add _ _) ?_
        refine hsld _ _ _ _ _ d_Lw_law_339 (by omega) ?_
        refine r_callVP hK d_Lw_law_340 m_Lw_50 rfl (in_fix rfl) (c_Gs_drop hg hC hA1 _) (by decide) rfl rfl rfl (fun r9 τ9 hP9 => ?_)
        obtain ⟨rfl, hC2, hF2⟩ := hP9
        have hM2 := MP_fr hM hF2
        refine r_aload_n hK d_Lw_law_343 rfl rfl ?_
        refine r_aload_n hK d_Lw_law_344 rfl rfl ?_
        refine r_iload_n hK d_Lw_law_345 rfl rfl ?_
        refine r_iconst (v := nI 1) hK d_Lw_law_346 (by decide) ?_
        refine r_iadd hK d_Lw_law_347 (nI_add _ _) ?_
        refine hsld _ _ _ _ _ d_Lw_law_348 (by omega) ?_
        refine r_callVP hK d_Lw_law_349 m_Lw_53 rfl (in_fix rfl) (c_Md_drop hg hM2 hA1 _) (by decide) rfl rfl rfl (fun r9 τ9 hP9 => ?_)
        obtain ⟨rfl, hM3, hF3⟩ := hP9
        refine r_icmp_eq (tgt := 656) hK d_Lw_law_352 (by decide) (fun _ => ?_) (fun hno => absurd (rfl) hno)
        exact hnext _ _ (AI_drpR hA1 _) (CP_fr hC2 hF3) hM3
      · refine r_tableIn (off := 295) (tgt := 357) hK d_Lw_law_62 (by decide) (by decide) (by decide) (by decide) ?_
        refine r_aload_n hK d_Lw_law_357 rfl rfl ?_
        refine r_aload_n hK d_Lw_law_358 rfl rfl ?_
        refine r_iload_n hK d_Lw_law_359 rfl rfl ?_
        refine r_iconst (v := nI 1) hK d_Lw_law_360 (by decide) ?_
        refine r_iadd hK d_Lw_law_361 (nI_add _ _) ?_
        refine hsld _ _ _ _ _ d_Lw_law_362 (by omega) ?_
        refine r_callVP hK d_Lw_law_363 m_Lw_54 rfl (in_fix rfl) (c_Gs_copy hg hC hA1 _) (by decide) rfl rfl rfl (fun r9 τ9 hP9 => ?_)
        obtain ⟨rfl, hC2, hF2⟩ := hP9
        have hM2 := MP_fr hM hF2
        refine r_aload_n hK d_Lw_law_366 rfl rfl ?_
        refine r_aload_n hK d_Lw_law_367 rfl rfl ?_
        refine r_iload_n hK d_Lw_law_368 rfl rfl ?_
        refine r_iconst (v := nI 1) hK d_Lw_law_369 (by decide) ?_
        refine r_iadd hK d_Lw_law_370 (nI_add _ _) ?_
        refine hsld _ _ _ _ _ d_Lw_law_371 (by omega) ?_
        refine r_callVP hK d_Lw_law_372 m_Lw_57 rfl (in_fix rfl) (c_Md_copy hg hM2 hA1 _) (by decide) rfl rfl rfl (fun r9 τ9 hP9 => ?_)
        obtain ⟨rfl, hM3, hF3⟩ := hP9
        refine r_icmp_eq (tgt := 656) hK d_Lw_law_375 (by decide) (fun _ => ?_) (fun hno => absurd (rfl) hno)
        exact hnext _ _ (AI_cpyR hA1 _) (CP_fr hC2 hF3) hM3
      · refine r_tableIn (off := 318) (tgt := 380) hK d_Lw_law_62 (by decide) (by decide) (by decide) (by decide) ?_
        refine r_aload_n hK d_Lw_law_380 rfl rfl ?_
        refine r_callVP hK d_Lw_law_381 m_Lw_58 rfl (in_fix rfl) (c_Gs_tick hg hC hA1 hT1) (by decide) rfl rfl rfl (fun r9 τ9 hP9 => ?_)
        obtain ⟨rfl, hC2, hF2⟩ := hP9
        have hM2 := MP_fr hM hF2
        refine r_aload_n hK d_Lw_law_384 rfl rfl ?_
        refine r_callVP hK d_Lw_law_385 m_Lw_62 rfl (in_fix rfl) (c_Md_tick hg hM2 hA1 hT1) (by decide) rfl rfl rfl (fun r9 τ9 hP9 => ?_)
        obtain ⟨rfl, hM3, hF3⟩ := hP9
        refine r_icmp_eq (tgt := 656) hK d_Lw_law_388 (by decide) (fun _ => ?_) (fun hno => absurd (rfl) hno)
        exact hnext _ _ (AI_tck hA1 hT1).1 (CP_fr hC2 hF3) hM3
      · refine r_tableIn (off := 331) (tgt := 393) hK d_Lw_law_62 (by decide) (by decide) (by decide) (by decide) ?_
        refine r_aload_n hK d_Lw_law_393 rfl rfl ?_
        refine r_aload_n hK d_Lw_law_394 rfl rfl ?_
        refine r_iload_n hK d_Lw_law_395 rfl rfl ?_
        refine r_iconst (v := nI 1) hK d_Lw_law_396 (by decide) ?_
        refine r_iadd hK d_Lw_law_397 (nI_add _ _) ?_
        refine hsld _ _ _ _ _ d_Lw_law_398 (by omega) ?_
        refine r_callVP hK d_Lw_law_399 m_Lw_63 rfl (in_fix rfl) (c_Gs_run hg hC hA1 hru hT20 _) (by decide) rfl rfl rfl (fun r9 τ9 hP9 => ?_)
        obtain ⟨rfl, hC2, hF2⟩ := hP9
        have hM2 := MP_fr hM hF2
        refine r_aload_n hK d_Lw_law_402 rfl rfl ?_
        refine r_aload_n hK d_Lw_law_403 rfl rfl ?_
        refine r_iload_n hK d_Lw_law_404 rfl rfl ?_
        refine r_iconst (v := nI 1) hK d_Lw_law_405 (by decide) ?_
        refine r_iadd hK d_Lw_law_406 (nI_add _ _) ?_
        refine hsld _ _ _ _ _ d_Lw_law_407 (by omega) ?_
        refine r_callVP hK d_Lw_law_408 m_Lw_66 rfl (in_fix rfl) (c_Md_run hg hM2 hA1 hT20 _) (by decide) rfl rfl rfl (fun r9 τ9 hP9 => ?_)
        obtain ⟨rfl, hM3, hF3⟩ := hP9
        refine r_icmp_eq (tgt := 656) hK d_Lw_law_411 (by decide) (fun _ => ?_) (fun hno => absurd (rfl) hno)
        exact hnext _ _ (AI_runR hA1 hT20 _) (CP_fr hC2 hF3) hM3
      · refine r_tableIn (off := 354) (tgt := 416) hK d_Lw_law_62 (by decide) (by decide) (by decide) (by decide) ?_
        refine r_aload_n hK d_Lw_law_416 rfl rfl ?_
        refine r_aload_n hK d_Lw_law_417 rfl rfl ?_
        refine r_iload_n hK d_Lw_law_418 rfl rfl ?_
        refine r_iconst (v := nI 1) hK d_Lw_law_419 (by decide) ?_
        refine r_iadd hK d_Lw_law_420 (nI_add _ _) ?_
        refine hsld _ _ _ _ _ d_Lw_law_421 (by omega) ?_
        refine r_callVP hK d_Lw_law_422 m_Lw_67 rfl (in_fix rfl) (c_Gs_kill hg hC hA1 _) (by decide) rfl rfl rfl (fun r9 τ9 hP9 => ?_)
        obtain ⟨rfl, hC2, hF2⟩ := hP9
        have hM2 := MP_fr hM hF2
        refine r_aload_n hK d_Lw_law_425 rfl rfl ?_
        refine r_aload_n hK d_Lw_law_426 rfl rfl ?_
        refine r_iload_n hK d_Lw_law_427 rfl rfl ?_
        refine r_iconst (v := nI 1) hK d_Lw_law_428 (by decide) ?_
        refine r_iadd hK d_Lw_law_429 (nI_add _ _) ?_
        refine hsld _ _ _ _ _ d_Lw_law_430 (by omega) ?_
        refine r_callVP hK d_Lw_law_431 m_Lw_70 rfl (in_fix rfl) (c_Md_kill hg hM2 hA1 _) (by decide) rfl rfl rfl (fun r9 τ9 hP9 => ?_)
        obtain ⟨rfl, hM3, hF3⟩ := hP9
        refine r_icmp_eq (tgt := 656) hK d_Lw_law_434 (by decide) (fun _ => ?_) (fun hno => absurd (rfl) hno)
        exact hnext _ _ (AI_kllR hA1 _) (CP_fr hC2 hF3) hM3
      · refine r_tableIn (off := 377) (tgt := 439) hK d_Lw_law_62 (by decide) (by decide) (by decide) (by decide) ?_
        refine r_aload_n hK d_Lw_law_439 rfl rfl ?_
        refine r_aload_n hK d_Lw_law_440 rfl rfl ?_
        refine r_iload_n hK d_Lw_law_441 rfl rfl ?_
        refine r_iconst (v := nI 1) hK d_Lw_law_442 (by decide) ?_
        refine r_iadd hK d_Lw_law_443 (nI_add _ _) ?_
        refine hsld _ _ _ _ _ d_Lw_law_444 (by omega) ?_
        refine r_callVP hK d_Lw_law_445 m_Lw_71 rfl (in_fix rfl) (c_Gs_recover hg hC hA1 _) (by decide) rfl rfl rfl (fun r9 τ9 hP9 => ?_)
        obtain ⟨rfl, hC2, hF2⟩ := hP9
        have hM2 := MP_fr hM hF2
        refine r_aload_n hK d_Lw_law_448 rfl rfl ?_
        refine r_aload_n hK d_Lw_law_449 rfl rfl ?_
        refine r_iload_n hK d_Lw_law_450 rfl rfl ?_
        refine r_iconst (v := nI 1) hK d_Lw_law_451 (by decide) ?_
        refine r_iadd hK d_Lw_law_452 (nI_add _ _) ?_
        refine hsld _ _ _ _ _ d_Lw_law_453 (by omega) ?_
        refine r_callVP hK d_Lw_law_454 m_Lw_74 rfl (in_fix rfl) (c_Md_recover hg hM2 hA1 _) (by decide) rfl rfl rfl (fun r9 τ9 hP9 => ?_)
        obtain ⟨rfl, hM3, hF3⟩ := hP9
        refine r_icmp_eq (tgt := 656) hK d_Lw_law_457 (by decide) (fun _ => ?_) (fun hno => absurd (rfl) hno)
        exact hnext _ _ (AI_rcvR hA1 _) (CP_fr hC2 hF3) hM3
      · refine r_tableIn (off := 400) (tgt := 462) hK d_Lw_law_62 (by decide) (by decide) (by decide) (by decide) ?_
        refine r_aload_n hK d_Lw_law_462 rfl rfl ?_
        refine r_aload_n hK d_Lw_law_463 rfl rfl ?_
        refine r_iload_n hK d_Lw_law_464 rfl rfl ?_
        refine r_iconst (v := nI 1) hK d_Lw_law_465 (by decide) ?_
        refine r_iadd hK d_Lw_law_466 (nI_add _ _) ?_
        refine hsld _ _ _ _ _ d_Lw_law_467 (by omega) ?_
        refine r_callVP hK d_Lw_law_468 m_Lw_75 rfl (in_fix rfl) (c_Gs_checkpoint hg hC hA1 _) (by decide) rfl rfl rfl (fun r9 τ9 hP9 => ?_)
        obtain ⟨rfl, hC2, hF2⟩ := hP9
        have hM2 := MP_fr hM hF2
        refine r_aload_n hK d_Lw_law_471 rfl rfl ?_
        refine r_aload_n hK d_Lw_law_472 rfl rfl ?_
        refine r_iload_n hK d_Lw_law_473 rfl rfl ?_
        refine r_iconst (v := nI 1) hK d_Lw_law_474 (by decide) ?_
        refine r_iadd hK d_Lw_law_475 (nI_add _ _) ?_
        refine hsld _ _ _ _ _ d_Lw_law_476 (by omega) ?_
        refine r_callVP hK d_Lw_law_477 m_Lw_78 rfl (in_fix rfl) (c_Md_checkpoint hg hM2 hA1 _) (by decide) rfl rfl rfl (fun r9 τ9 hP9 => ?_)
        obtain ⟨rfl, hM3, hF3⟩ := hP9
        refine r_icmp_eq (tgt := 656) hK d_Lw_law_480 (by decide) (fun _ => ?_) (fun hno => absurd (rfl) hno)
        exact hnext _ _ (AI_ckpR hA1 _) (CP_fr hC2 hF3) hM3
      · refine r_tableIn (off := 423) (tgt := 485) hK d_Lw_law_62 (by decide) (by decide) (by decide) (by decide) ?_
        refine r_aload_n hK d_Lw_law_485 rfl rfl ?_
        refine r_aload_n hK d_Lw_law_486 rfl rfl ?_
        refine r_iload_n hK d_Lw_law_487 rfl rfl ?_
        refine r_iconst (v := nI 1) hK d_Lw_law_488 (by decide) ?_
        refine r_iadd hK d_Lw_law_489 (nI_add _ _) ?_
        refine hsld _ _ _ _ _ d_Lw_law_490 (by omega) ?_
        refine r_callVP hK d_Lw_law_491 m_Lw_79 rfl (in_fix rfl) (c_Gs_done hg hC hA1 _) (by decide) rfl rfl rfl (fun r9 τ9 hP9 => ?_)
        obtain ⟨rfl, hC2, hF2⟩ := hP9
        have hM2 := MP_fr hM hF2
        refine r_aload_n hK d_Lw_law_494 rfl rfl ?_
        refine r_aload_n hK d_Lw_law_495 rfl rfl ?_
        refine r_iload_n hK d_Lw_law_496 rfl rfl ?_
        refine r_iconst (v := nI 1) hK d_Lw_law_497 (by decide) ?_
        refine r_iadd hK d_Lw_law_498 (nI_add _ _) ?_
        refine hsld _ _ _ _ _ d_Lw_law_499 (by omega) ?_
        refine r_callVP hK d_Lw_law_500 m_Lw_82 rfl (in_fix rfl) (c_Md_done hg hM2 hA1 _) (by decide) rfl rfl rfl (fun r9 τ9 hP9 => ?_)
        obtain ⟨rfl, hM3, hF3⟩ := hP9
        refine r_icmp_eq (tgt := 656) hK d_Lw_law_503 (by decide) (fun _ => ?_) (fun hno => absurd (rfl) hno)
        exact hnext _ _ hA1 (CP_fr hC2 hF3) hM3
      · refine r_tableIn (off := 446) (tgt := 508) hK d_Lw_law_62 (by decide) (by decide) (by decide) (by decide) ?_
        refine r_aload_n hK d_Lw_law_508 rfl rfl ?_
        refine r_aload_n hK d_Lw_law_509 rfl rfl ?_
        refine r_iload_n hK d_Lw_law_510 rfl rfl ?_
        refine r_iconst (v := nI 1) hK d_Lw_law_511 (by decide) ?_
        refine r_iadd hK d_Lw_law_512 (nI_add _ _) ?_
        refine hsld _ _ _ _ _ d_Lw_law_513 (by omega) ?_
        refine r_callVP hK d_Lw_law_514 m_Lw_83 rfl (in_fix rfl) (c_Gs_early hg hC hA1 _) (by decide) rfl rfl rfl (fun r9 τ9 hP9 => ?_)
        obtain ⟨rfl, hC2, hF2⟩ := hP9
        have hM2 := MP_fr hM hF2
        refine r_aload_n hK d_Lw_law_517 rfl rfl ?_
        refine r_aload_n hK d_Lw_law_518 rfl rfl ?_
        refine r_iload_n hK d_Lw_law_519 rfl rfl ?_
        refine r_iconst (v := nI 1) hK d_Lw_law_520 (by decide) ?_
        refine r_iadd hK d_Lw_law_521 (nI_add _ _) ?_
        refine hsld _ _ _ _ _ d_Lw_law_522 (by omega) ?_
        refine r_callVP hK d_Lw_law_523 m_Lw_86 rfl (in_fix rfl) (c_Md_early hg hM2 hA1 _) (by decide) rfl rfl rfl (fun r9 τ9 hP9 => ?_)
        obtain ⟨rfl, hM3, hF3⟩ := hP9
        refine r_icmp_eq (tgt := 656) hK d_Lw_law_526 (by decide) (fun _ => ?_) (fun hno => absurd (rfl) hno)
        exact hnext _ _ hA1 (CP_fr hC2 hF3) hM3
      · refine r_tableIn (off := 469) (tgt := 531) hK d_Lw_law_62 (by decide) (by decide) (by decide) (by decide) ?_
        refine r_aload_n hK d_Lw_law_531 rfl rfl ?_
        refine r_aload_n hK d_Lw_law_532 rfl rfl ?_
        refine r_iload_n hK d_Lw_law_533 rfl rfl ?_
        refine r_iconst (v := nI 1) hK d_Lw_law_534 (by decide) ?_
        refine r_iadd hK d_Lw_law_535 (nI_add _ _) ?_
        refine hsld _ _ _ _ _ d_Lw_law_536 (by omega) ?_
        refine r_aload_n hK d_Lw_law_537 rfl rfl ?_
        refine r_iload_n hK d_Lw_law_538 rfl rfl ?_
        refine r_iconst (v := nI 2) hK d_Lw_law_539 (by decide) ?_
        refine r_iadd hK d_Lw_law_540 (nI_add _ _) ?_
        refine hsld _ _ _ _ _ d_Lw_law_541 (by omega) ?_
        refine r_callVP hK d_Lw_law_542 m_Lw_87 rfl (in_fix rfl) (c_Gs_kept hg hC hA1 _ _) (by decide) rfl rfl rfl (fun r9 τ9 hP9 => ?_)
        obtain ⟨rfl, hC2, hF2⟩ := hP9
        have hM2 := MP_fr hM hF2
        refine r_aload_n hK d_Lw_law_545 rfl rfl ?_
        refine r_aload_n hK d_Lw_law_546 rfl rfl ?_
        refine r_iload_n hK d_Lw_law_547 rfl rfl ?_
        refine r_iconst (v := nI 1) hK d_Lw_law_548 (by decide) ?_
        refine r_iadd hK d_Lw_law_549 (nI_add _ _) ?_
        refine hsld _ _ _ _ _ d_Lw_law_550 (by omega) ?_
        refine r_aload_n hK d_Lw_law_551 rfl rfl ?_
        refine r_iload_n hK d_Lw_law_552 rfl rfl ?_
        refine r_iconst (v := nI 2) hK d_Lw_law_553 (by decide) ?_
        refine r_iadd hK d_Lw_law_554 (nI_add _ _) ?_
        refine hsld _ _ _ _ _ d_Lw_law_555 (by omega) ?_
        refine r_callVP hK d_Lw_law_556 m_Lw_90 rfl (in_fix rfl) (c_Md_kept hg hM2 hA1 _ _) (by decide) rfl rfl rfl (fun r9 τ9 hP9 => ?_)
        obtain ⟨rfl, hM3, hF3⟩ := hP9
        refine r_icmp_eq (tgt := 656) hK d_Lw_law_559 (by decide) (fun _ => ?_) (fun hno => absurd (rfl) hno)
        exact hnext _ _ hA1 (CP_fr hC2 hF3) hM3
      · refine r_tableIn (off := 502) (tgt := 564) hK d_Lw_law_62 (by decide) (by decide) (by decide) (by decide) ?_
        refine r_aload_n hK d_Lw_law_564 rfl rfl ?_
        refine r_aload_n hK d_Lw_law_565 rfl rfl ?_
        refine r_iload_n hK d_Lw_law_566 rfl rfl ?_
        refine r_iconst (v := nI 1) hK d_Lw_law_567 (by decide) ?_
        refine r_iadd hK d_Lw_law_568 (nI_add _ _) ?_
        refine hsld _ _ _ _ _ d_Lw_law_569 (by omega) ?_
        refine r_aload_n hK d_Lw_law_570 rfl rfl ?_
        refine r_iload_n hK d_Lw_law_571 rfl rfl ?_
        refine r_iconst (v := nI 2) hK d_Lw_law_572 (by decide) ?_
        refine r_iadd hK d_Lw_law_573 (nI_add _ _) ?_
        refine hsld _ _ _ _ _ d_Lw_law_574 (by omega) ?_
        refine r_callVP hK d_Lw_law_575 m_Lw_91 rfl (in_fix rfl) (c_Gs_unconfirmed hg hC hA1 _ _) (by decide) rfl rfl rfl (fun r9 τ9 hP9 => ?_)
        obtain ⟨rfl, hC2, hF2⟩ := hP9
        have hM2 := MP_fr hM hF2
        refine r_aload_n hK d_Lw_law_578 rfl rfl ?_
        refine r_aload_n hK d_Lw_law_579 rfl rfl ?_
        refine r_iload_n hK d_Lw_law_580 rfl rfl ?_
        refine r_iconst (v := nI 1) hK d_Lw_law_581 (by decide) ?_
        refine r_iadd hK d_Lw_law_582 (nI_add _ _) ?_
        refine hsld _ _ _ _ _ d_Lw_law_583 (by omega) ?_
        refine r_aload_n hK d_Lw_law_584 rfl rfl ?_
        refine r_iload_n hK d_Lw_law_585 rfl rfl ?_
        refine r_iconst (v := nI 2) hK d_Lw_law_586 (by decide) ?_
        refine r_iadd hK d_Lw_law_587 (nI_add _ _) ?_
        refine hsld _ _ _ _ _ d_Lw_law_588 (by omega) ?_
        refine r_callVP hK d_Lw_law_589 m_Lw_94 rfl (in_fix rfl) (c_Md_unconfirmed hg hM2 hA1 _ _) (by decide) rfl rfl rfl (fun r9 τ9 hP9 => ?_)
        obtain ⟨rfl, hM3, hF3⟩ := hP9
        refine r_icmp_eq (tgt := 656) hK d_Lw_law_592 (by decide) (fun _ => ?_) (fun hno => absurd (rfl) hno)
        exact hnext _ _ hA1 (CP_fr hC2 hF3) hM3
      · refine r_tableIn (off := 535) (tgt := 597) hK d_Lw_law_62 (by decide) (by decide) (by decide) (by decide) ?_
        refine r_aload_n hK d_Lw_law_597 rfl rfl ?_
        refine r_callVP hK d_Lw_law_598 m_Lw_95 rfl (in_fix rfl) (c_Gs_packets hg hC) (by decide) rfl rfl rfl (fun r9 τ9 hP9 => ?_)
        obtain ⟨rfl, hC2, hF2⟩ := hP9
        have hM2 := MP_fr hM hF2
        refine r_aload_n hK d_Lw_law_601 rfl rfl ?_
        refine r_callVP hK d_Lw_law_602 m_Lw_98 rfl (in_fix rfl) (c_Md_packets hg hM2) (by decide) rfl rfl rfl (fun r9 τ9 hP9 => ?_)
        obtain ⟨rfl, hM3, hF3⟩ := hP9
        refine r_icmp_eq (tgt := 656) hK d_Lw_law_605 (by decide) (fun _ => ?_) (fun hno => absurd (rfl) hno)
        exact hnext _ _ hA1 (CP_fr hC2 hF3) hM3
      · refine r_tableIn (off := 548) (tgt := 610) hK d_Lw_law_62 (by decide) (by decide) (by decide) (by decide) ?_
        refine r_aload_n hK d_Lw_law_610 rfl rfl ?_
        refine r_aload_n hK d_Lw_law_611 rfl rfl ?_
        refine r_iload_n hK d_Lw_law_612 rfl rfl ?_
        refine r_iconst (v := nI 1) hK d_Lw_law_613 (by decide) ?_
        refine r_iadd hK d_Lw_law_614 (nI_add _ _) ?_
        refine hsld _ _ _ _ _ d_Lw_law_615 (by omega) ?_
        refine r_callVP hK d_Lw_law_616 m_Lw_99 rfl (in_fix rfl) (c_Gs_packet hg hC hA1 _) (by decide) rfl rfl rfl (fun r9 τ9 hP9 => ?_)
        obtain ⟨rfl, hC2, hF2⟩ := hP9
        have hM2 := MP_fr hM hF2
        refine r_aload_n hK d_Lw_law_619 rfl rfl ?_
        refine r_aload_n hK d_Lw_law_620 rfl rfl ?_
        refine r_iload_n hK d_Lw_law_621 rfl rfl ?_
        refine r_iconst (v := nI 1) hK d_Lw_law_622 (by decide) ?_
        refine r_iadd hK d_Lw_law_623 (nI_add _ _) ?_
        refine hsld _ _ _ _ _ d_Lw_law_624 (by omega) ?_
        refine r_callVP hK d_Lw_law_625 m_Lw_102 rfl (in_fix rfl) (c_Md_packet hg hM2 hA1 _) (by decide) rfl rfl rfl (fun r9 τ9 hP9 => ?_)
        obtain ⟨rfl, hM3, hF3⟩ := hP9
        refine r_icmp_eq (tgt := 656) hK d_Lw_law_628 (by decide) (fun _ => ?_) (fun hno => absurd (rfl) hno)
        exact hnext _ _ hA1 (CP_fr hC2 hF3) hM3
      · refine r_tableIn (off := 571) (tgt := 633) hK d_Lw_law_62 (by decide) (by decide) (by decide) (by decide) ?_
        refine r_aload_n hK d_Lw_law_633 rfl rfl ?_
        refine r_aload_n hK d_Lw_law_634 rfl rfl ?_
        refine r_iload_n hK d_Lw_law_635 rfl rfl ?_
        refine r_iconst (v := nI 1) hK d_Lw_law_636 (by decide) ?_
        refine r_iadd hK d_Lw_law_637 (nI_add _ _) ?_
        refine hsld _ _ _ _ _ d_Lw_law_638 (by omega) ?_
        refine r_callVP hK d_Lw_law_639 m_Lw_103 rfl (in_fix rfl) (c_Gs_count hg hC _) (by decide) rfl rfl rfl (fun r9 τ9 hP9 => ?_)
        obtain ⟨rfl, hC2, hF2⟩ := hP9
        have hM2 := MP_fr hM hF2
        refine r_aload_n hK d_Lw_law_642 rfl rfl ?_
        refine r_aload_n hK d_Lw_law_643 rfl rfl ?_
        refine r_iload_n hK d_Lw_law_644 rfl rfl ?_
        refine r_iconst (v := nI 1) hK d_Lw_law_645 (by decide) ?_
        refine r_iadd hK d_Lw_law_646 (nI_add _ _) ?_
        refine hsld _ _ _ _ _ d_Lw_law_647 (by omega) ?_
        refine r_callVP hK d_Lw_law_648 m_Lw_106 rfl (in_fix rfl) (c_Md_count hg hM2 _) (by decide) rfl rfl rfl (fun r9 τ9 hP9 => ?_)
        obtain ⟨rfl, hM3, hF3⟩ := hP9
        refine r_icmp_eq (tgt := 656) hK d_Lw_law_651 (by decide) (fun _ => ?_) (fun hno => absurd (rfl) hno)
        exact hnext _ _ hA1 (CP_fr hC2 hF3) hM3
end Lw
