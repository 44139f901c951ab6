theorem law_lt {n i : Nat} (hn : n < 6) (hi : i < 2 ^ 31) : nI n - 6 < nI i := by
  have key : ∀ n, n < 6 → (nI n - 6).toInt < 0 := by decide +kernel
  exact Int32.lt_iff_toInt_lt.mpr (by rw [nI_toInt hi]; have := key n hn; omega)
set_option maxRecDepth 20000 in
theorem l_law {Q : zQ} {n : Nat} (hn : n ≤ 3072) (h : ∀ μ2 τ2, Q (some (.int 1)) μ2 τ2) : ∀ m ix μ τ, n + 6 - ix < m → ix ≤ n + 6 → pR μ → μ 91 0 = nI n → Zw 49 RL cL_law 4 (some .boolean) Q 18 [.ref 90, .ref 0, .ref 61, .int (nI ix)] [] μ τ
  | 0, ix, _, _, hm, _, _, _ => absurd hm (by omega)
  | m + 1, ix, μ, τ, hm, hi, hR, h91 => by
    have hn31 : n < 2 ^ 31 := by omega
    rcases Nat.lt_or_ge n 6 with hn6 | hn6
    · refine Zw_iload_3 dL_law_18 ?_
      refine Zw_aload_0 dL_law_19 ?_
      refine Zw_xlen dL_law_20 ?_
      rw [h91]
      refine Zw_bipush (v := 6) dL_law_21 (by decide) ?_
      refine Zw_isub dL_law_23 ?_
      refine Zw_icmp_gt 1131 dL_law_24 (by decide) (fun c24 => ?_) (fun c24 => absurd c24 (not_not_intro (law_lt hn6 (by omega))))
      refine Zw_iconst (v := 1) dL_law_1131 (by decide) ?_
      refine Zw_ireturn dL_law_1132 (by first | rfl | assumption) ?_
      exact h _ _
    · refine Zw_iload_3 dL_law_18 ?_
      refine Zw_aload_0 dL_law_19 ?_
      refine Zw_xlen dL_law_20 ?_
      rw [h91]
      refine Zw_bipush (v := 6) dL_law_21 (by decide) ?_
      refine Zw_nsub (n) (6) dL_law_23 rfl rfl (by omega) ?_
      refine Zw_nicmp_gt (ix) ((n - 6)) 1131 dL_law_24 (by decide) rfl rfl (by omega) (by omega) (fun c24 => ?_) (fun c24 => ?_)
      · refine Zw_iconst (v := 1) dL_law_1131 (by decide) ?_
        refine Zw_ireturn dL_law_1132 (by first | rfl | assumption) ?_
        exact h _ _
      · refine Zw_aload_0 dL_law_27 ?_
        refine Zw_iload_3 dL_law_28 ?_
        refine Zw_xald dL_law_29 (by assumption) (by assumption) (by first | assumption | exact vp_in_nI (by omega) (by omega) | exact vp_in_nI (by simp; omega) (by decide) | (unfold vp_in; decide)) ?_
        refine Zw_bipush (v := 31) dL_law_30 (by decide) ?_
        refine Zw_iand dL_law_32 ?_
        refine Zw_sw 1125 [160, 203, 246, 289, 322, 345, 358, 381, 414, 437, 470, 503, 546, 579, 612, 645, 678, 721, 764, 797, 841, 854, 867, 890, 933, 976, 1039, 1092] dL_law_33 (by decide) (by decide) (by decide) (fun i t hi e => ?_) (fun e => ?_)
        · match i, hi with
          | 0, hi =>
            cases hi
            refine Zw_aload_1 dL_law_160 ?_
            refine Zw_aload_0 dL_law_161 ?_
            refine Zw_iload_3 dL_law_162 ?_
            refine Zw_iconst (v := 1) dL_law_163 (by decide) ?_
            refine Zw_nadd (ix) (1) dL_law_164 rfl rfl ?_
            refine Zw_xald dL_law_165 (by assumption) (by assumption) (by first | assumption | exact vp_in_nI (by omega) (by omega) | exact vp_in_nI (by simp; omega) (by decide) | (unfold vp_in; decide)) ?_
            refine Zw_aload_0 dL_law_166 ?_
            refine Zw_iload_3 dL_law_167 ?_
            refine Zw_iconst (v := 2) dL_law_168 (by decide) ?_
            refine Zw_nadd (ix) (2) dL_law_169 rfl rfl ?_
            refine Zw_xald dL_law_170 (by assumption) (by assumption) (by first | assumption | exact vp_in_nI (by omega) (by omega) | exact vp_in_nI (by simp; omega) (by decide) | (unfold vp_in; decide)) ?_
            refine Zw_aload_0 dL_law_171 ?_
            refine Zw_iload_3 dL_law_172 ?_
            refine Zw_iconst (v := 3) dL_law_173 (by decide) ?_
            refine Zw_nadd (ix) (3) dL_law_174 rfl rfl ?_
            refine Zw_xald dL_law_175 (by assumption) (by assumption) (by first | assumption | exact vp_in_nI (by omega) (by omega) | exact vp_in_nI (by simp; omega) (by decide) | (unfold vp_in; decide)) ?_
            refine Zw_V3 (k := 2) lm_L_13 dL_law_176 (by decide) (by first | decide | assumption | omega) (by first | rfl | assumption) (by rfl) (Nat.le_of_ble_eq_true rfl) ?_
            refine Zc.imp (fun r μ1 τ1 hq => ?_) (P_set hR)
            obtain ⟨⟨v, rfl⟩, k90, k91, hM⟩ := hq
            have h911 : μ1 91 0 = nI n := by rw [k91]; exact h91
            refine Zw_aload_2 dL_law_179 ?_
            refine Zw_aload_0 dL_law_180 ?_
            refine Zw_iload_3 dL_law_181 ?_
            refine Zw_iconst (v := 1) dL_law_182 (by decide) ?_
            refine Zw_nadd (ix) (1) dL_law_183 rfl rfl ?_
            refine Zw_xald dL_law_184 (by assumption) (by assumption) (by first | assumption | exact vp_in_nI (by omega) (by omega) | exact vp_in_nI (by simp; omega) (by decide) | (unfold vp_in; decide)) ?_
            refine Zw_aload_0 dL_law_185 ?_
            refine Zw_iload_3 dL_law_186 ?_
            refine Zw_iconst (v := 2) dL_law_187 (by decide) ?_
            refine Zw_nadd (ix) (2) dL_law_188 rfl rfl ?_
            refine Zw_xald dL_law_189 (by assumption) (by assumption) (by first | assumption | exact vp_in_nI (by omega) (by omega) | exact vp_in_nI (by simp; omega) (by decide) | (unfold vp_in; decide)) ?_
            refine Zw_aload_0 dL_law_190 ?_
            refine Zw_iload_3 dL_law_191 ?_
            refine Zw_iconst (v := 3) dL_law_192 (by decide) ?_
            refine Zw_nadd (ix) (3) dL_law_193 rfl rfl ?_
            refine Zw_xald dL_law_194 (by assumption) (by assumption) (by first | assumption | exact vp_in_nI (by omega) (by omega) | exact vp_in_nI (by simp; omega) (by decide) | (unfold vp_in; decide)) ?_
            refine Zw_V3 (k := 46) lm_L_17 dL_law_195 (by decide) (by first | decide | assumption | omega) (by first | rfl | assumption) (by rfl) (Nat.le_of_ble_eq_true rfl) ?_
            try rw [k90]
            refine Zc.imp (fun r2 μ2 τ2 hq2 => ?_) hM
            obtain ⟨rfl, hNx⟩ := hq2
            refine Zw_icmp_eq 1125 dL_law_198 (by decide) (fun c198 => ?_) (fun c198 => absurd c198 (not_not_intro rfl))
            refine Zw_iinc_3 (y := nI (ix + 6)) dL_law_1125 rfl (nI_add ix 6) ?_
            refine Zw_goto 18 dL_law_1128 (by decide) ?_
            exact l_law hn h m (ix + 6) μ2 τ2 (by omega) (by omega) hNx.1 (by rw [hNx.2.2]; exact h91)
          | 1, hi =>
            cases hi
            refine Zw_aload_1 dL_law_203 ?_
            refine Zw_aload_0 dL_law_204 ?_
            refine Zw_iload_3 dL_law_205 ?_
            refine Zw_iconst (v := 1) dL_law_206 (by decide) ?_
            refine Zw_nadd (ix) (1) dL_law_207 rfl rfl ?_
            refine Zw_xald dL_law_208 (by assumption) (by assumption) (by first | assumption | exact vp_in_nI (by omega) (by omega) | exact vp_in_nI (by simp; omega) (by decide) | (unfold vp_in; decide)) ?_
            refine Zw_aload_0 dL_law_209 ?_
            refine Zw_iload_3 dL_law_210 ?_
            refine Zw_iconst (v := 2) dL_law_211 (by decide) ?_
            refine Zw_nadd (ix) (2) dL_law_212 rfl rfl ?_
            refine Zw_xald dL_law_213 (by assumption) (by assumption) (by first | assumption | exact vp_in_nI (by omega) (by omega) | exact vp_in_nI (by simp; omega) (by decide) | (unfold vp_in; decide)) ?_
            refine Zw_aload_0 dL_law_214 ?_
            refine Zw_iload_3 dL_law_215 ?_
            refine Zw_iconst (v := 3) dL_law_216 (by decide) ?_
            refine Zw_nadd (ix) (3) dL_law_217 rfl rfl ?_
            refine Zw_xald dL_law_218 (by assumption) (by assumption) (by first | assumption | exact vp_in_nI (by omega) (by omega) | exact vp_in_nI (by simp; omega) (by decide) | (unfold vp_in; decide)) ?_
            refine Zw_V3 (k := 1) lm_L_18 dL_law_219 (by decide) (by first | decide | assumption | omega) (by first | rfl | assumption) (by rfl) (Nat.le_of_ble_eq_true rfl) ?_
            refine Zc.imp (fun r μ1 τ1 hq => ?_) (P_lane hR)
            obtain ⟨⟨v, rfl⟩, k90, k91, hM⟩ := hq
            have h911 : μ1 91 0 = nI n := by rw [k91]; exact h91
            refine Zw_aload_2 dL_law_222 ?_
            refine Zw_aload_0 dL_law_223 ?_
            refine Zw_iload_3 dL_law_224 ?_
            refine Zw_iconst (v := 1) dL_law_225 (by decide) ?_
            refine Zw_nadd (ix) (1) dL_law_226 rfl rfl ?_
            refine Zw_xald dL_law_227 (by assumption) (by assumption) (by first | assumption | exact vp_in_nI (by omega) (by omega) | exact vp_in_nI (by simp; omega) (by decide) | (unfold vp_in; decide)) ?_
            refine Zw_aload_0 dL_law_228 ?_
            refine Zw_iload_3 dL_law_229 ?_
            refine Zw_iconst (v := 2) dL_law_230 (by decide) ?_
            refine Zw_nadd (ix) (2) dL_law_231 rfl rfl ?_
            refine Zw_xald dL_law_232 (by assumption) (by assumption) (by first | assumption | exact vp_in_nI (by omega) (by omega) | exact vp_in_nI (by simp; omega) (by decide) | (unfold vp_in; decide)) ?_
            refine Zw_aload_0 dL_law_233 ?_
            refine Zw_iload_3 dL_law_234 ?_
            refine Zw_iconst (v := 3) dL_law_235 (by decide) ?_
            refine Zw_nadd (ix) (3) dL_law_236 rfl rfl ?_
            refine Zw_xald dL_law_237 (by assumption) (by assumption) (by first | assumption | exact vp_in_nI (by omega) (by omega) | exact vp_in_nI (by simp; omega) (by decide) | (unfold vp_in; decide)) ?_
            refine Zw_V3 (k := 2) lm_L_21 dL_law_238 (by decide) (by first | decide | assumption | omega) (by first | rfl | assumption) (by rfl) (Nat.le_of_ble_eq_true rfl) ?_
            try rw [k90]
            refine Zc.imp (fun r2 μ2 τ2 hq2 => ?_) hM
            obtain ⟨rfl, hNx⟩ := hq2
            refine Zw_icmp_eq 1125 dL_law_241 (by decide) (fun c241 => ?_) (fun c241 => absurd c241 (not_not_intro rfl))
            refine Zw_iinc_3 (y := nI (ix + 6)) dL_law_1125 rfl (nI_add ix 6) ?_
            refine Zw_goto 18 dL_law_1128 (by decide) ?_
            exact l_law hn h m (ix + 6) μ2 τ2 (by omega) (by omega) hNx.1 (by rw [hNx.2.2]; exact h91)
          | 2, hi =>
            cases hi
            refine Zw_aload_1 dL_law_246 ?_
            refine Zw_aload_0 dL_law_247 ?_
            refine Zw_iload_3 dL_law_248 ?_
            refine Zw_iconst (v := 1) dL_law_249 (by decide) ?_
            refine Zw_nadd (ix) (1) dL_law_250 rfl rfl ?_
            refine Zw_xald dL_law_251 (by assumption) (by assumption) (by first | assumption | exact vp_in_nI (by omega) (by omega) | exact vp_in_nI (by simp; omega) (by decide) | (unfold vp_in; decide)) ?_
            refine Zw_aload_0 dL_law_252 ?_
            refine Zw_iload_3 dL_law_253 ?_
            refine Zw_iconst (v := 2) dL_law_254 (by decide) ?_
            refine Zw_nadd (ix) (2) dL_law_255 rfl rfl ?_
            refine Zw_xald dL_law_256 (by assumption) (by assumption) (by first | assumption | exact vp_in_nI (by omega) (by omega) | exact vp_in_nI (by simp; omega) (by decide) | (unfold vp_in; decide)) ?_
            refine Zw_aload_0 dL_law_257 ?_
            refine Zw_iload_3 dL_law_258 ?_
            refine Zw_iconst (v := 3) dL_law_259 (by decide) ?_
            refine Zw_nadd (ix) (3) dL_law_260 rfl rfl ?_
            refine Zw_xald dL_law_261 (by assumption) (by assumption) (by first | assumption | exact vp_in_nI (by omega) (by omega) | exact vp_in_nI (by simp; omega) (by decide) | (unfold vp_in; decide)) ?_
            refine Zw_V3 (k := 2) lm_L_22 dL_law_262 (by decide) (by first | decide | assumption | omega) (by first | rfl | assumption) (by rfl) (Nat.le_of_ble_eq_true rfl) ?_
            refine Zc.imp (fun r μ1 τ1 hq => ?_) (P_finder hR)
            obtain ⟨⟨v, rfl⟩, k90, k91, hM⟩ := hq
            have h911 : μ1 91 0 = nI n := by rw [k91]; exact h91
            refine Zw_aload_2 dL_law_265 ?_
            refine Zw_aload_0 dL_law_266 ?_
            refine Zw_iload_3 dL_law_267 ?_
            refine Zw_iconst (v := 1) dL_law_268 (by decide) ?_
            refine Zw_nadd (ix) (1) dL_law_269 rfl rfl ?_
            refine Zw_xald dL_law_270 (by assumption) (by assumption) (by first | assumption | exact vp_in_nI (by omega) (by omega) | exact vp_in_nI (by simp; omega) (by decide) | (unfold vp_in; decide)) ?_
            refine Zw_aload_0 dL_law_271 ?_
            refine Zw_iload_3 dL_law_272 ?_
            refine Zw_iconst (v := 2) dL_law_273 (by decide) ?_
            refine Zw_nadd (ix) (2) dL_law_274 rfl rfl ?_
            refine Zw_xald dL_law_275 (by assumption) (by assumption) (by first | assumption | exact vp_in_nI (by omega) (by omega) | exact vp_in_nI (by simp; omega) (by decide) | (unfold vp_in; decide)) ?_
            refine Zw_aload_0 dL_law_276 ?_
            refine Zw_iload_3 dL_law_277 ?_
            refine Zw_iconst (v := 3) dL_law_278 (by decide) ?_
            refine Zw_nadd (ix) (3) dL_law_279 rfl rfl ?_
            refine Zw_xald dL_law_280 (by assumption) (by assumption) (by first | assumption | exact vp_in_nI (by omega) (by omega) | exact vp_in_nI (by simp; omega) (by decide) | (unfold vp_in; decide)) ?_
            refine Zw_V3 (k := 2) lm_L_25 dL_law_281 (by decide) (by first | decide | assumption | omega) (by first | rfl | assumption) (by rfl) (Nat.le_of_ble_eq_true rfl) ?_
            try rw [k90]
            refine Zc.imp (fun r2 μ2 τ2 hq2 => ?_) hM
            obtain ⟨rfl, hNx⟩ := hq2
            refine Zw_icmp_eq 1125 dL_law_284 (by decide) (fun c284 => ?_) (fun c284 => absurd c284 (not_not_intro rfl))
            refine Zw_iinc_3 (y := nI (ix + 6)) dL_law_1125 rfl (nI_add ix 6) ?_
            refine Zw_goto 18 dL_law_1128 (by decide) ?_
            exact l_law hn h m (ix + 6) μ2 τ2 (by omega) (by omega) hNx.1 (by rw [hNx.2.2]; exact h91)
          | 3, hi =>
            cases hi
            refine Zw_aload_1 dL_law_289 ?_
            refine Zw_aload_0 dL_law_290 ?_
            refine Zw_iload_3 dL_law_291 ?_
            refine Zw_iconst (v := 1) dL_law_292 (by decide) ?_
            refine Zw_nadd (ix) (1) dL_law_293 rfl rfl ?_
            refine Zw_xald dL_law_294 (by assumption) (by assumption) (by first | assumption | exact vp_in_nI (by omega) (by omega) | exact vp_in_nI (by simp; omega) (by decide) | (unfold vp_in; decide)) ?_
            refine Zw_aload_0 dL_law_295 ?_
            refine Zw_iload_3 dL_law_296 ?_
            refine Zw_iconst (v := 2) dL_law_297 (by decide) ?_
            refine Zw_nadd (ix) (2) dL_law_298 rfl rfl ?_
            refine Zw_xald dL_law_299 (by assumption) (by assumption) (by first | assumption | exact vp_in_nI (by omega) (by omega) | exact vp_in_nI (by simp; omega) (by decide) | (unfold vp_in; decide)) ?_
            refine Zw_V2 (k := 4) lm_L_26 dL_law_300 (by decide) (by first | decide | assumption | omega) (by first | rfl | assumption) (by rfl) (Nat.le_of_ble_eq_true rfl) ?_
            refine Zc.imp (fun r μ1 τ1 hq => ?_) (P_told hR)
            obtain ⟨⟨v, rfl⟩, k90, k91, hM⟩ := hq
            have h911 : μ1 91 0 = nI n := by rw [k91]; exact h91
            refine Zw_aload_2 dL_law_303 ?_
            refine Zw_aload_0 dL_law_304 ?_
            refine Zw_iload_3 dL_law_305 ?_
            refine Zw_iconst (v := 1) dL_law_306 (by decide) ?_
            refine Zw_nadd (ix) (1) dL_law_307 rfl rfl ?_
            refine Zw_xald dL_law_308 (by assumption) (by assumption) (by first | assumption | exact vp_in_nI (by omega) (by omega) | exact vp_in_nI (by simp; omega) (by decide) | (unfold vp_in; decide)) ?_
            refine Zw_aload_0 dL_law_309 ?_
            refine Zw_iload_3 dL_law_310 ?_
            refine Zw_iconst (v := 2) dL_law_311 (by decide) ?_
            refine Zw_nadd (ix) (2) dL_law_312 rfl rfl ?_
            refine Zw_xald dL_law_313 (by assumption) (by assumption) (by first | assumption | exact vp_in_nI (by omega) (by omega) | exact vp_in_nI (by simp; omega) (by decide) | (unfold vp_in; decide)) ?_
            refine Zw_V2 (k := 45) lm_L_30 dL_law_314 (by decide) (by first | decide | assumption | omega) (by first | rfl | assumption) (by rfl) (Nat.le_of_ble_eq_true rfl) ?_
            try rw [k90]
            refine Zc.imp (fun r2 μ2 τ2 hq2 => ?_) hM
            obtain ⟨rfl, hNx⟩ := hq2
            refine Zw_icmp_eq 1125 dL_law_317 (by decide) (fun c317 => ?_) (fun c317 => absurd c317 (not_not_intro rfl))
            refine Zw_iinc_3 (y := nI (ix + 6)) dL_law_1125 rfl (nI_add ix 6) ?_
            refine Zw_goto 18 dL_law_1128 (by decide) ?_
            exact l_law hn h m (ix + 6) μ2 τ2 (by omega) (by omega) hNx.1 (by rw [hNx.2.2]; exact h91)
          | 4, hi =>
            cases hi
            refine Zw_aload_1 dL_law_322 ?_
            refine Zw_aload_0 dL_law_323 ?_
            refine Zw_iload_3 dL_law_324 ?_
            refine Zw_iconst (v := 1) dL_law_325 (by decide) ?_
            refine Zw_nadd (ix) (1) dL_law_326 rfl rfl ?_
            refine Zw_xald dL_law_327 (by assumption) (by assumption) (by first | assumption | exact vp_in_nI (by omega) (by omega) | exact vp_in_nI (by simp; omega) (by decide) | (unfold vp_in; decide)) ?_
            refine Zw_V1 (k := 1) lm_L_31 dL_law_328 (by decide) (by first | decide | assumption | omega) (by first | rfl | assumption) (by rfl) (Nat.le_of_ble_eq_true rfl) ?_
            refine Zc.imp (fun r μ1 τ1 hq => ?_) (P_feed hR)
            obtain ⟨⟨v, rfl⟩, k90, k91, hM⟩ := hq
            have h911 : μ1 91 0 = nI n := by rw [k91]; exact h91
            refine Zw_aload_2 dL_law_331 ?_
            refine Zw_aload_0 dL_law_332 ?_
            refine Zw_iload_3 dL_law_333 ?_
            refine Zw_iconst (v := 1) dL_law_334 (by decide) ?_
            refine Zw_nadd (ix) (1) dL_law_335 rfl rfl ?_
            refine Zw_xald dL_law_336 (by assumption) (by assumption) (by first | assumption | exact vp_in_nI (by omega) (by omega) | exact vp_in_nI (by simp; omega) (by decide) | (unfold vp_in; decide)) ?_
            refine Zw_V1 (k := 1) lm_L_35 dL_law_337 (by decide) (by first | decide | assumption | omega) (by first | rfl | assumption) (by rfl) (Nat.le_of_ble_eq_true rfl) ?_
            try rw [k90]
            refine Zc.imp (fun r2 μ2 τ2 hq2 => ?_) hM
            obtain ⟨rfl, hNx⟩ := hq2
            refine Zw_icmp_eq 1125 dL_law_340 (by decide) (fun c340 => ?_) (fun c340 => absurd c340 (not_not_intro rfl))
            refine Zw_iinc_3 (y := nI (ix + 6)) dL_law_1125 rfl (nI_add ix 6) ?_
            refine Zw_goto 18 dL_law_1128 (by decide) ?_
            exact l_law hn h m (ix + 6) μ2 τ2 (by omega) (by omega) hNx.1 (by rw [hNx.2.2]; exact h91)
          | 5, hi =>
            cases hi
            refine Zw_aload_1 dL_law_345 ?_
            refine Zw_V0 (k := 12) lm_L_36 dL_law_346 (by decide) (by first | decide | assumption | omega) (by first | rfl | assumption) (by rfl) (Nat.le_of_ble_eq_true rfl) ?_
            refine Zc.imp (fun r μ1 τ1 hq => ?_) (P_text hR)
            obtain ⟨⟨v, rfl⟩, k90, k91, hM⟩ := hq
            have h911 : μ1 91 0 = nI n := by rw [k91]; exact h91
            refine Zw_aload_2 dL_law_349 ?_
            refine Zw_V0 (k := 42) lm_L_40 dL_law_350 (by decide) (by first | decide | assumption | omega) (by first | rfl | assumption) (by rfl) (Nat.le_of_ble_eq_true rfl) ?_
            try rw [k90]
            refine Zc.imp (fun r2 μ2 τ2 hq2 => ?_) hM
            obtain ⟨rfl, hNx⟩ := hq2
            refine Zw_icmp_eq 1125 dL_law_353 (by decide) (fun c353 => ?_) (fun c353 => absurd c353 (not_not_intro rfl))
            refine Zw_iinc_3 (y := nI (ix + 6)) dL_law_1125 rfl (nI_add ix 6) ?_
            refine Zw_goto 18 dL_law_1128 (by decide) ?_
            exact l_law hn h m (ix + 6) μ2 τ2 (by omega) (by omega) hNx.1 (by rw [hNx.2.2]; exact h91)
          | 6, hi =>
            cases hi
            refine Zw_aload_1 dL_law_358 ?_
            refine Zw_aload_0 dL_law_359 ?_
            refine Zw_iload_3 dL_law_360 ?_
            refine Zw_iconst (v := 1) dL_law_361 (by decide) ?_
            refine Zw_nadd (ix) (1) dL_law_362 rfl rfl ?_
            refine Zw_xald dL_law_363 (by assumption) (by assumption) (by first | assumption | exact vp_in_nI (by omega) (by omega) | exact vp_in_nI (by simp; omega) (by decide) | (unfold vp_in; decide)) ?_
            refine Zw_V1 (k := 1) lm_L_41 dL_law_364 (by decide) (by first | decide | assumption | omega) (by first | rfl | assumption) (by rfl) (Nat.le_of_ble_eq_true rfl) ?_
            refine Zc.imp (fun r μ1 τ1 hq => ?_) (P_force hR)
            obtain ⟨⟨v, rfl⟩, k90, k91, hM⟩ := hq
            have h911 : μ1 91 0 = nI n := by rw [k91]; exact h91
            refine Zw_aload_2 dL_law_367 ?_
            refine Zw_aload_0 dL_law_368 ?_
            refine Zw_iload_3 dL_law_369 ?_
            refine Zw_iconst (v := 1) dL_law_370 (by decide) ?_
            refine Zw_nadd (ix) (1) dL_law_371 rfl rfl ?_
            refine Zw_xald dL_law_372 (by assumption) (by assumption) (by first | assumption | exact vp_in_nI (by omega) (by omega) | exact vp_in_nI (by simp; omega) (by decide) | (unfold vp_in; decide)) ?_
            refine Zw_V1 (k := 1) lm_L_44 dL_law_373 (by decide) (by first | decide | assumption | omega) (by first | rfl | assumption) (by rfl) (Nat.le_of_ble_eq_true rfl) ?_
            try rw [k90]
            refine Zc.imp (fun r2 μ2 τ2 hq2 => ?_) hM
            obtain ⟨rfl, hNx⟩ := hq2
            refine Zw_icmp_eq 1125 dL_law_376 (by decide) (fun c376 => ?_) (fun c376 => absurd c376 (not_not_intro rfl))
            refine Zw_iinc_3 (y := nI (ix + 6)) dL_law_1125 rfl (nI_add ix 6) ?_
            refine Zw_goto 18 dL_law_1128 (by decide) ?_
            exact l_law hn h m (ix + 6) μ2 τ2 (by omega) (by omega) hNx.1 (by rw [hNx.2.2]; exact h91)
          | 7, hi =>
            cases hi
            refine Zw_aload_1 dL_law_381 ?_
            refine Zw_aload_0 dL_law_382 ?_
            refine Zw_iload_3 dL_law_383 ?_
            refine Zw_iconst (v := 1) dL_law_384 (by decide) ?_
            refine Zw_nadd (ix) (1) dL_law_385 rfl rfl ?_
            refine Zw_xald dL_law_386 (by assumption) (by assumption) (by first | assumption | exact vp_in_nI (by omega) (by omega) | exact vp_in_nI (by simp; omega) (by decide) | (unfold vp_in; decide)) ?_
            refine Zw_aload_0 dL_law_387 ?_
            refine Zw_iload_3 dL_law_388 ?_
            refine Zw_iconst (v := 2) dL_law_389 (by decide) ?_
            refine Zw_nadd (ix) (2) dL_law_390 rfl rfl ?_
            refine Zw_xald dL_law_391 (by assumption) (by assumption) (by first | assumption | exact vp_in_nI (by omega) (by omega) | exact vp_in_nI (by simp; omega) (by decide) | (unfold vp_in; decide)) ?_
            refine Zw_V2 (k := 4) lm_L_45 dL_law_392 (by decide) (by first | decide | assumption | omega) (by first | rfl | assumption) (by rfl) (Nat.le_of_ble_eq_true rfl) ?_
            refine Zc.imp (fun r μ1 τ1 hq => ?_) (P_spread hR)
            obtain ⟨⟨v, rfl⟩, k90, k91, hM⟩ := hq
            have h911 : μ1 91 0 = nI n := by rw [k91]; exact h91
            refine Zw_aload_2 dL_law_395 ?_
            refine Zw_aload_0 dL_law_396 ?_
            refine Zw_iload_3 dL_law_397 ?_
            refine Zw_iconst (v := 1) dL_law_398 (by decide) ?_
            refine Zw_nadd (ix) (1) dL_law_399 rfl rfl ?_
            refine Zw_xald dL_law_400 (by assumption) (by assumption) (by first | assumption | exact vp_in_nI (by omega) (by omega) | exact vp_in_nI (by simp; omega) (by decide) | (unfold vp_in; decide)) ?_
            refine Zw_aload_0 dL_law_401 ?_
            refine Zw_iload_3 dL_law_402 ?_
            refine Zw_iconst (v := 2) dL_law_403 (by decide) ?_
            refine Zw_nadd (ix) (2) dL_law_404 rfl rfl ?_
            refine Zw_xald dL_law_405 (by assumption) (by assumption) (by first | assumption | exact vp_in_nI (by omega) (by omega) | exact vp_in_nI (by simp; omega) (by decide) | (unfold vp_in; decide)) ?_
            refine Zw_V2 (k := 45) lm_L_48 dL_law_406 (by decide) (by first | decide | assumption | omega) (by first | rfl | assumption) (by rfl) (Nat.le_of_ble_eq_true rfl) ?_
            try rw [k90]
            refine Zc.imp (fun r2 μ2 τ2 hq2 => ?_) hM
            obtain ⟨rfl, hNx⟩ := hq2
            refine Zw_icmp_eq 1125 dL_law_409 (by decide) (fun c409 => ?_) (fun c409 => absurd c409 (not_not_intro rfl))
            refine Zw_iinc_3 (y := nI (ix + 6)) dL_law_1125 rfl (nI_add ix 6) ?_
            refine Zw_goto 18 dL_law_1128 (by decide) ?_
            exact l_law hn h m (ix + 6) μ2 τ2 (by omega) (by omega) hNx.1 (by rw [hNx.2.2]; exact h91)
          | 8, hi =>
            cases hi
            refine Zw_aload_1 dL_law_414 ?_
            refine Zw_aload_0 dL_law_415 ?_
            refine Zw_iload_3 dL_law_416 ?_
            refine Zw_iconst (v := 1) dL_law_417 (by decide) ?_
            refine Zw_nadd (ix) (1) dL_law_418 rfl rfl ?_
            refine Zw_xald dL_law_419 (by assumption) (by assumption) (by first | assumption | exact vp_in_nI (by omega) (by omega) | exact vp_in_nI (by simp; omega) (by decide) | (unfold vp_in; decide)) ?_
            refine Zw_V1 (k := 4) lm_L_49 dL_law_420 (by decide) (by first | decide | assumption | omega) (by first | rfl | assumption) (by rfl) (Nat.le_of_ble_eq_true rfl) ?_
            refine Zc.imp (fun r μ1 τ1 hq => ?_) (P_week hR)
            obtain ⟨⟨v, rfl⟩, k90, k91, hM⟩ := hq
            have h911 : μ1 91 0 = nI n := by rw [k91]; exact h91
            refine Zw_aload_2 dL_law_423 ?_
            refine Zw_aload_0 dL_law_424 ?_
            refine Zw_iload_3 dL_law_425 ?_
            refine Zw_iconst (v := 1) dL_law_426 (by decide) ?_
            refine Zw_nadd (ix) (1) dL_law_427 rfl rfl ?_
            refine Zw_xald dL_law_428 (by assumption) (by assumption) (by first | assumption | exact vp_in_nI (by omega) (by omega) | exact vp_in_nI (by simp; omega) (by decide) | (unfold vp_in; decide)) ?_
            refine Zw_V1 (k := 45) lm_L_52 dL_law_429 (by decide) (by first | decide | assumption | omega) (by first | rfl | assumption) (by rfl) (Nat.le_of_ble_eq_true rfl) ?_
            try rw [k90]
            refine Zc.imp (fun r2 μ2 τ2 hq2 => ?_) hM
            obtain ⟨rfl, hNx⟩ := hq2
            refine Zw_icmp_eq 1125 dL_law_432 (by decide) (fun c432 => ?_) (fun c432 => absurd c432 (not_not_intro rfl))
            refine Zw_iinc_3 (y := nI (ix + 6)) dL_law_1125 rfl (nI_add ix 6) ?_
            refine Zw_goto 18 dL_law_1128 (by decide) ?_
            exact l_law hn h m (ix + 6) μ2 τ2 (by omega) (by omega) hNx.1 (by rw [hNx.2.2]; exact h91)
          | 9, hi =>
            cases hi
            refine Zw_aload_1 dL_law_437 ?_
            refine Zw_aload_0 dL_law_438 ?_
            refine Zw_iload_3 dL_law_439 ?_
            refine Zw_iconst (v := 1) dL_law_440 (by decide) ?_
            refine Zw_nadd (ix) (1) dL_law_441 rfl rfl ?_
            refine Zw_xald dL_law_442 (by assumption) (by assumption) (by first | assumption | exact vp_in_nI (by omega) (by omega) | exact vp_in_nI (by simp; omega) (by decide) | (unfold vp_in; decide)) ?_
            refine Zw_aload_0 dL_law_443 ?_
            refine Zw_iload_3 dL_law_444 ?_
            refine Zw_iconst (v := 2) dL_law_445 (by decide) ?_
            refine Zw_nadd (ix) (2) dL_law_446 rfl rfl ?_
            refine Zw_xald dL_law_447 (by assumption) (by assumption) (by first | assumption | exact vp_in_nI (by omega) (by omega) | exact vp_in_nI (by simp; omega) (by decide) | (unfold vp_in; decide)) ?_
            refine Zw_V2 (k := 1) lm_L_53 dL_law_448 (by decide) (by first | decide | assumption | omega) (by first | rfl | assumption) (by rfl) (Nat.le_of_ble_eq_true rfl) ?_
            refine Zc.imp (fun r μ1 τ1 hq => ?_) (P_go hR)
            obtain ⟨⟨v, rfl⟩, k90, k91, hM⟩ := hq
            have h911 : μ1 91 0 = nI n := by rw [k91]; exact h91
            refine Zw_aload_2 dL_law_451 ?_
            refine Zw_aload_0 dL_law_452 ?_
            refine Zw_iload_3 dL_law_453 ?_
            refine Zw_iconst (v := 1) dL_law_454 (by decide) ?_
            refine Zw_nadd (ix) (1) dL_law_455 rfl rfl ?_
            refine Zw_xald dL_law_456 (by assumption) (by assumption) (by first | assumption | exact vp_in_nI (by omega) (by omega) | exact vp_in_nI (by simp; omega) (by decide) | (unfold vp_in; decide)) ?_
            refine Zw_aload_0 dL_law_457 ?_
            refine Zw_iload_3 dL_law_458 ?_
            refine Zw_iconst (v := 2) dL_law_459 (by decide) ?_
            refine Zw_nadd (ix) (2) dL_law_460 rfl rfl ?_
            refine Zw_xald dL_law_461 (by assumption) (by assumption) (by first | assumption | exact vp_in_nI (by omega) (by omega) | exact vp_in_nI (by simp; omega) (by decide) | (unfold vp_in; decide)) ?_
            refine Zw_V2 (k := 2) lm_L_56 dL_law_462 (by decide) (by first | decide | assumption | omega) (by first | rfl | assumption) (by rfl) (Nat.le_of_ble_eq_true rfl) ?_
            try rw [k90]
            refine Zc.imp (fun r2 μ2 τ2 hq2 => ?_) hM
            obtain ⟨rfl, hNx⟩ := hq2
            refine Zw_icmp_eq 1125 dL_law_465 (by decide) (fun c465 => ?_) (fun c465 => absurd c465 (not_not_intro rfl))
            refine Zw_iinc_3 (y := nI (ix + 6)) dL_law_1125 rfl (nI_add ix 6) ?_
            refine Zw_goto 18 dL_law_1128 (by decide) ?_
            exact l_law hn h m (ix + 6) μ2 τ2 (by omega) (by omega) hNx.1 (by rw [hNx.2.2]; exact h91)
          | 10, hi =>
            cases hi
            refine Zw_aload_1 dL_law_470 ?_
            refine Zw_aload_0 dL_law_471 ?_
            refine Zw_iload_3 dL_law_472 ?_
            refine Zw_iconst (v := 1) dL_law_473 (by decide) ?_
            refine Zw_nadd (ix) (1) dL_law_474 rfl rfl ?_
            refine Zw_xald dL_law_475 (by assumption) (by assumption) (by first | assumption | exact vp_in_nI (by omega) (by omega) | exact vp_in_nI (by simp; omega) (by decide) | (unfold vp_in; decide)) ?_
            refine Zw_aload_0 dL_law_476 ?_
            refine Zw_iload_3 dL_law_477 ?_
            refine Zw_iconst (v := 2) dL_law_478 (by decide) ?_
            refine Zw_nadd (ix) (2) dL_law_479 rfl rfl ?_
            refine Zw_xald dL_law_480 (by assumption) (by assumption) (by first | assumption | exact vp_in_nI (by omega) (by omega) | exact vp_in_nI (by simp; omega) (by decide) | (unfold vp_in; decide)) ?_
            refine Zw_V2 (k := 5) lm_L_57 dL_law_481 (by decide) (by first | decide | assumption | omega) (by first | rfl | assumption) (by rfl) (Nat.le_of_ble_eq_true rfl) ?_
            refine Zc.imp (fun r μ1 τ1 hq => ?_) (P_run hR)
            obtain ⟨⟨v, rfl⟩, k90, k91, hM⟩ := hq
            have h911 : μ1 91 0 = nI n := by rw [k91]; exact h91
            refine Zw_aload_2 dL_law_484 ?_
            refine Zw_aload_0 dL_law_485 ?_
            refine Zw_iload_3 dL_law_486 ?_
            refine Zw_iconst (v := 1) dL_law_487 (by decide) ?_
            refine Zw_nadd (ix) (1) dL_law_488 rfl rfl ?_
            refine Zw_xald dL_law_489 (by assumption) (by assumption) (by first | assumption | exact vp_in_nI (by omega) (by omega) | exact vp_in_nI (by simp; omega) (by decide) | (unfold vp_in; decide)) ?_
            refine Zw_aload_0 dL_law_490 ?_
            refine Zw_iload_3 dL_law_491 ?_
            refine Zw_iconst (v := 2) dL_law_492 (by decide) ?_
            refine Zw_nadd (ix) (2) dL_law_493 rfl rfl ?_
            refine Zw_xald dL_law_494 (by assumption) (by assumption) (by first | assumption | exact vp_in_nI (by omega) (by omega) | exact vp_in_nI (by simp; omega) (by decide) | (unfold vp_in; decide)) ?_
            refine Zw_V2 (k := 45) lm_L_60 dL_law_495 (by decide) (by first | decide | assumption | omega) (by first | rfl | assumption) (by rfl) (Nat.le_of_ble_eq_true rfl) ?_
            try rw [k90]
            refine Zc.imp (fun r2 μ2 τ2 hq2 => ?_) hM
            obtain ⟨rfl, hNx⟩ := hq2
            refine Zw_icmp_eq 1125 dL_law_498 (by decide) (fun c498 => ?_) (fun c498 => absurd c498 (not_not_intro rfl))
            refine Zw_iinc_3 (y := nI (ix + 6)) dL_law_1125 rfl (nI_add ix 6) ?_
            refine Zw_goto 18 dL_law_1128 (by decide) ?_
            exact l_law hn h m (ix + 6) μ2 τ2 (by omega) (by omega) hNx.1 (by rw [hNx.2.2]; exact h91)
          | 11, hi =>
            cases hi
            refine Zw_aload_1 dL_law_503 ?_
            refine Zw_aload_0 dL_law_504 ?_
            refine Zw_iload_3 dL_law_505 ?_
            refine Zw_iconst (v := 1) dL_law_506 (by decide) ?_
            refine Zw_nadd (ix) (1) dL_law_507 rfl rfl ?_
            refine Zw_xald dL_law_508 (by assumption) (by assumption) (by first | assumption | exact vp_in_nI (by omega) (by omega) | exact vp_in_nI (by simp; omega) (by decide) | (unfold vp_in; decide)) ?_
            refine Zw_aload_0 dL_law_509 ?_
            refine Zw_iload_3 dL_law_510 ?_
            refine Zw_iconst (v := 2) dL_law_511 (by decide) ?_
            refine Zw_nadd (ix) (2) dL_law_512 rfl rfl ?_
            refine Zw_xald dL_law_513 (by assumption) (by assumption) (by first | assumption | exact vp_in_nI (by omega) (by omega) | exact vp_in_nI (by simp; omega) (by decide) | (unfold vp_in; decide)) ?_
            refine Zw_aload_0 dL_law_514 ?_
            refine Zw_iload_3 dL_law_515 ?_
            refine Zw_iconst (v := 3) dL_law_516 (by decide) ?_
            refine Zw_nadd (ix) (3) dL_law_517 rfl rfl ?_
            refine Zw_xald dL_law_518 (by assumption) (by assumption) (by first | assumption | exact vp_in_nI (by omega) (by omega) | exact vp_in_nI (by simp; omega) (by decide) | (unfold vp_in; decide)) ?_
            refine Zw_V3 (k := 5) lm_L_61 dL_law_519 (by decide) (by first | decide | assumption | omega) (by first | rfl | assumption) (by rfl) (Nat.le_of_ble_eq_true rfl) ?_
            refine Zc.imp (fun r μ1 τ1 hq => ?_) (P_sure hR)
            obtain ⟨⟨v, rfl⟩, k90, k91, hM⟩ := hq
            have h911 : μ1 91 0 = nI n := by rw [k91]; exact h91
            refine Zw_aload_2 dL_law_522 ?_
            refine Zw_aload_0 dL_law_523 ?_
            refine Zw_iload_3 dL_law_524 ?_
            refine Zw_iconst (v := 1) dL_law_525 (by decide) ?_
            refine Zw_nadd (ix) (1) dL_law_526 rfl rfl ?_
            refine Zw_xald dL_law_527 (by assumption) (by assumption) (by first | assumption | exact vp_in_nI (by omega) (by omega) | exact vp_in_nI (by simp; omega) (by decide) | (unfold vp_in; decide)) ?_
            refine Zw_aload_0 dL_law_528 ?_
            refine Zw_iload_3 dL_law_529 ?_
            refine Zw_iconst (v := 2) dL_law_530 (by decide) ?_
            refine Zw_nadd (ix) (2) dL_law_531 rfl rfl ?_
            refine Zw_xald dL_law_532 (by assumption) (by assumption) (by first | assumption | exact vp_in_nI (by omega) (by omega) | exact vp_in_nI (by simp; omega) (by decide) | (unfold vp_in; decide)) ?_
            refine Zw_aload_0 dL_law_533 ?_
            refine Zw_iload_3 dL_law_534 ?_
            refine Zw_iconst (v := 3) dL_law_535 (by decide) ?_
            refine Zw_nadd (ix) (3) dL_law_536 rfl rfl ?_
            refine Zw_xald dL_law_537 (by assumption) (by assumption) (by first | assumption | exact vp_in_nI (by omega) (by omega) | exact vp_in_nI (by simp; omega) (by decide) | (unfold vp_in; decide)) ?_
            refine Zw_V3 (k := 46) lm_L_64 dL_law_538 (by decide) (by first | decide | assumption | omega) (by first | rfl | assumption) (by rfl) (Nat.le_of_ble_eq_true rfl) ?_
            try rw [k90]
            refine Zc.imp (fun r2 μ2 τ2 hq2 => ?_) hM
            obtain ⟨rfl, hNx⟩ := hq2
            refine Zw_icmp_eq 1125 dL_law_541 (by decide) (fun c541 => ?_) (fun c541 => absurd c541 (not_not_intro rfl))
            refine Zw_iinc_3 (y := nI (ix + 6)) dL_law_1125 rfl (nI_add ix 6) ?_
            refine Zw_goto 18 dL_law_1128 (by decide) ?_
            exact l_law hn h m (ix + 6) μ2 τ2 (by omega) (by omega) hNx.1 (by rw [hNx.2.2]; exact h91)
          | 12, hi =>
            cases hi
            refine Zw_aload_1 dL_law_546 ?_
            refine Zw_aload_0 dL_law_547 ?_
            refine Zw_iload_3 dL_law_548 ?_
            refine Zw_iconst (v := 1) dL_law_549 (by decide) ?_
            refine Zw_nadd (ix) (1) dL_law_550 rfl rfl ?_
            refine Zw_xald dL_law_551 (by assumption) (by assumption) (by first | assumption | exact vp_in_nI (by omega) (by omega) | exact vp_in_nI (by simp; omega) (by decide) | (unfold vp_in; decide)) ?_
            refine Zw_aload_0 dL_law_552 ?_
            refine Zw_iload_3 dL_law_553 ?_
            refine Zw_iconst (v := 2) dL_law_554 (by decide) ?_
            refine Zw_nadd (ix) (2) dL_law_555 rfl rfl ?_
            refine Zw_xald dL_law_556 (by assumption) (by assumption) (by first | assumption | exact vp_in_nI (by omega) (by omega) | exact vp_in_nI (by simp; omega) (by decide) | (unfold vp_in; decide)) ?_
            refine Zw_V2 (k := 5) lm_L_65 dL_law_557 (by decide) (by first | decide | assumption | omega) (by first | rfl | assumption) (by rfl) (Nat.le_of_ble_eq_true rfl) ?_
            refine Zc.imp (fun r μ1 τ1 hq => ?_) (P_stand hR)
            obtain ⟨⟨v, rfl⟩, k90, k91, hM⟩ := hq
            have h911 : μ1 91 0 = nI n := by rw [k91]; exact h91
            refine Zw_aload_2 dL_law_560 ?_
            refine Zw_aload_0 dL_law_561 ?_
            refine Zw_iload_3 dL_law_562 ?_
            refine Zw_iconst (v := 1) dL_law_563 (by decide) ?_
            refine Zw_nadd (ix) (1) dL_law_564 rfl rfl ?_
            refine Zw_xald dL_law_565 (by assumption) (by assumption) (by first | assumption | exact vp_in_nI (by omega) (by omega) | exact vp_in_nI (by simp; omega) (by decide) | (unfold vp_in; decide)) ?_
            refine Zw_aload_0 dL_law_566 ?_
            refine Zw_iload_3 dL_law_567 ?_
            refine Zw_iconst (v := 2) dL_law_568 (by decide) ?_
            refine Zw_nadd (ix) (2) dL_law_569 rfl rfl ?_
            refine Zw_xald dL_law_570 (by assumption) (by assumption) (by first | assumption | exact vp_in_nI (by omega) (by omega) | exact vp_in_nI (by simp; omega) (by decide) | (unfold vp_in; decide)) ?_
            refine Zw_V2 (k := 46) lm_L_68 dL_law_571 (by decide) (by first | decide | assumption | omega) (by first | rfl | assumption) (by rfl) (Nat.le_of_ble_eq_true rfl) ?_
            try rw [k90]
            refine Zc.imp (fun r2 μ2 τ2 hq2 => ?_) hM
            obtain ⟨rfl, hNx⟩ := hq2
            refine Zw_icmp_eq 1125 dL_law_574 (by decide) (fun c574 => ?_) (fun c574 => absurd c574 (not_not_intro rfl))
            refine Zw_iinc_3 (y := nI (ix + 6)) dL_law_1125 rfl (nI_add ix 6) ?_
            refine Zw_goto 18 dL_law_1128 (by decide) ?_
            exact l_law hn h m (ix + 6) μ2 τ2 (by omega) (by omega) hNx.1 (by rw [hNx.2.2]; exact h91)
          | 13, hi =>
            cases hi
            refine Zw_aload_1 dL_law_579 ?_
            refine Zw_aload_0 dL_law_580 ?_
            refine Zw_iload_3 dL_law_581 ?_
            refine Zw_iconst (v := 1) dL_law_582 (by decide) ?_
            refine Zw_nadd (ix) (1) dL_law_583 rfl rfl ?_
            refine Zw_xald dL_law_584 (by assumption) (by assumption) (by first | assumption | exact vp_in_nI (by omega) (by omega) | exact vp_in_nI (by simp; omega) (by decide) | (unfold vp_in; decide)) ?_
            refine Zw_aload_0 dL_law_585 ?_
            refine Zw_iload_3 dL_law_586 ?_
            refine Zw_iconst (v := 2) dL_law_587 (by decide) ?_
            refine Zw_nadd (ix) (2) dL_law_588 rfl rfl ?_
            refine Zw_xald dL_law_589 (by assumption) (by assumption) (by first | assumption | exact vp_in_nI (by omega) (by omega) | exact vp_in_nI (by simp; omega) (by decide) | (unfold vp_in; decide)) ?_
            refine Zw_V2 (k := 6) lm_L_69 dL_law_590 (by decide) (by first | decide | assumption | omega) (by first | rfl | assumption) (by rfl) (Nat.le_of_ble_eq_true rfl) ?_
            refine Zc.imp (fun r μ1 τ1 hq => ?_) (P_shut hR)
            obtain ⟨⟨v, rfl⟩, k90, k91, hM⟩ := hq
            have h911 : μ1 91 0 = nI n := by rw [k91]; exact h91
            refine Zw_aload_2 dL_law_593 ?_
            refine Zw_aload_0 dL_law_594 ?_
            refine Zw_iload_3 dL_law_595 ?_
            refine Zw_iconst (v := 1) dL_law_596 (by decide) ?_
            refine Zw_nadd (ix) (1) dL_law_597 rfl rfl ?_
            refine Zw_xald dL_law_598 (by assumption) (by assumption) (by first | assumption | exact vp_in_nI (by omega) (by omega) | exact vp_in_nI (by simp; omega) (by decide) | (unfold vp_in; decide)) ?_
            refine Zw_aload_0 dL_law_599 ?_
            refine Zw_iload_3 dL_law_600 ?_
            refine Zw_iconst (v := 2) dL_law_601 (by decide) ?_
            refine Zw_nadd (ix) (2) dL_law_602 rfl rfl ?_
            refine Zw_xald dL_law_603 (by assumption) (by assumption) (by first | assumption | exact vp_in_nI (by omega) (by omega) | exact vp_in_nI (by simp; omega) (by decide) | (unfold vp_in; decide)) ?_
            refine Zw_V2 (k := 46) lm_L_72 dL_law_604 (by decide) (by first | decide | assumption | omega) (by first | rfl | assumption) (by rfl) (Nat.le_of_ble_eq_true rfl) ?_
            try rw [k90]
            refine Zc.imp (fun r2 μ2 τ2 hq2 => ?_) hM
            obtain ⟨rfl, hNx⟩ := hq2
            refine Zw_icmp_eq 1125 dL_law_607 (by decide) (fun c607 => ?_) (fun c607 => absurd c607 (not_not_intro rfl))
            refine Zw_iinc_3 (y := nI (ix + 6)) dL_law_1125 rfl (nI_add ix 6) ?_
            refine Zw_goto 18 dL_law_1128 (by decide) ?_
            exact l_law hn h m (ix + 6) μ2 τ2 (by omega) (by omega) hNx.1 (by rw [hNx.2.2]; exact h91)
          | 14, hi =>
            cases hi
            refine Zw_aload_1 dL_law_612 ?_
            refine Zw_aload_0 dL_law_613 ?_
            refine Zw_iload_3 dL_law_614 ?_
            refine Zw_iconst (v := 1) dL_law_615 (by decide) ?_
            refine Zw_nadd (ix) (1) dL_law_616 rfl rfl ?_
            refine Zw_xald dL_law_617 (by assumption) (by assumption) (by first | assumption | exact vp_in_nI (by omega) (by omega) | exact vp_in_nI (by simp; omega) (by decide) | (unfold vp_in; decide)) ?_
            refine Zw_aload_0 dL_law_618 ?_
            refine Zw_iload_3 dL_law_619 ?_
            refine Zw_iconst (v := 2) dL_law_620 (by decide) ?_
            refine Zw_nadd (ix) (2) dL_law_621 rfl rfl ?_
            refine Zw_xald dL_law_622 (by assumption) (by assumption) (by first | assumption | exact vp_in_nI (by omega) (by omega) | exact vp_in_nI (by simp; omega) (by decide) | (unfold vp_in; decide)) ?_
            refine Zw_V2 (k := 4) lm_L_73 dL_law_623 (by decide) (by first | decide | assumption | omega) (by first | rfl | assumption) (by rfl) (Nat.le_of_ble_eq_true rfl) ?_
            refine Zc.imp (fun r μ1 τ1 hq => ?_) (P_look hR)
            obtain ⟨⟨v, rfl⟩, k90, k91, hM⟩ := hq
            have h911 : μ1 91 0 = nI n := by rw [k91]; exact h91
            refine Zw_aload_2 dL_law_626 ?_
            refine Zw_aload_0 dL_law_627 ?_
            refine Zw_iload_3 dL_law_628 ?_
            refine Zw_iconst (v := 1) dL_law_629 (by decide) ?_
            refine Zw_nadd (ix) (1) dL_law_630 rfl rfl ?_
            refine Zw_xald dL_law_631 (by assumption) (by assumption) (by first | assumption | exact vp_in_nI (by omega) (by omega) | exact vp_in_nI (by simp; omega) (by decide) | (unfold vp_in; decide)) ?_
            refine Zw_aload_0 dL_law_632 ?_
            refine Zw_iload_3 dL_law_633 ?_
            refine Zw_iconst (v := 2) dL_law_634 (by decide) ?_
            refine Zw_nadd (ix) (2) dL_law_635 rfl rfl ?_
            refine Zw_xald dL_law_636 (by assumption) (by assumption) (by first | assumption | exact vp_in_nI (by omega) (by omega) | exact vp_in_nI (by simp; omega) (by decide) | (unfold vp_in; decide)) ?_
            refine Zw_V2 (k := 45) lm_L_76 dL_law_637 (by decide) (by first | decide | assumption | omega) (by first | rfl | assumption) (by rfl) (Nat.le_of_ble_eq_true rfl) ?_
            try rw [k90]
            refine Zc.imp (fun r2 μ2 τ2 hq2 => ?_) hM
            obtain ⟨rfl, hNx⟩ := hq2
            refine Zw_icmp_eq 1125 dL_law_640 (by decide) (fun c640 => ?_) (fun c640 => absurd c640 (not_not_intro rfl))
            refine Zw_iinc_3 (y := nI (ix + 6)) dL_law_1125 rfl (nI_add ix 6) ?_
            refine Zw_goto 18 dL_law_1128 (by decide) ?_
            exact l_law hn h m (ix + 6) μ2 τ2 (by omega) (by omega) hNx.1 (by rw [hNx.2.2]; exact h91)
          | 15, hi =>
            cases hi
            refine Zw_aload_1 dL_law_645 ?_
            refine Zw_aload_0 dL_law_646 ?_
            refine Zw_iload_3 dL_law_647 ?_
            refine Zw_iconst (v := 1) dL_law_648 (by decide) ?_
            refine Zw_nadd (ix) (1) dL_law_649 rfl rfl ?_
            refine Zw_xald dL_law_650 (by assumption) (by assumption) (by first | assumption | exact vp_in_nI (by omega) (by omega) | exact vp_in_nI (by simp; omega) (by decide) | (unfold vp_in; decide)) ?_
            refine Zw_aload_0 dL_law_651 ?_
            refine Zw_iload_3 dL_law_652 ?_
            refine Zw_iconst (v := 2) dL_law_653 (by decide) ?_
            refine Zw_nadd (ix) (2) dL_law_654 rfl rfl ?_
            refine Zw_xald dL_law_655 (by assumption) (by assumption) (by first | assumption | exact vp_in_nI (by omega) (by omega) | exact vp_in_nI (by simp; omega) (by decide) | (unfold vp_in; decide)) ?_
            refine Zw_V2 (k := 7) lm_L_77 dL_law_656 (by decide) (by first | decide | assumption | omega) (by first | rfl | assumption) (by rfl) (Nat.le_of_ble_eq_true rfl) ?_
            refine Zc.imp (fun r μ1 τ1 hq => ?_) (P_tells hR)
            obtain ⟨⟨v, rfl⟩, k90, k91, hM⟩ := hq
            have h911 : μ1 91 0 = nI n := by rw [k91]; exact h91
            refine Zw_aload_2 dL_law_659 ?_
            refine Zw_aload_0 dL_law_660 ?_
            refine Zw_iload_3 dL_law_661 ?_
            refine Zw_iconst (v := 1) dL_law_662 (by decide) ?_
            refine Zw_nadd (ix) (1) dL_law_663 rfl rfl ?_
            refine Zw_xald dL_law_664 (by assumption) (by assumption) (by first | assumption | exact vp_in_nI (by omega) (by omega) | exact vp_in_nI (by simp; omega) (by decide) | (unfold vp_in; decide)) ?_
            refine Zw_aload_0 dL_law_665 ?_
            refine Zw_iload_3 dL_law_666 ?_
            refine Zw_iconst (v := 2) dL_law_667 (by decide) ?_
            refine Zw_nadd (ix) (2) dL_law_668 rfl rfl ?_
            refine Zw_xald dL_law_669 (by assumption) (by assumption) (by first | assumption | exact vp_in_nI (by omega) (by omega) | exact vp_in_nI (by simp; omega) (by decide) | (unfold vp_in; decide)) ?_
            refine Zw_V2 (k := 48) lm_L_80 dL_law_670 (by decide) (by first | decide | assumption | omega) (by first | rfl | assumption) (by rfl) (Nat.le_of_ble_eq_true rfl) ?_
            try rw [k90]
            refine Zc.imp (fun r2 μ2 τ2 hq2 => ?_) hM
            obtain ⟨rfl, hNx⟩ := hq2
            refine Zw_icmp_eq 1125 dL_law_673 (by decide) (fun c673 => ?_) (fun c673 => absurd c673 (not_not_intro rfl))
            refine Zw_iinc_3 (y := nI (ix + 6)) dL_law_1125 rfl (nI_add ix 6) ?_
            refine Zw_goto 18 dL_law_1128 (by decide) ?_
            exact l_law hn h m (ix + 6) μ2 τ2 (by omega) (by omega) hNx.1 (by rw [hNx.2.2]; exact h91)
          | 16, hi =>
            cases hi
            refine Zw_aload_1 dL_law_678 ?_
            refine Zw_aload_0 dL_law_679 ?_
            refine Zw_iload_3 dL_law_680 ?_
            refine Zw_iconst (v := 1) dL_law_681 (by decide) ?_
            refine Zw_nadd (ix) (1) dL_law_682 rfl rfl ?_
            refine Zw_xald dL_law_683 (by assumption) (by assumption) (by first | assumption | exact vp_in_nI (by omega) (by omega) | exact vp_in_nI (by simp; omega) (by decide) | (unfold vp_in; decide)) ?_
            refine Zw_aload_0 dL_law_684 ?_
            refine Zw_iload_3 dL_law_685 ?_
            refine Zw_iconst (v := 2) dL_law_686 (by decide) ?_
            refine Zw_nadd (ix) (2) dL_law_687 rfl rfl ?_
            refine Zw_xald dL_law_688 (by assumption) (by assumption) (by first | assumption | exact vp_in_nI (by omega) (by omega) | exact vp_in_nI (by simp; omega) (by decide) | (unfold vp_in; decide)) ?_
            refine Zw_aload_0 dL_law_689 ?_
            refine Zw_iload_3 dL_law_690 ?_
            refine Zw_iconst (v := 3) dL_law_691 (by decide) ?_
            refine Zw_nadd (ix) (3) dL_law_692 rfl rfl ?_
            refine Zw_xald dL_law_693 (by assumption) (by assumption) (by first | assumption | exact vp_in_nI (by omega) (by omega) | exact vp_in_nI (by simp; omega) (by decide) | (unfold vp_in; decide)) ?_
            refine Zw_V3 (k := 7) lm_L_81 dL_law_694 (by decide) (by first | decide | assumption | omega) (by first | rfl | assumption) (by rfl) (Nat.le_of_ble_eq_true rfl) ?_
            refine Zc.imp (fun r μ1 τ1 hq => ?_) (P_eyes hR)
            obtain ⟨⟨v, rfl⟩, k90, k91, hM⟩ := hq
            have h911 : μ1 91 0 = nI n := by rw [k91]; exact h91
            refine Zw_aload_2 dL_law_697 ?_
            refine Zw_aload_0 dL_law_698 ?_
            refine Zw_iload_3 dL_law_699 ?_
            refine Zw_iconst (v := 1) dL_law_700 (by decide) ?_
            refine Zw_nadd (ix) (1) dL_law_701 rfl rfl ?_
            refine Zw_xald dL_law_702 (by assumption) (by assumption) (by first | assumption | exact vp_in_nI (by omega) (by omega) | exact vp_in_nI (by simp; omega) (by decide) | (unfold vp_in; decide)) ?_
            refine Zw_aload_0 dL_law_703 ?_
            refine Zw_iload_3 dL_law_704 ?_
            refine Zw_iconst (v := 2) dL_law_705 (by decide) ?_
            refine Zw_nadd (ix) (2) dL_law_706 rfl rfl ?_
            refine Zw_xald dL_law_707 (by assumption) (by assumption) (by first | assumption | exact vp_in_nI (by omega) (by omega) | exact vp_in_nI (by simp; omega) (by decide) | (unfold vp_in; decide)) ?_
            refine Zw_aload_0 dL_law_708 ?_
            refine Zw_iload_3 dL_law_709 ?_
            refine Zw_iconst (v := 3) dL_law_710 (by decide) ?_
            refine Zw_nadd (ix) (3) dL_law_711 rfl rfl ?_
            refine Zw_xald dL_law_712 (by assumption) (by assumption) (by first | assumption | exact vp_in_nI (by omega) (by omega) | exact vp_in_nI (by simp; omega) (by decide) | (unfold vp_in; decide)) ?_
            refine Zw_V3 (k := 48) lm_L_84 dL_law_713 (by decide) (by first | decide | assumption | omega) (by first | rfl | assumption) (by rfl) (Nat.le_of_ble_eq_true rfl) ?_
            try rw [k90]
            refine Zc.imp (fun r2 μ2 τ2 hq2 => ?_) hM
            obtain ⟨rfl, hNx⟩ := hq2
            refine Zw_icmp_eq 1125 dL_law_716 (by decide) (fun c716 => ?_) (fun c716 => absurd c716 (not_not_intro rfl))
            refine Zw_iinc_3 (y := nI (ix + 6)) dL_law_1125 rfl (nI_add ix 6) ?_
            refine Zw_goto 18 dL_law_1128 (by decide) ?_
            exact l_law hn h m (ix + 6) μ2 τ2 (by omega) (by omega) hNx.1 (by rw [hNx.2.2]; exact h91)
          | 17, hi =>
            cases hi
            refine Zw_aload_1 dL_law_721 ?_
            refine Zw_aload_0 dL_law_722 ?_
            refine Zw_iload_3 dL_law_723 ?_
            refine Zw_iconst (v := 1) dL_law_724 (by decide) ?_
            refine Zw_nadd (ix) (1) dL_law_725 rfl rfl ?_
            refine Zw_xald dL_law_726 (by assumption) (by assumption) (by first | assumption | exact vp_in_nI (by omega) (by omega) | exact vp_in_nI (by simp; omega) (by decide) | (unfold vp_in; decide)) ?_
            refine Zw_aload_0 dL_law_727 ?_
            refine Zw_iload_3 dL_law_728 ?_
            refine Zw_iconst (v := 2) dL_law_729 (by decide) ?_
            refine Zw_nadd (ix) (2) dL_law_730 rfl rfl ?_
            refine Zw_xald dL_law_731 (by assumption) (by assumption) (by first | assumption | exact vp_in_nI (by omega) (by omega) | exact vp_in_nI (by simp; omega) (by decide) | (unfold vp_in; decide)) ?_
            refine Zw_aload_0 dL_law_732 ?_
            refine Zw_iload_3 dL_law_733 ?_
            refine Zw_iconst (v := 3) dL_law_734 (by decide) ?_
            refine Zw_nadd (ix) (3) dL_law_735 rfl rfl ?_
            refine Zw_xald dL_law_736 (by assumption) (by assumption) (by first | assumption | exact vp_in_nI (by omega) (by omega) | exact vp_in_nI (by simp; omega) (by decide) | (unfold vp_in; decide)) ?_
            refine Zw_V3 (k := 5) lm_L_85 dL_law_737 (by decide) (by first | decide | assumption | omega) (by first | rfl | assumption) (by rfl) (Nat.le_of_ble_eq_true rfl) ?_
            refine Zc.imp (fun r μ1 τ1 hq => ?_) (P_film hR)
            obtain ⟨⟨v, rfl⟩, k90, k91, hM⟩ := hq
            have h911 : μ1 91 0 = nI n := by rw [k91]; exact h91
            refine Zw_aload_2 dL_law_740 ?_
            refine Zw_aload_0 dL_law_741 ?_
            refine Zw_iload_3 dL_law_742 ?_
            refine Zw_iconst (v := 1) dL_law_743 (by decide) ?_
            refine Zw_nadd (ix) (1) dL_law_744 rfl rfl ?_
            refine Zw_xald dL_law_745 (by assumption) (by assumption) (by first | assumption | exact vp_in_nI (by omega) (by omega) | exact vp_in_nI (by simp; omega) (by decide) | (unfold vp_in; decide)) ?_
            refine Zw_aload_0 dL_law_746 ?_
            refine Zw_iload_3 dL_law_747 ?_
            refine Zw_iconst (v := 2) dL_law_748 (by decide) ?_
            refine Zw_nadd (ix) (2) dL_law_749 rfl rfl ?_
            refine Zw_xald dL_law_750 (by assumption) (by assumption) (by first | assumption | exact vp_in_nI (by omega) (by omega) | exact vp_in_nI (by simp; omega) (by decide) | (unfold vp_in; decide)) ?_
            refine Zw_aload_0 dL_law_751 ?_
            refine Zw_iload_3 dL_law_752 ?_
            refine Zw_iconst (v := 3) dL_law_753 (by decide) ?_
            refine Zw_nadd (ix) (3) dL_law_754 rfl rfl ?_
            refine Zw_xald dL_law_755 (by assumption) (by assumption) (by first | assumption | exact vp_in_nI (by omega) (by omega) | exact vp_in_nI (by simp; omega) (by decide) | (unfold vp_in; decide)) ?_
            refine Zw_V3 (k := 45) lm_L_88 dL_law_756 (by decide) (by first | decide | assumption | omega) (by first | rfl | assumption) (by rfl) (Nat.le_of_ble_eq_true rfl) ?_
            try rw [k90]
            refine Zc.imp (fun r2 μ2 τ2 hq2 => ?_) hM
            obtain ⟨rfl, hNx⟩ := hq2
            refine Zw_icmp_eq 1125 dL_law_759 (by decide) (fun c759 => ?_) (fun c759 => absurd c759 (not_not_intro rfl))
            refine Zw_iinc_3 (y := nI (ix + 6)) dL_law_1125 rfl (nI_add ix 6) ?_
            refine Zw_goto 18 dL_law_1128 (by decide) ?_
            exact l_law hn h m (ix + 6) μ2 τ2 (by omega) (by omega) hNx.1 (by rw [hNx.2.2]; exact h91)
          | 18, hi =>
            cases hi
            refine Zw_aload_1 dL_law_764 ?_
            refine Zw_aload_0 dL_law_765 ?_
            refine Zw_iload_3 dL_law_766 ?_
            refine Zw_iconst (v := 1) dL_law_767 (by decide) ?_
            refine Zw_nadd (ix) (1) dL_law_768 rfl rfl ?_
            refine Zw_xald dL_law_769 (by assumption) (by assumption) (by first | assumption | exact vp_in_nI (by omega) (by omega) | exact vp_in_nI (by simp; omega) (by decide) | (unfold vp_in; decide)) ?_
            refine Zw_aload_0 dL_law_770 ?_
            refine Zw_iload_3 dL_law_771 ?_
            refine Zw_iconst (v := 2) dL_law_772 (by decide) ?_
            refine Zw_nadd (ix) (2) dL_law_773 rfl rfl ?_
            refine Zw_xald dL_law_774 (by assumption) (by assumption) (by first | assumption | exact vp_in_nI (by omega) (by omega) | exact vp_in_nI (by simp; omega) (by decide) | (unfold vp_in; decide)) ?_
            refine Zw_V2 (k := 5) lm_L_89 dL_law_775 (by decide) (by first | decide | assumption | omega) (by first | rfl | assumption) (by rfl) (Nat.le_of_ble_eq_true rfl) ?_
            refine Zc.imp (fun r μ1 τ1 hq => ?_) (P_drawn hR)
            obtain ⟨⟨v, rfl⟩, k90, k91, hM⟩ := hq
            have h911 : μ1 91 0 = nI n := by rw [k91]; exact h91
            refine Zw_aload_2 dL_law_778 ?_
            refine Zw_aload_0 dL_law_779 ?_
            refine Zw_iload_3 dL_law_780 ?_
            refine Zw_iconst (v := 1) dL_law_781 (by decide) ?_
            refine Zw_nadd (ix) (1) dL_law_782 rfl rfl ?_
            refine Zw_xald dL_law_783 (by assumption) (by assumption) (by first | assumption | exact vp_in_nI (by omega) (by omega) | exact vp_in_nI (by simp; omega) (by decide) | (unfold vp_in; decide)) ?_
            refine Zw_aload_0 dL_law_784 ?_
            refine Zw_iload_3 dL_law_785 ?_
            refine Zw_iconst (v := 2) dL_law_786 (by decide) ?_
            refine Zw_nadd (ix) (2) dL_law_787 rfl rfl ?_
            refine Zw_xald dL_law_788 (by assumption) (by assumption) (by first | assumption | exact vp_in_nI (by omega) (by omega) | exact vp_in_nI (by simp; omega) (by decide) | (unfold vp_in; decide)) ?_
            refine Zw_V2 (k := 46) lm_L_92 dL_law_789 (by decide) (by first | decide | assumption | omega) (by first | rfl | assumption) (by rfl) (Nat.le_of_ble_eq_true rfl) ?_
            try rw [k90]
            refine Zc.imp (fun r2 μ2 τ2 hq2 => ?_) hM
            obtain ⟨rfl, hNx⟩ := hq2
            refine Zw_icmp_eq 1125 dL_law_792 (by decide) (fun c792 => ?_) (fun c792 => absurd c792 (not_not_intro rfl))
            refine Zw_iinc_3 (y := nI (ix + 6)) dL_law_1125 rfl (nI_add ix 6) ?_
            refine Zw_goto 18 dL_law_1128 (by decide) ?_
            exact l_law hn h m (ix + 6) μ2 τ2 (by omega) (by omega) hNx.1 (by rw [hNx.2.2]; exact h91)
          | 19, hi =>
            cases hi
            refine Zw_aload_1 dL_law_797 ?_
            refine Zw_aload_0 dL_law_798 ?_
            refine Zw_iload_3 dL_law_799 ?_
            refine Zw_iconst (v := 1) dL_law_800 (by decide) ?_
            refine Zw_nadd (ix) (1) dL_law_801 rfl rfl ?_
            refine Zw_xald dL_law_802 (by assumption) (by assumption) (by first | assumption | exact vp_in_nI (by omega) (by omega) | exact vp_in_nI (by simp; omega) (by decide) | (unfold vp_in; decide)) ?_
            refine Zw_aload_0 dL_law_803 ?_
            refine Zw_iload_3 dL_law_804 ?_
            refine Zw_iconst (v := 2) dL_law_805 (by decide) ?_
            refine Zw_nadd (ix) (2) dL_law_806 rfl rfl ?_
            refine Zw_xald dL_law_807 (by assumption) (by assumption) (by first | assumption | exact vp_in_nI (by omega) (by omega) | exact vp_in_nI (by simp; omega) (by decide) | (unfold vp_in; decide)) ?_
            refine Zw_aload_0 dL_law_808 ?_
            refine Zw_iload_3 dL_law_809 ?_
            refine Zw_iconst (v := 3) dL_law_810 (by decide) ?_
            refine Zw_nadd (ix) (3) dL_law_811 rfl rfl ?_
            refine Zw_xald dL_law_812 (by assumption) (by assumption) (by first | assumption | exact vp_in_nI (by omega) (by omega) | exact vp_in_nI (by simp; omega) (by decide) | (unfold vp_in; decide)) ?_
            refine Zw_V3 (k := 6) lm_L_93 dL_law_813 (by decide) (by first | decide | assumption | omega) (by first | rfl | assumption) (by rfl) (Nat.le_of_ble_eq_true rfl) ?_
            refine Zc.imp (fun r μ1 τ1 hq => ?_) (P_chance hR)
            obtain ⟨⟨v, rfl⟩, k90, k91, hM⟩ := hq
            have h911 : μ1 91 0 = nI n := by rw [k91]; exact h91
            refine Zw_aload_2 dL_law_816 ?_
            refine Zw_aload_0 dL_law_817 ?_
            refine Zw_iload_3 dL_law_818 ?_
            refine Zw_iconst (v := 1) dL_law_819 (by decide) ?_
            refine Zw_nadd (ix) (1) dL_law_820 rfl rfl ?_
            refine Zw_xald dL_law_821 (by assumption) (by assumption) (by first | assumption | exact vp_in_nI (by omega) (by omega) | exact vp_in_nI (by simp; omega) (by decide) | (unfold vp_in; decide)) ?_
            refine Zw_aload_0 dL_law_822 ?_
            refine Zw_iload_3 dL_law_823 ?_
            refine Zw_iconst (v := 2) dL_law_824 (by decide) ?_
            refine Zw_nadd (ix) (2) dL_law_825 rfl rfl ?_
            refine Zw_xald dL_law_826 (by assumption) (by assumption) (by first | assumption | exact vp_in_nI (by omega) (by omega) | exact vp_in_nI (by simp; omega) (by decide) | (unfold vp_in; decide)) ?_
            refine Zw_aload_0 dL_law_827 ?_
            refine Zw_iload_3 dL_law_828 ?_
            refine Zw_iconst (v := 3) dL_law_829 (by decide) ?_
            refine Zw_nadd (ix) (3) dL_law_830 rfl rfl ?_
            refine Zw_xald dL_law_831 (by assumption) (by assumption) (by first | assumption | exact vp_in_nI (by omega) (by omega) | exact vp_in_nI (by simp; omega) (by decide) | (unfold vp_in; decide)) ?_
            refine Zw_V3 (k := 46) lm_L_97 dL_law_832 (by decide) (by first | decide | assumption | omega) (by first | rfl | assumption) (by rfl) (Nat.le_of_ble_eq_true rfl) ?_
            try rw [k90]
            refine Zc.imp (fun r2 μ2 τ2 hq2 => ?_) hM
            obtain ⟨rfl, hNx⟩ := hq2
            refine Zw_lcmp dL_law_835 ?_
            refine Zw_if_eq 1125 dL_law_836 (by decide) (fun c836 => ?_) (fun c836 => absurd c836 (not_not_intro ((lg_e _ _).mpr rfl)))
            refine Zw_iinc_3 (y := nI (ix + 6)) dL_law_1125 rfl (nI_add ix 6) ?_
            refine Zw_goto 18 dL_law_1128 (by decide) ?_
            exact l_law hn h m (ix + 6) μ2 τ2 (by omega) (by omega) hNx.1 (by rw [hNx.2.2]; exact h91)
          | 20, hi =>
            cases hi
            refine Zw_aload_1 dL_law_841 ?_
            refine Zw_V0 (k := 2) lm_L_98 dL_law_842 (by decide) (by first | decide | assumption | omega) (by first | rfl | assumption) (by rfl) (Nat.le_of_ble_eq_true rfl) ?_
            refine Zc.imp (fun r μ1 τ1 hq => ?_) (P_image hR)
            obtain ⟨⟨v, rfl⟩, k90, k91, hM⟩ := hq
            have h911 : μ1 91 0 = nI n := by rw [k91]; exact h91
            refine Zw_aload_2 dL_law_845 ?_
            refine Zw_V0 (k := 0) lm_L_101 dL_law_846 (by decide) (by first | decide | assumption | omega) (by first | rfl | assumption) (by rfl) (Nat.le_of_ble_eq_true rfl) ?_
            try rw [k90]
            refine Zc.imp (fun r2 μ2 τ2 hq2 => ?_) hM
            obtain ⟨rfl, hNx⟩ := hq2
            refine Zw_icmp_eq 1125 dL_law_849 (by decide) (fun c849 => ?_) (fun c849 => absurd c849 (not_not_intro rfl))
            refine Zw_iinc_3 (y := nI (ix + 6)) dL_law_1125 rfl (nI_add ix 6) ?_
            refine Zw_goto 18 dL_law_1128 (by decide) ?_
            exact l_law hn h m (ix + 6) μ2 τ2 (by omega) (by omega) hNx.1 (by rw [hNx.2.2]; exact h91)
          | 21, hi =>
            cases hi
            refine Zw_aload_1 dL_law_854 ?_
            refine Zw_V0 (k := 2) lm_L_102 dL_law_855 (by decide) (by first | decide | assumption | omega) (by first | rfl | assumption) (by rfl) (Nat.le_of_ble_eq_true rfl) ?_
            refine Zc.imp (fun r μ1 τ1 hq => ?_) (P_back hR)
            obtain ⟨⟨v, rfl⟩, k90, k91, hM⟩ := hq
            have h911 : μ1 91 0 = nI n := by rw [k91]; exact h91
            refine Zw_aload_2 dL_law_858 ?_
            refine Zw_V0 (k := 0) lm_L_105 dL_law_859 (by decide) (by first | decide | assumption | omega) (by first | rfl | assumption) (by rfl) (Nat.le_of_ble_eq_true rfl) ?_
            try rw [k90]
            refine Zc.imp (fun r2 μ2 τ2 hq2 => ?_) hM
            obtain ⟨rfl, hNx⟩ := hq2
            refine Zw_icmp_eq 1125 dL_law_862 (by decide) (fun c862 => ?_) (fun c862 => absurd c862 (not_not_intro rfl))
            refine Zw_iinc_3 (y := nI (ix + 6)) dL_law_1125 rfl (nI_add ix 6) ?_
            refine Zw_goto 18 dL_law_1128 (by decide) ?_
            exact l_law hn h m (ix + 6) μ2 τ2 (by omega) (by omega) hNx.1 (by rw [hNx.2.2]; exact h91)
          | 22, hi =>
            cases hi
            refine Zw_aload_1 dL_law_867 ?_
            refine Zw_aload_0 dL_law_868 ?_
            refine Zw_iload_3 dL_law_869 ?_
            refine Zw_iconst (v := 1) dL_law_870 (by decide) ?_
            refine Zw_nadd (ix) (1) dL_law_871 rfl rfl ?_
            refine Zw_xald dL_law_872 (by assumption) (by assumption) (by first | assumption | exact vp_in_nI (by omega) (by omega) | exact vp_in_nI (by simp; omega) (by decide) | (unfold vp_in; decide)) ?_
            refine Zw_V1 (k := 2) lm_L_106 dL_law_873 (by decide) (by first | decide | assumption | omega) (by first | rfl | assumption) (by rfl) (Nat.le_of_ble_eq_true rfl) ?_
            refine Zc.imp (fun r μ1 τ1 hq => ?_) (P_count hR)
            obtain ⟨⟨v, rfl⟩, k90, k91, hM⟩ := hq
            have h911 : μ1 91 0 = nI n := by rw [k91]; exact h91
            refine Zw_aload_2 dL_law_876 ?_
            refine Zw_aload_0 dL_law_877 ?_
            refine Zw_iload_3 dL_law_878 ?_
            refine Zw_iconst (v := 1) dL_law_879 (by decide) ?_
            refine Zw_nadd (ix) (1) dL_law_880 rfl rfl ?_
            refine Zw_xald dL_law_881 (by assumption) (by assumption) (by first | assumption | exact vp_in_nI (by omega) (by omega) | exact vp_in_nI (by simp; omega) (by decide) | (unfold vp_in; decide)) ?_
            refine Zw_V1 (k := 1) lm_L_109 dL_law_882 (by decide) (by first | decide | assumption | omega) (by first | rfl | assumption) (by rfl) (Nat.le_of_ble_eq_true rfl) ?_
            try rw [k90]
            refine Zc.imp (fun r2 μ2 τ2 hq2 => ?_) hM
            obtain ⟨rfl, hNx⟩ := hq2
            refine Zw_icmp_eq 1125 dL_law_885 (by decide) (fun c885 => ?_) (fun c885 => absurd c885 (not_not_intro rfl))
            refine Zw_iinc_3 (y := nI (ix + 6)) dL_law_1125 rfl (nI_add ix 6) ?_
            refine Zw_goto 18 dL_law_1128 (by decide) ?_
            exact l_law hn h m (ix + 6) μ2 τ2 (by omega) (by omega) hNx.1 (by rw [hNx.2.2]; exact h91)
          | 23, hi =>
            cases hi
            refine Zw_aload_1 dL_law_890 ?_
            refine Zw_aload_0 dL_law_891 ?_
            refine Zw_iload_3 dL_law_892 ?_
            refine Zw_iconst (v := 1) dL_law_893 (by decide) ?_
            refine Zw_nadd (ix) (1) dL_law_894 rfl rfl ?_
            refine Zw_xald dL_law_895 (by assumption) (by assumption) (by first | assumption | exact vp_in_nI (by omega) (by omega) | exact vp_in_nI (by simp; omega) (by decide) | (unfold vp_in; decide)) ?_
            refine Zw_aload_0 dL_law_896 ?_
            refine Zw_iload_3 dL_law_897 ?_
            refine Zw_iconst (v := 2) dL_law_898 (by decide) ?_
            refine Zw_nadd (ix) (2) dL_law_899 rfl rfl ?_
            refine Zw_xald dL_law_900 (by assumption) (by assumption) (by first | assumption | exact vp_in_nI (by omega) (by omega) | exact vp_in_nI (by simp; omega) (by decide) | (unfold vp_in; decide)) ?_
            refine Zw_aload_0 dL_law_901 ?_
            refine Zw_iload_3 dL_law_902 ?_
            refine Zw_iconst (v := 3) dL_law_903 (by decide) ?_
            refine Zw_nadd (ix) (3) dL_law_904 rfl rfl ?_
            refine Zw_xald dL_law_905 (by assumption) (by assumption) (by first | assumption | exact vp_in_nI (by omega) (by omega) | exact vp_in_nI (by simp; omega) (by decide) | (unfold vp_in; decide)) ?_
            refine Zw_V3 (k := 2) lm_L_110 dL_law_906 (by decide) (by first | decide | assumption | omega) (by first | rfl | assumption) (by rfl) (Nat.le_of_ble_eq_true rfl) ?_
            refine Zc.imp (fun r μ1 τ1 hq => ?_) (P_sheet hR)
            obtain ⟨⟨v, rfl⟩, k90, k91, hM⟩ := hq
            have h911 : μ1 91 0 = nI n := by rw [k91]; exact h91
            refine Zw_aload_2 dL_law_909 ?_
            refine Zw_aload_0 dL_law_910 ?_
            refine Zw_iload_3 dL_law_911 ?_
            refine Zw_iconst (v := 1) dL_law_912 (by decide) ?_
            refine Zw_nadd (ix) (1) dL_law_913 rfl rfl ?_
            refine Zw_xald dL_law_914 (by assumption) (by assumption) (by first | assumption | exact vp_in_nI (by omega) (by omega) | exact vp_in_nI (by simp; omega) (by decide) | (unfold vp_in; decide)) ?_
            refine Zw_aload_0 dL_law_915 ?_
            refine Zw_iload_3 dL_law_916 ?_
            refine Zw_iconst (v := 2) dL_law_917 (by decide) ?_
            refine Zw_nadd (ix) (2) dL_law_918 rfl rfl ?_
            refine Zw_xald dL_law_919 (by assumption) (by assumption) (by first | assumption | exact vp_in_nI (by omega) (by omega) | exact vp_in_nI (by simp; omega) (by decide) | (unfold vp_in; decide)) ?_
            refine Zw_aload_0 dL_law_920 ?_
            refine Zw_iload_3 dL_law_921 ?_
            refine Zw_iconst (v := 3) dL_law_922 (by decide) ?_
            refine Zw_nadd (ix) (3) dL_law_923 rfl rfl ?_
            refine Zw_xald dL_law_924 (by assumption) (by assumption) (by first | assumption | exact vp_in_nI (by omega) (by omega) | exact vp_in_nI (by simp; omega) (by decide) | (unfold vp_in; decide)) ?_
            refine Zw_V3 (k := 2) lm_L_113 dL_law_925 (by decide) (by first | decide | assumption | omega) (by first | rfl | assumption) (by rfl) (Nat.le_of_ble_eq_true rfl) ?_
            try rw [k90]
            refine Zc.imp (fun r2 μ2 τ2 hq2 => ?_) hM
            obtain ⟨rfl, hNx⟩ := hq2
            refine Zw_icmp_eq 1125 dL_law_928 (by decide) (fun c928 => ?_) (fun c928 => absurd c928 (not_not_intro rfl))
            refine Zw_iinc_3 (y := nI (ix + 6)) dL_law_1125 rfl (nI_add ix 6) ?_
            refine Zw_goto 18 dL_law_1128 (by decide) ?_
            exact l_law hn h m (ix + 6) μ2 τ2 (by omega) (by omega) hNx.1 (by rw [hNx.2.2]; exact h91)
          | 24, hi =>
            cases hi
            refine Zw_aload_1 dL_law_933 ?_
            refine Zw_aload_0 dL_law_934 ?_
            refine Zw_iload_3 dL_law_935 ?_
            refine Zw_iconst (v := 1) dL_law_936 (by decide) ?_
            refine Zw_nadd (ix) (1) dL_law_937 rfl rfl ?_
            refine Zw_xald dL_law_938 (by assumption) (by assumption) (by first | assumption | exact vp_in_nI (by omega) (by omega) | exact vp_in_nI (by simp; omega) (by decide) | (unfold vp_in; decide)) ?_
            refine Zw_aload_0 dL_law_939 ?_
            refine Zw_iload_3 dL_law_940 ?_
            refine Zw_iconst (v := 2) dL_law_941 (by decide) ?_
            refine Zw_nadd (ix) (2) dL_law_942 rfl rfl ?_
            refine Zw_xald dL_law_943 (by assumption) (by assumption) (by first | assumption | exact vp_in_nI (by omega) (by omega) | exact vp_in_nI (by simp; omega) (by decide) | (unfold vp_in; decide)) ?_
            refine Zw_aload_0 dL_law_944 ?_
            refine Zw_iload_3 dL_law_945 ?_
            refine Zw_iconst (v := 3) dL_law_946 (by decide) ?_
            refine Zw_nadd (ix) (3) dL_law_947 rfl rfl ?_
            refine Zw_xald dL_law_948 (by assumption) (by assumption) (by first | assumption | exact vp_in_nI (by omega) (by omega) | exact vp_in_nI (by simp; omega) (by decide) | (unfold vp_in; decide)) ?_
            refine Zw_V3 (k := 2) lm_L_114 dL_law_949 (by decide) (by first | decide | assumption | omega) (by first | rfl | assumption) (by rfl) (Nat.le_of_ble_eq_true rfl) ?_
            refine Zc.imp (fun r μ1 τ1 hq => ?_) (P_cell hR)
            obtain ⟨⟨v, rfl⟩, k90, k91, hM⟩ := hq
            have h911 : μ1 91 0 = nI n := by rw [k91]; exact h91
            refine Zw_aload_2 dL_law_952 ?_
            refine Zw_aload_0 dL_law_953 ?_
            refine Zw_iload_3 dL_law_954 ?_
            refine Zw_iconst (v := 1) dL_law_955 (by decide) ?_
            refine Zw_nadd (ix) (1) dL_law_956 rfl rfl ?_
            refine Zw_xald dL_law_957 (by assumption) (by assumption) (by first | assumption | exact vp_in_nI (by omega) (by omega) | exact vp_in_nI (by simp; omega) (by decide) | (unfold vp_in; decide)) ?_
            refine Zw_aload_0 dL_law_958 ?_
            refine Zw_iload_3 dL_law_959 ?_
            refine Zw_iconst (v := 2) dL_law_960 (by decide) ?_
            refine Zw_nadd (ix) (2) dL_law_961 rfl rfl ?_
            refine Zw_xald dL_law_962 (by assumption) (by assumption) (by first | assumption | exact vp_in_nI (by omega) (by omega) | exact vp_in_nI (by simp; omega) (by decide) | (unfold vp_in; decide)) ?_
            refine Zw_aload_0 dL_law_963 ?_
            refine Zw_iload_3 dL_law_964 ?_
            refine Zw_iconst (v := 3) dL_law_965 (by decide) ?_
            refine Zw_nadd (ix) (3) dL_law_966 rfl rfl ?_
            refine Zw_xald dL_law_967 (by assumption) (by assumption) (by first | assumption | exact vp_in_nI (by omega) (by omega) | exact vp_in_nI (by simp; omega) (by decide) | (unfold vp_in; decide)) ?_
            refine Zw_V3 (k := 2) lm_L_117 dL_law_968 (by decide) (by first | decide | assumption | omega) (by first | rfl | assumption) (by rfl) (Nat.le_of_ble_eq_true rfl) ?_
            try rw [k90]
            refine Zc.imp (fun r2 μ2 τ2 hq2 => ?_) hM
            obtain ⟨rfl, hNx⟩ := hq2
            refine Zw_icmp_eq 1125 dL_law_971 (by decide) (fun c971 => ?_) (fun c971 => absurd c971 (not_not_intro rfl))
            refine Zw_iinc_3 (y := nI (ix + 6)) dL_law_1125 rfl (nI_add ix 6) ?_
            refine Zw_goto 18 dL_law_1128 (by decide) ?_
            exact l_law hn h m (ix + 6) μ2 τ2 (by omega) (by omega) hNx.1 (by rw [hNx.2.2]; exact h91)
          | 25, hi =>
            cases hi
            refine Zw_aload_1 dL_law_976 ?_
            refine Zw_aload_0 dL_law_977 ?_
            refine Zw_iload_3 dL_law_978 ?_
            refine Zw_iconst (v := 1) dL_law_979 (by decide) ?_
            refine Zw_nadd (ix) (1) dL_law_980 rfl rfl ?_
            refine Zw_xald dL_law_981 (by assumption) (by assumption) (by first | assumption | exact vp_in_nI (by omega) (by omega) | exact vp_in_nI (by simp; omega) (by decide) | (unfold vp_in; decide)) ?_
            refine Zw_aload_0 dL_law_982 ?_
            refine Zw_iload_3 dL_law_983 ?_
            refine Zw_iconst (v := 2) dL_law_984 (by decide) ?_
            refine Zw_nadd (ix) (2) dL_law_985 rfl rfl ?_
            refine Zw_xald dL_law_986 (by assumption) (by assumption) (by first | assumption | exact vp_in_nI (by omega) (by omega) | exact vp_in_nI (by simp; omega) (by decide) | (unfold vp_in; decide)) ?_
            refine Zw_aload_0 dL_law_987 ?_
            refine Zw_iload_3 dL_law_988 ?_
            refine Zw_iconst (v := 3) dL_law_989 (by decide) ?_
            refine Zw_nadd (ix) (3) dL_law_990 rfl rfl ?_
            refine Zw_xald dL_law_991 (by assumption) (by assumption) (by first | assumption | exact vp_in_nI (by omega) (by omega) | exact vp_in_nI (by simp; omega) (by decide) | (unfold vp_in; decide)) ?_
            refine Zw_aload_0 dL_law_992 ?_
            refine Zw_iload_3 dL_law_993 ?_
            refine Zw_iconst (v := 4) dL_law_994 (by decide) ?_
            refine Zw_nadd (ix) (4) dL_law_995 rfl rfl ?_
            refine Zw_xald dL_law_996 (by assumption) (by assumption) (by first | assumption | exact vp_in_nI (by omega) (by omega) | exact vp_in_nI (by simp; omega) (by decide) | (unfold vp_in; decide)) ?_
            refine Zw_aload_0 dL_law_997 ?_
            refine Zw_iload_3 dL_law_998 ?_
            refine Zw_iconst (v := 5) dL_law_999 (by decide) ?_
            refine Zw_nadd (ix) (5) dL_law_1000 rfl rfl ?_
            refine Zw_xald dL_law_1001 (by assumption) (by assumption) (by first | assumption | exact vp_in_nI (by omega) (by omega) | exact vp_in_nI (by simp; omega) (by decide) | (unfold vp_in; decide)) ?_
            refine Zw_V5 (k := 1) lm_L_118 dL_law_1002 (by decide) (by first | decide | assumption | omega) (by first | rfl | assumption) (by rfl) (Nat.le_of_ble_eq_true rfl) ?_
            refine Zc.imp (fun r μ1 τ1 hq => ?_) (P_copy hR)
            obtain ⟨⟨v, rfl⟩, k90, k91, hM⟩ := hq
            have h911 : μ1 91 0 = nI n := by rw [k91]; exact h91
            refine Zw_aload_2 dL_law_1005 ?_
            refine Zw_aload_0 dL_law_1006 ?_
            refine Zw_iload_3 dL_law_1007 ?_
            refine Zw_iconst (v := 1) dL_law_1008 (by decide) ?_
            refine Zw_nadd (ix) (1) dL_law_1009 rfl rfl ?_
            refine Zw_xald dL_law_1010 (by assumption) (by assumption) (by first | assumption | exact vp_in_nI (by omega) (by omega) | exact vp_in_nI (by simp; omega) (by decide) | (unfold vp_in; decide)) ?_
            refine Zw_aload_0 dL_law_1011 ?_
            refine Zw_iload_3 dL_law_1012 ?_
            refine Zw_iconst (v := 2) dL_law_1013 (by decide) ?_
            refine Zw_nadd (ix) (2) dL_law_1014 rfl rfl ?_
            refine Zw_xald dL_law_1015 (by assumption) (by assumption) (by first | assumption | exact vp_in_nI (by omega) (by omega) | exact vp_in_nI (by simp; omega) (by decide) | (unfold vp_in; decide)) ?_
            refine Zw_aload_0 dL_law_1016 ?_
            refine Zw_iload_3 dL_law_1017 ?_
            refine Zw_iconst (v := 3) dL_law_1018 (by decide) ?_
            refine Zw_nadd (ix) (3) dL_law_1019 rfl rfl ?_
            refine Zw_xald dL_law_1020 (by assumption) (by assumption) (by first | assumption | exact vp_in_nI (by omega) (by omega) | exact vp_in_nI (by simp; omega) (by decide) | (unfold vp_in; decide)) ?_
            refine Zw_aload_0 dL_law_1021 ?_
            refine Zw_iload_3 dL_law_1022 ?_
            refine Zw_iconst (v := 4) dL_law_1023 (by decide) ?_
            refine Zw_nadd (ix) (4) dL_law_1024 rfl rfl ?_
            refine Zw_xald dL_law_1025 (by assumption) (by assumption) (by first | assumption | exact vp_in_nI (by omega) (by omega) | exact vp_in_nI (by simp; omega) (by decide) | (unfold vp_in; decide)) ?_
            refine Zw_aload_0 dL_law_1026 ?_
            refine Zw_iload_3 dL_law_1027 ?_
            refine Zw_iconst (v := 5) dL_law_1028 (by decide) ?_
            refine Zw_nadd (ix) (5) dL_law_1029 rfl rfl ?_
            refine Zw_xald dL_law_1030 (by assumption) (by assumption) (by first | assumption | exact vp_in_nI (by omega) (by omega) | exact vp_in_nI (by simp; omega) (by decide) | (unfold vp_in; decide)) ?_
            refine Zw_V5 (k := 2) lm_L_122 dL_law_1031 (by decide) (by first | decide | assumption | omega) (by first | rfl | assumption) (by rfl) (Nat.le_of_ble_eq_true rfl) ?_
            try rw [k90]
            refine Zc.imp (fun r2 μ2 τ2 hq2 => ?_) hM
            obtain ⟨rfl, hNx⟩ := hq2
            refine Zw_icmp_eq 1125 dL_law_1034 (by decide) (fun c1034 => ?_) (fun c1034 => absurd c1034 (not_not_intro rfl))
            refine Zw_iinc_3 (y := nI (ix + 6)) dL_law_1125 rfl (nI_add ix 6) ?_
            refine Zw_goto 18 dL_law_1128 (by decide) ?_
            exact l_law hn h m (ix + 6) μ2 τ2 (by omega) (by omega) hNx.1 (by rw [hNx.2.2]; exact h91)
          | 26, hi =>
            cases hi
            refine Zw_aload_1 dL_law_1039 ?_
            refine Zw_aload_0 dL_law_1040 ?_
            refine Zw_iload_3 dL_law_1041 ?_
            refine Zw_iconst (v := 1) dL_law_1042 (by decide) ?_
            refine Zw_nadd (ix) (1) dL_law_1043 rfl rfl ?_
            refine Zw_xald dL_law_1044 (by assumption) (by assumption) (by first | assumption | exact vp_in_nI (by omega) (by omega) | exact vp_in_nI (by simp; omega) (by decide) | (unfold vp_in; decide)) ?_
            refine Zw_aload_0 dL_law_1045 ?_
            refine Zw_iload_3 dL_law_1046 ?_
            refine Zw_iconst (v := 2) dL_law_1047 (by decide) ?_
            refine Zw_nadd (ix) (2) dL_law_1048 rfl rfl ?_
            refine Zw_xald dL_law_1049 (by assumption) (by assumption) (by first | assumption | exact vp_in_nI (by omega) (by omega) | exact vp_in_nI (by simp; omega) (by decide) | (unfold vp_in; decide)) ?_
            refine Zw_aload_0 dL_law_1050 ?_
            refine Zw_iload_3 dL_law_1051 ?_
            refine Zw_iconst (v := 3) dL_law_1052 (by decide) ?_
            refine Zw_nadd (ix) (3) dL_law_1053 rfl rfl ?_
            refine Zw_xald dL_law_1054 (by assumption) (by assumption) (by first | assumption | exact vp_in_nI (by omega) (by omega) | exact vp_in_nI (by simp; omega) (by decide) | (unfold vp_in; decide)) ?_
            refine Zw_aload_0 dL_law_1055 ?_
            refine Zw_iload_3 dL_law_1056 ?_
            refine Zw_iconst (v := 4) dL_law_1057 (by decide) ?_
            refine Zw_nadd (ix) (4) dL_law_1058 rfl rfl ?_
            refine Zw_xald dL_law_1059 (by assumption) (by assumption) (by first | assumption | exact vp_in_nI (by omega) (by omega) | exact vp_in_nI (by simp; omega) (by decide) | (unfold vp_in; decide)) ?_
            refine Zw_V4 (k := 2) lm_L_123 dL_law_1060 (by decide) (by first | decide | assumption | omega) (by first | rfl | assumption) (by rfl) (Nat.le_of_ble_eq_true rfl) ?_
            refine Zc.imp (fun r μ1 τ1 hq => ?_) (P_finders hR)
            obtain ⟨⟨v, rfl⟩, k90, k91, hM⟩ := hq
            have h911 : μ1 91 0 = nI n := by rw [k91]; exact h91
            refine Zw_aload_2 dL_law_1063 ?_
            refine Zw_aload_0 dL_law_1064 ?_
            refine Zw_iload_3 dL_law_1065 ?_
            refine Zw_iconst (v := 1) dL_law_1066 (by decide) ?_
            refine Zw_nadd (ix) (1) dL_law_1067 rfl rfl ?_
            refine Zw_xald dL_law_1068 (by assumption) (by assumption) (by first | assumption | exact vp_in_nI (by omega) (by omega) | exact vp_in_nI (by simp; omega) (by decide) | (unfold vp_in; decide)) ?_
            refine Zw_aload_0 dL_law_1069 ?_
            refine Zw_iload_3 dL_law_1070 ?_
            refine Zw_iconst (v := 2) dL_law_1071 (by decide) ?_
            refine Zw_nadd (ix) (2) dL_law_1072 rfl rfl ?_
            refine Zw_xald dL_law_1073 (by assumption) (by assumption) (by first | assumption | exact vp_in_nI (by omega) (by omega) | exact vp_in_nI (by simp; omega) (by decide) | (unfold vp_in; decide)) ?_
            refine Zw_aload_0 dL_law_1074 ?_
            refine Zw_iload_3 dL_law_1075 ?_
            refine Zw_iconst (v := 3) dL_law_1076 (by decide) ?_
            refine Zw_nadd (ix) (3) dL_law_1077 rfl rfl ?_
            refine Zw_xald dL_law_1078 (by assumption) (by assumption) (by first | assumption | exact vp_in_nI (by omega) (by omega) | exact vp_in_nI (by simp; omega) (by decide) | (unfold vp_in; decide)) ?_
            refine Zw_aload_0 dL_law_1079 ?_
            refine Zw_iload_3 dL_law_1080 ?_
            refine Zw_iconst (v := 4) dL_law_1081 (by decide) ?_
            refine Zw_nadd (ix) (4) dL_law_1082 rfl rfl ?_
            refine Zw_xald dL_law_1083 (by assumption) (by assumption) (by first | assumption | exact vp_in_nI (by omega) (by omega) | exact vp_in_nI (by simp; omega) (by decide) | (unfold vp_in; decide)) ?_
            refine Zw_V4 (k := 3) lm_L_127 dL_law_1084 (by decide) (by first | decide | assumption | omega) (by first | rfl | assumption) (by rfl) (Nat.le_of_ble_eq_true rfl) ?_
            try rw [k90]
            refine Zc.imp (fun r2 μ2 τ2 hq2 => ?_) hM
            obtain ⟨rfl, hNx⟩ := hq2
            refine Zw_icmp_eq 1125 dL_law_1087 (by decide) (fun c1087 => ?_) (fun c1087 => absurd c1087 (not_not_intro rfl))
            refine Zw_iinc_3 (y := nI (ix + 6)) dL_law_1125 rfl (nI_add ix 6) ?_
            refine Zw_goto 18 dL_law_1128 (by decide) ?_
            exact l_law hn h m (ix + 6) μ2 τ2 (by omega) (by omega) hNx.1 (by rw [hNx.2.2]; exact h91)
          | 27, hi =>
            cases hi
            refine Zw_aload_1 dL_law_1092 ?_
            refine Zw_aload_0 dL_law_1093 ?_
            refine Zw_iload_3 dL_law_1094 ?_
            refine Zw_iconst (v := 1) dL_law_1095 (by decide) ?_
            refine Zw_nadd (ix) (1) dL_law_1096 rfl rfl ?_
            refine Zw_xald dL_law_1097 (by assumption) (by assumption) (by first | assumption | exact vp_in_nI (by omega) (by omega) | exact vp_in_nI (by simp; omega) (by decide) | (unfold vp_in; decide)) ?_
            refine Zw_aload_0 dL_law_1098 ?_
            refine Zw_iload_3 dL_law_1099 ?_
            refine Zw_iconst (v := 2) dL_law_1100 (by decide) ?_
            refine Zw_nadd (ix) (2) dL_law_1101 rfl rfl ?_
            refine Zw_xald dL_law_1102 (by assumption) (by assumption) (by first | assumption | exact vp_in_nI (by omega) (by omega) | exact vp_in_nI (by simp; omega) (by decide) | (unfold vp_in; decide)) ?_
            refine Zw_V2 (k := 2) lm_L_128 dL_law_1103 (by decide) (by first | decide | assumption | omega) (by first | rfl | assumption) (by rfl) (Nat.le_of_ble_eq_true rfl) ?_
            refine Zc.imp (fun r μ1 τ1 hq => ?_) (P_taken hR)
            obtain ⟨⟨v, rfl⟩, k90, k91, hM⟩ := hq
            have h911 : μ1 91 0 = nI n := by rw [k91]; exact h91
            refine Zw_aload_2 dL_law_1106 ?_
            refine Zw_aload_0 dL_law_1107 ?_
            refine Zw_iload_3 dL_law_1108 ?_
            refine Zw_iconst (v := 1) dL_law_1109 (by decide) ?_
            refine Zw_nadd (ix) (1) dL_law_1110 rfl rfl ?_
            refine Zw_xald dL_law_1111 (by assumption) (by assumption) (by first | assumption | exact vp_in_nI (by omega) (by omega) | exact vp_in_nI (by simp; omega) (by decide) | (unfold vp_in; decide)) ?_
            refine Zw_aload_0 dL_law_1112 ?_
            refine Zw_iload_3 dL_law_1113 ?_
            refine Zw_iconst (v := 2) dL_law_1114 (by decide) ?_
            refine Zw_nadd (ix) (2) dL_law_1115 rfl rfl ?_
            refine Zw_xald dL_law_1116 (by assumption) (by assumption) (by first | assumption | exact vp_in_nI (by omega) (by omega) | exact vp_in_nI (by simp; omega) (by decide) | (unfold vp_in; decide)) ?_
            refine Zw_V2 (k := 2) lm_L_131 dL_law_1117 (by decide) (by first | decide | assumption | omega) (by first | rfl | assumption) (by rfl) (Nat.le_of_ble_eq_true rfl) ?_
            try rw [k90]
            refine Zc.imp (fun r2 μ2 τ2 hq2 => ?_) hM
            obtain ⟨rfl, hNx⟩ := hq2
            refine Zw_icmp_eq 1125 dL_law_1120 (by decide) (fun c1120 => ?_) (fun c1120 => absurd c1120 (not_not_intro rfl))
            refine Zw_iinc_3 (y := nI (ix + 6)) dL_law_1125 rfl (nI_add ix 6) ?_
            refine Zw_goto 18 dL_law_1128 (by decide) ?_
            exact l_law hn h m (ix + 6) μ2 τ2 (by omega) (by omega) hNx.1 (by rw [hNx.2.2]; exact h91)
          | n + 28, hi => exact absurd hi (by simp)
        · refine Zw_iinc_3 (y := nI (ix + 6)) dL_law_1125 rfl (nI_add ix 6) ?_
          refine Zw_goto 18 dL_law_1128 (by decide) ?_
          exact l_law hn h m (ix + 6) μ τ (by omega) (by omega) hR h91
