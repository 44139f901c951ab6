theorem lcp_n : Cond.native arraycopyName ∈ zT := zT_mem 927 (by decide +kernel) (by decide +kernel)
theorem lcp_s : Cond.static arraycopyName ∈ zT := zT_mem 926 (by decide +kernel) (by decide +kernel)
theorem lcp_i : Cond.initialized "java/lang/System" ∈ zT := zT_mem 108 (by decide +kernel) (by decide +kernel)
theorem lcp_RX2 : zCpA RX2 26 := ⟨zT_mem 925 (by decide +kernel) (by decide +kernel), lcp_n, lcp_s, lcp_i⟩
theorem lcp_RX10 : zCpA RX10 269 := ⟨zT_mem 961 (by decide +kernel) (by decide +kernel), lcp_n, lcp_s, lcp_i⟩
theorem zdecn {a : Nat} (h : 1 ≤ a) : nI a + Int32.ofInt (-1) = nI (a - 1) := by
  obtain ⟨b, rfl⟩ : ∃ b, a = b + 1 := ⟨a - 1, by omega⟩
  exact pk_m1 b
theorem zar_at (μ : zMu) (k : Nat) (f : Nat → Int32) (k' j' : Nat) : zar μ k f k' j' = if k' = k then f j' else μ k' j' := by
  by_cases h : k' = k
  · subst h; rw [zar_eq]; simp
  · rw [zar_ne h]; simp [h]
theorem zup_zar (μ : zMu) (k : Nat) (f : Nat → Int32) (j : Nat) (x : Int32) : zup (zar μ k f) k j x = zar μ k (upd f j x) := by
  funext q
  by_cases h : q = k
  · subst h; rw [zup_eq, zar_eq, zar_eq]
  · rw [zup_ne h, zar_ne h, zar_ne h]
theorem zup_as (μ : zMu) (k j : Nat) (x : Int32) : zup μ k j x = zar μ k (upd (μ k) j x) := rfl
theorem lcm_max_s : Cond.static Lib.Math.max.name ∈ zT := zT_mem 639 (by decide +kernel) (by decide +kernel)
theorem lcm_max_c : Cond.code Lib.Math.max.name Lib.Math.max.code 2 (some .int) ∈ zT := zT_mem 640 (by decide +kernel) (by decide +kernel)
theorem lcm_min_s : Cond.static Lib.Math.min.name ∈ zT := zT_mem 642 (by decide +kernel) (by decide +kernel)
theorem lcm_min_c : Cond.code Lib.Math.min.name Lib.Math.min.code 2 (some .int) ∈ zT := zT_mem 643 (by decide +kernel) (by decide +kernel)
theorem lcm_i : Cond.initialized "java/lang/Math" ∈ zT := zT_mem 105 (by decide +kernel) (by decide +kernel)
theorem lcm_X5_19 : zCM RX5 19 Lib.Math.min.name Lib.Math.min.code := ⟨zT_mem 875 (by decide +kernel) (by decide +kernel), lcm_min_s, lcm_i, lcm_min_c⟩
theorem lcm_X5_25 : zCM RX5 25 Lib.Math.max.name Lib.Math.max.code := ⟨zT_mem 876 (by decide +kernel) (by decide +kernel), lcm_max_s, lcm_i, lcm_max_c⟩
theorem lcm_X9_91 : zCM RX9 91 Lib.Math.max.name Lib.Math.max.code := ⟨zT_mem 754 (by decide +kernel) (by decide +kernel), lcm_max_s, lcm_i, lcm_max_c⟩
theorem lcm_X10_167 : zCM RX10 167 Lib.Math.min.name Lib.Math.min.code := ⟨zT_mem 759 (by decide +kernel) (by decide +kernel), lcm_min_s, lcm_i, lcm_min_c⟩
theorem lcm_J1_38 : zCM RJ1 38 Lib.Math.min.name Lib.Math.min.code := ⟨zT_mem 641 (by decide +kernel) (by decide +kernel), lcm_min_s, lcm_i, lcm_min_c⟩
theorem lcm_J1_92 : zCM RJ1 92 Lib.Math.max.name Lib.Math.max.code := ⟨zT_mem 638 (by decide +kernel) (by decide +kernel), lcm_max_s, lcm_i, lcm_max_c⟩
theorem lcm_J2_183 : zCM RJ2 183 Lib.Math.min.name Lib.Math.min.code := ⟨zT_mem 651 (by decide +kernel) (by decide +kernel), lcm_min_s, lcm_i, lcm_min_c⟩
theorem lcm_J2_224 : zCM RJ2 224 Lib.Math.max.name Lib.Math.max.code := ⟨zT_mem 650 (by decide +kernel) (by decide +kernel), lcm_max_s, lcm_i, lcm_max_c⟩
set_option maxRecDepth 20000 in
theorem l_fill {Q : zQ} {μ0 : zMu} {τ : Int64} {q n : Nat} {v : Int32} (hq : q < 78) (hs : zSh q = .inr (.inl (.int, n))) (hn : n < 2 ^ 31) (h : ∀ μ2, zOff [q] μ0 μ2 → (∀ i, i < n → μ2 q i = v) → Q none μ2 τ) : ∀ m i μ, n - i < m → i ≤ n → zOff [q] μ0 μ → (∀ j, j < i → μ q j = v) → Zw 0 RJ7 cJ7_fill_53178 4 none Q 5 [.ref q, .int v, .int (nI i), .int (nI n)] [] μ τ
  | 0, i, _, hm, _, _, _ => absurd hm (by omega)
  | m + 1, i, μ, hm, hi, hO, hV => by
    refine Zw_iload_2 dJ7_fill_53178_5 ?_
    refine Zw_iload_3 dJ7_fill_53178_6 ?_
    refine Zw_nicmp_ge (i) (n) 20 dJ7_fill_53178_7 (by decide) rfl rfl (by omega) (by omega) (fun c7 => ?_) (fun c7 => ?_)
    · refine Zw_return dJ7_fill_53178_20 ?_
      exact h _ hO (fun j hj => hV j (by omega))
    · refine Zw_aload_0 dJ7_fill_53178_10 ?_
      refine Zw_iload_2 dJ7_fill_53178_11 ?_
      refine Zw_iload_1 dJ7_fill_53178_12 ?_
      refine Zw_iastn (i) dJ7_fill_53178_13 (by first | decide | assumption | omega) (by first | rfl | assumption) rfl (by omega) (by omega) ?_
      refine Zw_iinc_2 dJ7_fill_53178_14 rfl (zincn _) ?_
      refine Zw_goto 5 dJ7_fill_53178_17 (by decide) ?_
      exact l_fill hq hs hn h m (i + 1) _ (by omega) (by omega) (hO.up (by simp)) (fun j hj => if e : j = i then (by rw [zup_at]; simp [e]) else (by rw [zup_at]; simp [e]; exact hV j (by omega)))
set_option maxRecDepth 20000 in
theorem s_fill {q n : Nat} {v : Int32} {Q : zQ} {μ : zMu} {τ : Int64} (hq : q < 78) (hs : zSh q = .inr (.inl (.int, n))) (hn : n < 2 ^ 31) (h : ∀ μ2, zOff [q] μ μ2 → (∀ i, i < n → μ2 q i = v) → Q none μ2 τ) : Zc 0 yJ7_fill_53178 cJ7_fill_53178 4 none [.ref q, .int v] μ τ Q := by
  refine Zc.mk 2 [.ref q, .int v, .null, .null] rfl (by decide) (Nat.le_of_ble_eq_true rfl) ?_
  refine Zw_iconst (v := 0) dJ7_fill_53178_0 (by decide) ?_
  refine Zw_istore_2 dJ7_fill_53178_1 rfl ?_
  refine Zw_aload_0 dJ7_fill_53178_2 ?_
  refine Zw_alen dJ7_fill_53178_3 (by first | decide | assumption | omega) (by first | rfl | assumption) ?_
  refine Zw_istore_3 dJ7_fill_53178_4 rfl ?_
  exact l_fill hq hs hn h (n + 1) 0 _ (by omega) (by omega) zOff.rf (fun j hj => absurd hj (by omega))
set_option maxRecDepth 20000 in
theorem l_keep {Q : zQ} {μ0 : zMu} {τ : Int64} (h : ∀ μ2, zOff [9, 10, 12, 13, 14, 15, 16] μ0 μ2 → (∀ j, j < 8 → μ2 10 j = μ0 2 j) → (∀ f, f < 5 → ∀ j, j < 4 → μ2 (12 + f) j = μ0 (4 + f) j) → (∀ j, 2 ≤ j → j < 8 → μ2 9 j = μ0 1 j) → Q none μ2 τ) : ∀ m i μ, 5 - i < m → i ≤ 5 → zOff [9, 10, 12, 13, 14, 15, 16] μ0 μ → (∀ j, μ 9 j = μ0 9 j) → (∀ j, j < 8 → μ 10 j = μ0 2 j) → (∀ f, f < i → ∀ j, j < 4 → μ (12 + f) j = μ0 (4 + f) j) → Zw 1 RX2 cX2_takeFrom 3 none Q 17 [.ref 9, .ref 1, .int (nI i)] [] μ τ
  | 0, i, _, hm, _, _, _, _, _ => absurd hm (by omega)
  | m + 1, i, μ, hm, hi, hO, hB, hL, hF => by
    refine Zw_iload_2 dX2_takeFrom_17 ?_
    refine Zw_iconst (v := 5) dX2_takeFrom_18 (by decide) ?_
    refine Zw_nicmp_ge (i) (5) 43 dX2_takeFrom_19 (by decide) rfl rfl (by omega) (by omega) (fun c19 => ?_) (fun c19 => ?_)
    · refine Zw_aload_0 dX2_takeFrom_43 ?_
      refine Zw_aload_1 dX2_takeFrom_44 ?_
      refine Zw_geti lf_X2_36 dX2_takeFrom_45 (by first | decide | assumption | omega) (by first | rfl | assumption) (by rfl) ?_
      refine Zw_put lp_X2_36 dX2_takeFrom_48 (by first | decide | assumption | omega) (by first | rfl | assumption) (by rfl) (by first | rfl | assumption) (by first | rfl | assumption) ?_
      refine Zw_aload_0 dX2_takeFrom_51 ?_
      refine Zw_aload_1 dX2_takeFrom_52 ?_
      refine Zw_geti lf_X2_39 dX2_takeFrom_53 (by first | decide | assumption | omega) (by first | rfl | assumption) (by rfl) ?_
      refine Zw_put lp_X2_39 dX2_takeFrom_56 (by first | decide | assumption | omega) (by first | rfl | assumption) (by rfl) (by first | rfl | assumption) (by first | rfl | assumption) ?_
      refine Zw_aload_0 dX2_takeFrom_59 ?_
      refine Zw_aload_1 dX2_takeFrom_60 ?_
      refine Zw_geti lf_X2_42 dX2_takeFrom_61 (by first | decide | assumption | omega) (by first | rfl | assumption) (by rfl) ?_
      refine Zw_put lp_X2_42 dX2_takeFrom_64 (by first | decide | assumption | omega) (by first | rfl | assumption) (by rfl) (by first | rfl | assumption) (by first | rfl | assumption) ?_
      refine Zw_aload_0 dX2_takeFrom_67 ?_
      refine Zw_aload_1 dX2_takeFrom_68 ?_
      refine Zw_geti lf_X2_45 dX2_takeFrom_69 (by first | decide | assumption | omega) (by first | rfl | assumption) (by rfl) ?_
      refine Zw_put lp_X2_45 dX2_takeFrom_72 (by first | decide | assumption | omega) (by first | rfl | assumption) (by rfl) (by first | rfl | assumption) (by first | rfl | assumption) ?_
      refine Zw_aload_0 dX2_takeFrom_75 ?_
      refine Zw_aload_1 dX2_takeFrom_76 ?_
      refine Zw_geti lf_X2_21 dX2_takeFrom_77 (by first | decide | assumption | omega) (by first | rfl | assumption) (by rfl) ?_
      refine Zw_put lp_X2_21 dX2_takeFrom_80 (by first | decide | assumption | omega) (by first | rfl | assumption) (by rfl) (by first | rfl | assumption) (by first | rfl | assumption) ?_
      refine Zw_aload_0 dX2_takeFrom_83 ?_
      refine Zw_aload_1 dX2_takeFrom_84 ?_
      refine Zw_geti lf_X2_48 dX2_takeFrom_85 (by first | decide | assumption | omega) (by first | rfl | assumption) (by rfl) ?_
      refine Zw_put lp_X2_48 dX2_takeFrom_88 (by first | decide | assumption | omega) (by first | rfl | assumption) (by rfl) (by first | rfl | assumption) (by first | rfl | assumption) ?_
      refine Zw_return dX2_takeFrom_91 ?_
      refine h _ (by refine (((((hO.up (by simp)).up (by simp)).up (by simp)).up (by simp)).up (by simp)).up (by simp)) (fun j hj => by simp only [zup_at]; simpa using hL j hj) (fun f hf j hj => by simp only [zup_at]; rw [if_neg (by omega), if_neg (by omega), if_neg (by omega), if_neg (by omega), if_neg (by omega), if_neg (by omega)]; exact hF f (by omega) j hj) (fun j h2 h8 => ?_)
      have hc : ∀ j, μ 1 j = μ0 1 j := fun j => congrFun (hO 1 (by decide)) j
      simp only [zup_at]
      match j, h2, h8 with
      | 2, _, _ => simp [hc]
      | 3, _, _ => simp [hc]
      | 4, _, _ => simp [hc]
      | 5, _, _ => simp [hc]
      | 6, _, _ => simp [hc]
      | 7, _, _ => simp [hc]
      | n + 8, _, h8 => exact absurd h8 (by omega)
    · refine Zw_aload_0 dX2_takeFrom_22 ?_
      refine Zw_getr 11 lf_X2_17 dX2_takeFrom_23 (by first | decide | assumption | omega) (by first | rfl | assumption) (by rfl) ?_
      refine Zw_iload_2 dX2_takeFrom_26 ?_
      refine Zw_aaldn (i) (12 + i) dX2_takeFrom_27 (by first | decide | assumption | omega) (by first | rfl | assumption) rfl (by omega) (zkep_g c19) (by decide) ?_
      refine Zw_aload_1 dX2_takeFrom_28 ?_
      refine Zw_getr 3 lf_X2_17 dX2_takeFrom_29 (by first | decide | assumption | omega) (by first | rfl | assumption) (by rfl) ?_
      refine Zw_iload_2 dX2_takeFrom_32 ?_
      refine Zw_aaldn (i) (4 + i) dX2_takeFrom_33 (by first | decide | assumption | omega) (by first | rfl | assumption) rfl (by omega) (zfin_g c19) (by decide) ?_
      have hs1 := zkep_s c19
      have hs2 := zfin_s c19
      refine Zw_V1 (k := 0) lm_X2_32 dX2_takeFrom_34 (by decide) (by first | decide | assumption | omega) (by first | rfl | assumption) (by rfl) (Nat.le_of_ble_eq_true rfl) ?_
      refine s_x3_takeFrom (by omega) hs1 (by omega) hs2 (by omega) (fun μ1 hO1 hV1 => ?_)
      refine Zw_iinc_2 dX2_takeFrom_37 rfl (zincn _) ?_
      refine Zw_goto 17 dX2_takeFrom_40 (by decide) ?_
      exact l_keep h m (i + 1) _ (by omega) (by omega) (hO.tr (hO1.sub (by intro k hk; simp at hk ⊢; omega))) (fun j => by rw [hO1 9 (by simp; omega)]; exact hB j) (fun j hj => by rw [hO1 10 (by simp; omega)]; exact hL j hj) (fun f hf j hj => if e : f = i then (by subst e; rw [hV1 j hj]; exact congrFun (hO (4 + f) (by simp; omega)) j) else (by rw [hO1 (12 + f) (by simp; omega)]; exact hF f (by omega) j hj))
set_option maxRecDepth 20000 in
theorem s_keep {Q : zQ} {μ : zMu} {τ : Int64} (h : ∀ μ2, zOff [9, 10, 12, 13, 14, 15, 16] μ μ2 → (∀ j, j < 8 → μ2 10 j = μ 2 j) → (∀ f, f < 5 → ∀ j, j < 4 → μ2 (12 + f) j = μ (4 + f) j) → (∀ j, 2 ≤ j → j < 8 → μ2 9 j = μ 1 j) → Q none μ2 τ) : Zc 1 yX2_takeFrom cX2_takeFrom 3 none [.ref 9, .ref 1] μ τ Q := by
  refine Zc.mk 1 [.ref 9, .ref 1, .null] rfl (by decide) (Nat.le_of_ble_eq_true rfl) ?_
  refine Zw_aload_1 dX2_takeFrom_0 ?_
  refine Zw_getr 2 lf_X2_9 dX2_takeFrom_1 (by first | decide | assumption | omega) (by first | rfl | assumption) (by rfl) ?_
  refine Zw_iconst (v := 0) dX2_takeFrom_4 (by decide) ?_
  refine Zw_aload_0 dX2_takeFrom_5 ?_
  refine Zw_getr 10 lf_X2_9 dX2_takeFrom_6 (by first | decide | assumption | omega) (by first | rfl | assumption) (by rfl) ?_
  refine Zw_iconst (v := 0) dX2_takeFrom_9 (by decide) ?_
  refine Zw_bipush (v := 8) dX2_takeFrom_10 (by decide) ?_
  refine Zw_copy lcp_RX2 dX2_takeFrom_12 (by decide) (Nat.le_of_ble_eq_true rfl) (by decide) rfl (by decide) rfl (by decide) (by decide) (by decide) (by decide) (by decide) ?_
  refine Zw_iconst (v := 0) dX2_takeFrom_15 (by decide) ?_
  refine Zw_istore_2 dX2_takeFrom_16 rfl ?_
  refine l_keep h 6 0 _ (by omega) (by omega) (zOff.ar zOff.rf (by simp)) (fun j => by rw [zar_ne (by decide)]) (fun j hj => ?_) (fun f hf => absurd hf (by omega))
  rw [zar_eq]
  exact pk_cpy_in (by simp) (by simpa using hj) |>.trans (by simp)
set_option maxRecDepth 20000 in
theorem l_back {Q : zQ} {μ0 : zMu} {τ : Int64} (h : ∀ μ2, zOff [1, 2, 4, 5, 6, 7, 8] μ0 μ2 → (∀ j, j < 8 → μ2 2 j = μ0 10 j) → (∀ f, f < 5 → ∀ j, j < 4 → μ2 (4 + f) j = μ0 (12 + f) j) → (∀ j, 2 ≤ j → j < 8 → μ2 1 j = μ0 9 j) → Q none μ2 τ) : ∀ m i μ, 5 - i < m → i ≤ 5 → zOff [1, 2, 4, 5, 6, 7, 8] μ0 μ → (∀ j, μ 1 j = μ0 1 j) → (∀ j, j < 8 → μ 2 j = μ0 10 j) → (∀ f, f < i → ∀ j, j < 4 → μ (4 + f) j = μ0 (12 + f) j) → Zw 1 RX2 cX2_takeFrom 3 none Q 17 [.ref 1, .ref 9, .int (nI i)] [] μ τ
  | 0, i, _, hm, _, _, _, _, _ => absurd hm (by omega)
  | m + 1, i, μ, hm, hi, hO, hB, hL, hF => by
    refine Zw_iload_2 dX2_takeFrom_17 ?_
    refine Zw_iconst (v := 5) dX2_takeFrom_18 (by decide) ?_
    refine Zw_nicmp_ge (i) (5) 43 dX2_takeFrom_19 (by decide) rfl rfl (by omega) (by omega) (fun c19 => ?_) (fun c19 => ?_)
    · refine Zw_aload_0 dX2_takeFrom_43 ?_
      refine Zw_aload_1 dX2_takeFrom_44 ?_
      refine Zw_geti lf_X2_36 dX2_takeFrom_45 (by first | decide | assumption | omega) (by first | rfl | assumption) (by rfl) ?_
      refine Zw_put lp_X2_36 dX2_takeFrom_48 (by first | decide | assumption | omega) (by first | rfl | assumption) (by rfl) (by first | rfl | assumption) (by first | rfl | assumption) ?_
      refine Zw_aload_0 dX2_takeFrom_51 ?_
      refine Zw_aload_1 dX2_takeFrom_52 ?_
      refine Zw_geti lf_X2_39 dX2_takeFrom_53 (by first | decide | assumption | omega) (by first | rfl | assumption) (by rfl) ?_
      refine Zw_put lp_X2_39 dX2_takeFrom_56 (by first | decide | assumption | omega) (by first | rfl | assumption) (by rfl) (by first | rfl | assumption) (by first | rfl | assumption) ?_
      refine Zw_aload_0 dX2_takeFrom_59 ?_
      refine Zw_aload_1 dX2_takeFrom_60 ?_
      refine Zw_geti lf_X2_42 dX2_takeFrom_61 (by first | decide | assumption | omega) (by first | rfl | assumption) (by rfl) ?_
      refine Zw_put lp_X2_42 dX2_takeFrom_64 (by first | decide | assumption | omega) (by first | rfl | assumption) (by rfl) (by first | rfl | assumption) (by first | rfl | assumption) ?_
      refine Zw_aload_0 dX2_takeFrom_67 ?_
      refine Zw_aload_1 dX2_takeFrom_68 ?_
      refine Zw_geti lf_X2_45 dX2_takeFrom_69 (by first | decide | assumption | omega) (by first | rfl | assumption) (by rfl) ?_
      refine Zw_put lp_X2_45 dX2_takeFrom_72 (by first | decide | assumption | omega) (by first | rfl | assumption) (by rfl) (by first | rfl | assumption) (by first | rfl | assumption) ?_
      refine Zw_aload_0 dX2_takeFrom_75 ?_
      refine Zw_aload_1 dX2_takeFrom_76 ?_
      refine Zw_geti lf_X2_21 dX2_takeFrom_77 (by first | decide | assumption | omega) (by first | rfl | assumption) (by rfl) ?_
      refine Zw_put lp_X2_21 dX2_takeFrom_80 (by first | decide | assumption | omega) (by first | rfl | assumption) (by rfl) (by first | rfl | assumption) (by first | rfl | assumption) ?_
      refine Zw_aload_0 dX2_takeFrom_83 ?_
      refine Zw_aload_1 dX2_takeFrom_84 ?_
      refine Zw_geti lf_X2_48 dX2_takeFrom_85 (by first | decide | assumption | omega) (by first | rfl | assumption) (by rfl) ?_
      refine Zw_put lp_X2_48 dX2_takeFrom_88 (by first | decide | assumption | omega) (by first | rfl | assumption) (by rfl) (by first | rfl | assumption) (by first | rfl | assumption) ?_
      refine Zw_return dX2_takeFrom_91 ?_
      refine h _ (by refine (((((hO.up (by simp)).up (by simp)).up (by simp)).up (by simp)).up (by simp)).up (by simp)) (fun j hj => by simp only [zup_at]; simpa using hL j hj) (fun f hf j hj => by simp only [zup_at]; rw [if_neg (by omega), if_neg (by omega), if_neg (by omega), if_neg (by omega), if_neg (by omega), if_neg (by omega)]; exact hF f (by omega) j hj) (fun j h2 h8 => ?_)
      have hc : ∀ j, μ 9 j = μ0 9 j := fun j => congrFun (hO 9 (by decide)) j
      simp only [zup_at]
      match j, h2, h8 with
      | 2, _, _ => simp [hc]
      | 3, _, _ => simp [hc]
      | 4, _, _ => simp [hc]
      | 5, _, _ => simp [hc]
      | 6, _, _ => simp [hc]
      | 7, _, _ => simp [hc]
      | n + 8, _, h8 => exact absurd h8 (by omega)
    · refine Zw_aload_0 dX2_takeFrom_22 ?_
      refine Zw_getr 3 lf_X2_17 dX2_takeFrom_23 (by first | decide | assumption | omega) (by first | rfl | assumption) (by rfl) ?_
      refine Zw_iload_2 dX2_takeFrom_26 ?_
      refine Zw_aaldn (i) (4 + i) dX2_takeFrom_27 (by first | decide | assumption | omega) (by first | rfl | assumption) rfl (by omega) (zfin_g c19) (by decide) ?_
      refine Zw_aload_1 dX2_takeFrom_28 ?_
      refine Zw_getr 11 lf_X2_17 dX2_takeFrom_29 (by first | decide | assumption | omega) (by first | rfl | assumption) (by rfl) ?_
      refine Zw_iload_2 dX2_takeFrom_32 ?_
      refine Zw_aaldn (i) (12 + i) dX2_takeFrom_33 (by first | decide | assumption | omega) (by first | rfl | assumption) rfl (by omega) (zkep_g c19) (by decide) ?_
      have hs1 := zfin_s c19
      have hs2 := zkep_s c19
      refine Zw_V1 (k := 0) lm_X2_32 dX2_takeFrom_34 (by decide) (by first | decide | assumption | omega) (by first | rfl | assumption) (by rfl) (Nat.le_of_ble_eq_true rfl) ?_
      refine s_x3_takeFrom (by omega) hs1 (by omega) hs2 (by omega) (fun μ1 hO1 hV1 => ?_)
      refine Zw_iinc_2 dX2_takeFrom_37 rfl (zincn _) ?_
      refine Zw_goto 17 dX2_takeFrom_40 (by decide) ?_
      exact l_back h m (i + 1) _ (by omega) (by omega) (hO.tr (hO1.sub (by intro k hk; simp at hk ⊢; omega))) (fun j => by rw [hO1 1 (by simp; omega)]; exact hB j) (fun j hj => by rw [hO1 2 (by simp; omega)]; exact hL j hj) (fun f hf j hj => if e : f = i then (by subst e; rw [hV1 j hj]; exact congrFun (hO (12 + f) (by simp; omega)) j) else (by rw [hO1 (4 + f) (by simp; omega)]; exact hF f (by omega) j hj))
set_option maxRecDepth 20000 in
theorem s_back {Q : zQ} {μ : zMu} {τ : Int64} (h : ∀ μ2, zOff [1, 2, 4, 5, 6, 7, 8] μ μ2 → (∀ j, j < 8 → μ2 2 j = μ 10 j) → (∀ f, f < 5 → ∀ j, j < 4 → μ2 (4 + f) j = μ (12 + f) j) → (∀ j, 2 ≤ j → j < 8 → μ2 1 j = μ 9 j) → Q none μ2 τ) : Zc 1 yX2_takeFrom cX2_takeFrom 3 none [.ref 1, .ref 9] μ τ Q := by
  refine Zc.mk 1 [.ref 1, .ref 9, .null] rfl (by decide) (Nat.le_of_ble_eq_true rfl) ?_
  refine Zw_aload_1 dX2_takeFrom_0 ?_
  refine Zw_getr 10 lf_X2_9 dX2_takeFrom_1 (by first | decide | assumption | omega) (by first | rfl | assumption) (by rfl) ?_
  refine Zw_iconst (v := 0) dX2_takeFrom_4 (by decide) ?_
  refine Zw_aload_0 dX2_takeFrom_5 ?_
  refine Zw_getr 2 lf_X2_9 dX2_takeFrom_6 (by first | decide | assumption | omega) (by first | rfl | assumption) (by rfl) ?_
  refine Zw_iconst (v := 0) dX2_takeFrom_9 (by decide) ?_
  refine Zw_bipush (v := 8) dX2_takeFrom_10 (by decide) ?_
  refine Zw_copy lcp_RX2 dX2_takeFrom_12 (by decide) (Nat.le_of_ble_eq_true rfl) (by decide) rfl (by decide) rfl (by decide) (by decide) (by decide) (by decide) (by decide) ?_
  refine Zw_iconst (v := 0) dX2_takeFrom_15 (by decide) ?_
  refine Zw_istore_2 dX2_takeFrom_16 rfl ?_
  refine l_back h 6 0 _ (by omega) (by omega) (zOff.ar zOff.rf (by simp)) (fun j => by rw [zar_ne (by decide)]) (fun j hj => ?_) (fun f hf => absurd hf (by omega))
  rw [zar_eq]
  exact pk_cpy_in (by simp) (by simpa using hj) |>.trans (by simp)
