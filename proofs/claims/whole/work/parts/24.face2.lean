set_option maxRecDepth 20000 in
theorem s_tapePut {x : Int32} {sz : Nat} {Q : zQ} {μ : zMu} {τ : Int64} (hsz : μ 39 1 = nI sz) (hb : sz ≤ 160) (h0 : sz = 160 → Q (some (.int 0)) μ τ) (h1 : sz < 160 → Q (some (.int 1)) (zup (zup μ 40 sz x) 39 1 (nI (sz + 1))) τ) : Zc 0 yX6_put cX6_put 2 (some .boolean) [.ref 39, .int x] μ τ Q := by
  refine Zc.mk 0 [.ref 39, .int x] rfl (by decide) (Nat.le_of_ble_eq_true rfl) ?_
  refine Zw_aload_0 dX6_put_0 ?_
  refine Zw_getv (nI sz) lf_X6_18 dX6_put_1 (by first | decide | assumption | omega) (by first | rfl | assumption) (by rfl) hsz ?_
  refine Zw_aload_0 dX6_put_4 ?_
  refine Zw_getr 40 lf_X6_9 dX6_put_5 (by first | decide | assumption | omega) (by first | rfl | assumption) (by rfl) ?_
  refine Zw_alen dX6_put_8 (by first | decide | assumption | omega) (by first | rfl | assumption) ?_
  refine Zw_nicmp_lt (sz) (160) 14 dX6_put_9 (by decide) rfl rfl (by omega) (by omega) (fun c9 => ?_) (fun c9 => ?_)
  · refine Zw_aload_0 dX6_put_14 ?_
    refine Zw_getr 40 lf_X6_9 dX6_put_15 (by first | decide | assumption | omega) (by first | rfl | assumption) (by rfl) ?_
    refine Zw_aload_0 dX6_put_18 ?_
    refine Zw_getv (nI sz) lf_X6_18 dX6_put_19 (by first | decide | assumption | omega) (by first | rfl | assumption) (by rfl) hsz ?_
    refine Zw_iload_1 dX6_put_22 ?_
    refine Zw_iastn (sz) dX6_put_23 (by first | decide | assumption | omega) (by first | rfl | assumption) rfl (by omega) (by decide) ?_
    refine Zw_aload_0 dX6_put_24 ?_
    refine Zw_dup dX6_put_25 rfl ?_
    refine Zw_getv (nI sz) lf_X6_18 dX6_put_26 (by first | decide | assumption | omega) (by first | rfl | assumption) (by rfl) (by simp [zup_at]; exact hsz) ?_
    refine Zw_iconst (v := 1) dX6_put_29 (by decide) ?_
    refine Zw_nadd (sz) (1) dX6_put_30 rfl rfl ?_
    refine Zw_put lp_X6_18 dX6_put_31 (by first | decide | assumption | omega) (by first | rfl | assumption) (by rfl) (by first | rfl | assumption) (by first | rfl | assumption) ?_
    refine Zw_iconst (v := 1) dX6_put_34 (by decide) ?_
    refine Zw_ireturn dX6_put_35 (by first | rfl | assumption) ?_
    exact h1 c9
  · refine Zw_iconst (v := 0) dX6_put_12 (by decide) ?_
    refine Zw_ireturn dX6_put_13 (by first | rfl | assumption) ?_
    exact h0 (by omega)
set_option maxRecDepth 20000 in
theorem s_X_feed {x : Int32} {sz : Nat} {Q : zQ} {μ : zMu} {τ : Int64} (hsz : μ 39 1 = nI sz) (hb : sz ≤ 160) (hbad : ¬ vp_in x 256 → Q (some (.int (-2))) μ τ) (hfull : vp_in x 256 → sz = 160 → Q (some (.int (-4))) μ τ) (h : vp_in x 256 → sz < 160 → Q (some (.int (nI (sz + 1)))) (zup (zup μ 40 sz x) 39 1 (nI (sz + 1))) τ) : Zc 1 yX10_feed cX10_feed 2 (some .int) [.ref 0, .int x] μ τ Q := by
  refine Zc.mk 0 [.ref 0, .int x] rfl (by decide) (Nat.le_of_ble_eq_true rfl) ?_
  refine Zw_iload_1 dX10_feed_0 ?_
  refine Zw_sipush (v := 256) dX10_feed_1 (by decide) ?_
  refine Zw_S2 (k := 0) lm_X10_76 dX10_feed_4 (by decide) (Nat.le_of_ble_eq_true rfl) ?_
  refine s_within 256 (by decide) (fun b1 => ?_) (fun b1 => ?_)
  · refine Zw_if_ne 13 dX10_feed_7 (by decide) (fun _ => ?_) (fun c => absurd c (by decide))
    refine Zw_aload_0 dX10_feed_13 ?_
    refine Zw_getr 39 lf_X10_29 dX10_feed_14 (by first | decide | assumption | omega) (by first | rfl | assumption) (by rfl) ?_
    refine Zw_iload_1 dX10_feed_17 ?_
    refine Zw_V1 (k := 0) lm_X10_117 dX10_feed_18 (by decide) (by first | decide | assumption | omega) (by first | rfl | assumption) (by rfl) (Nat.le_of_ble_eq_true rfl) ?_
    refine s_tapePut hsz hb (fun e => ?_) (fun e => ?_)
    · refine Zw_if_eq 34 dX10_feed_21 (by decide) (fun _ => ?_) (fun c => absurd c (by decide))
      refine Zw_bipush (v := (-4)) dX10_feed_34 (by decide) ?_
      refine Zw_ireturn dX10_feed_36 (by first | rfl | assumption) ?_
      exact hfull b1 e
    · refine Zw_if_eq 34 dX10_feed_21 (by decide) (fun c => absurd c (by decide)) (fun _ => ?_)
      refine Zw_aload_0 dX10_feed_24 ?_
      refine Zw_getr 39 lf_X10_29 dX10_feed_25 (by first | decide | assumption | omega) (by first | rfl | assumption) (by rfl) ?_
      refine Zw_getv (nI (sz + 1)) lf_X10_121 dX10_feed_28 (by first | decide | assumption | omega) (by first | rfl | assumption) (by rfl) (by simp [zup_at]) ?_
      refine Zw_goto 36 dX10_feed_31 (by decide) ?_
      refine Zw_ireturn dX10_feed_36 (by first | rfl | assumption) ?_
      exact h b1 e
  · refine Zw_if_ne 13 dX10_feed_7 (by decide) (fun c => absurd c (by decide)) (fun _ => ?_)
    refine Zw_bipush (v := (-2)) dX10_feed_10 (by decide) ?_
    refine Zw_ireturn dX10_feed_12 (by first | rfl | assumption) ?_
    exact hbad b1
set_option maxRecDepth 20000 in
theorem s_X_force {x : Int32} {cnt : Nat} {Q : zQ} {μ : zMu} {τ : Int64} (hc : μ 17 3 = nI cnt) (hc6 : cnt ≤ 6) (hbad : ¬ vp_in x cnt → Q (some (.int (-2))) μ τ) (h : vp_in x cnt → Q (some (.int (μ 1 7))) (zup μ 1 7 x) τ) : Zc 1 yX10_force cX10_force 3 (some .int) [.ref 0, .int x] μ τ Q := by
  refine Zc.mk 1 [.ref 0, .int x, .null] rfl (by decide) (Nat.le_of_ble_eq_true rfl) ?_
  refine Zw_iload_1 dX10_force_0 ?_
  refine Zw_aload_0 dX10_force_1 ?_
  refine Zw_getr 17 lf_X10_22 dX10_force_2 (by first | decide | assumption | omega) (by first | rfl | assumption) (by rfl) ?_
  refine Zw_geti lf_X10_124 dX10_force_5 (by first | decide | assumption | omega) (by first | rfl | assumption) (by rfl) ?_
  refine Zw_S2 (k := 0) lm_X10_76 dX10_force_8 (by decide) (Nat.le_of_ble_eq_true rfl) ?_
  refine s_within cnt (by rw [hc]; exact nI_toInt (by omega)) (fun b1 => ?_) (fun b1 => ?_)
  · refine Zw_if_ne 17 dX10_force_11 (by decide) (fun _ => ?_) (fun c => absurd c (by decide))
    refine Zw_aload_0 dX10_force_17 ?_
    refine Zw_getr 1 lf_X10_10 dX10_force_18 (by first | decide | assumption | omega) (by first | rfl | assumption) (by rfl) ?_
    refine Zw_geti lf_X10_133 dX10_force_21 (by first | decide | assumption | omega) (by first | rfl | assumption) (by rfl) ?_
    refine Zw_istore_2 dX10_force_24 rfl ?_
    refine Zw_aload_0 dX10_force_25 ?_
    refine Zw_getr 1 lf_X10_10 dX10_force_26 (by first | decide | assumption | omega) (by first | rfl | assumption) (by rfl) ?_
    refine Zw_iload_1 dX10_force_29 ?_
    refine Zw_put lp_X10_133 dX10_force_30 (by first | decide | assumption | omega) (by first | rfl | assumption) (by rfl) (by first | rfl | assumption) (by first | rfl | assumption) ?_
    refine Zw_iload_2 dX10_force_33 ?_
    refine Zw_ireturn dX10_force_34 (by first | rfl | assumption) ?_
    exact h b1
  · refine Zw_if_ne 17 dX10_force_11 (by decide) (fun c => absurd c (by decide)) (fun _ => ?_)
    refine Zw_bipush (v := (-2)) dX10_force_14 (by decide) ?_
    refine Zw_ireturn dX10_force_16 (by first | rfl | assumption) ?_
    exact hbad b1
set_option maxRecDepth 20000 in
theorem s_X_go {x on : Int32} {n : Nat} {Q : zQ} {μ : zMu} {τ : Int64} (hfd : x_fd μ n) (hbad : ¬ (vp_in x n ∧ vp_in on 8) → Q (some (.int (-2))) μ τ) (hst : ∀ f p a, f < n → p < 8 → a < 8 → x = nI f → on = nI p → μ (4 + f) 2 = nI a → q_has (μ 2 a) p = false → Q (some (.int (-3))) μ τ) (h : ∀ f p a, f < n → p < 8 → a < 8 → x = nI f → on = nI p → μ (4 + f) 2 = nI a → q_has (μ 2 a) p = true → Q (some (.int (nI a))) (zup μ (4 + f) 2 (nI p)) τ) : Zc 1 yX10_go cX10_go 5 (some .int) [.ref 0, .int x, .int on] μ τ Q := by
  refine Zc.mk 2 [.ref 0, .int x, .int on, .null, .null] rfl (by decide) (Nat.le_of_ble_eq_true rfl) ?_
  have hn5 := hfd.1
  have hn := hfd.2.1
  refine Zw_iload_1 dX10_go_0 ?_
  refine Zw_aload_0 dX10_go_1 ?_
  refine Zw_getr 1 lf_X10_10 dX10_go_2 (by first | decide | assumption | omega) (by first | rfl | assumption) (by rfl) ?_
  refine Zw_geti lf_X10_80 dX10_go_5 (by first | decide | assumption | omega) (by first | rfl | assumption) (by rfl) ?_
  refine Zw_S2 (k := 0) lm_X10_76 dX10_go_8 (by decide) (Nat.le_of_ble_eq_true rfl) ?_
  refine s_within n (by rw [hn]; exact nI_toInt (by omega)) (fun b1 => ?_) (fun b1 => ?_)
  · refine Zw_if_eq 23 dX10_go_11 (by decide) (fun c => absurd c (by decide)) (fun _ => ?_)
    refine Zw_iload_2 dX10_go_14 ?_
    refine Zw_bipush (v := 8) dX10_go_15 (by decide) ?_
    refine Zw_S2 (k := 0) lm_X10_76 dX10_go_17 (by decide) (Nat.le_of_ble_eq_true rfl) ?_
    refine s_within 8 (by decide) (fun b2 => ?_) (fun b2 => ?_)
    · refine Zw_if_ne 26 dX10_go_20 (by decide) (fun _ => ?_) (fun c => absurd c (by decide))
      obtain ⟨f, hf, rfl⟩ := vp_in_of b1 (by omega)
      obtain ⟨p, hp, rfl⟩ := vp_in_of b2 (by decide)
      obtain ⟨kd, nu, a, g1, g2, g3, g4, g5, g6⟩ := hfd.2.2 f hf
      have hsf := zfin_s (show f < 5 by omega)
      refine Zw_aload_0 dX10_go_26 ?_
      refine Zw_getr 1 lf_X10_10 dX10_go_27 (by first | decide | assumption | omega) (by first | rfl | assumption) (by rfl) ?_
      refine Zw_getr 3 lf_X10_109 dX10_go_30 (by first | decide | assumption | omega) (by first | rfl | assumption) (by rfl) ?_
      refine Zw_iload_1 dX10_go_33 ?_
      refine Zw_aaldn (f) (4 + f) dX10_go_34 (by first | decide | assumption | omega) (by first | rfl | assumption) rfl (by omega) (zfin_g (by omega)) (by decide) ?_
      refine Zw_astore_3 dX10_go_35 rfl ?_
      refine Zw_aload_3 dX10_go_36 ?_
      refine Zw_getv (nI a) lf_X10_172 dX10_go_37 (by first | decide | assumption | omega) (by first | rfl | assumption) (by rfl) g5 ?_
      refine Zw_istore_4 dX10_go_40 rfl ?_
      refine Zw_aload_0 dX10_go_42 ?_
      refine Zw_getr 1 lf_X10_10 dX10_go_43 (by first | decide | assumption | omega) (by first | rfl | assumption) (by rfl) ?_
      refine Zw_getr 2 lf_X10_92 dX10_go_46 (by first | decide | assumption | omega) (by first | rfl | assumption) (by rfl) ?_
      refine Zw_iload_4 dX10_go_49 ?_
      refine Zw_ialdn (a) dX10_go_51 (by first | decide | assumption | omega) (by first | rfl | assumption) rfl (by omega) (by decide) ?_
      refine Zw_iload_2 dX10_go_52 ?_
      refine Zw_ishr dX10_go_53 ?_
      refine Zw_iconst (v := 1) dX10_go_54 (by decide) ?_
      refine Zw_iand dX10_go_55 ?_
      refine Zw_if_ne 62 dX10_go_56 (by decide) (fun c56 => ?_) (fun c56 => ?_)
      · refine Zw_aload_3 dX10_go_62 ?_
        refine Zw_iload_2 dX10_go_63 ?_
        refine Zw_put lp_X10_172 dX10_go_64 (by first | decide | assumption | omega) (by first | rfl | assumption) (by rfl) (by first | rfl | assumption) (by first | rfl | assumption) ?_
        refine Zw_iload_4 dX10_go_67 ?_
        refine Zw_ireturn dX10_go_69 (by first | rfl | assumption) ?_
        exact h f p a hf hp g6 rfl rfl g5 (by simp [q_has]; exact c56)
      · refine Zw_bipush (v := (-3)) dX10_go_59 (by decide) ?_
        refine Zw_ireturn dX10_go_61 (by first | rfl | assumption) ?_
        exact hst f p a hf hp g6 rfl rfl g5 (by simp [q_has]; exact c56)
    · refine Zw_if_ne 26 dX10_go_20 (by decide) (fun c => absurd c (by decide)) (fun _ => ?_)
      refine Zw_bipush (v := (-2)) dX10_go_23 (by decide) ?_
      refine Zw_ireturn dX10_go_25 (by first | rfl | assumption) ?_
      exact hbad (fun e => b2 e.2)
  · refine Zw_if_eq 23 dX10_go_11 (by decide) (fun _ => ?_) (fun c => absurd c (by decide))
    refine Zw_bipush (v := (-2)) dX10_go_23 (by decide) ?_
    refine Zw_ireturn dX10_go_25 (by first | rfl | assumption) ?_
    exact hbad (fun e => b1 e.1)
set_option maxRecDepth 20000 in
theorem s_X_image {Q : zQ} {μ : zMu} {τ : Int64} (h : ∀ μ2, zOff [9, 10, 12, 13, 14, 15, 16] μ μ2 → (∀ j, j < 8 → μ2 10 j = μ 2 j) → (∀ f, f < 5 → ∀ j, j < 4 → μ2 (12 + f) j = μ (4 + f) j) → (∀ j, 2 ≤ j → j < 8 → μ2 9 j = μ 1 j) → Q (some (.int (μ 1 2))) (zup μ2 0 9 1) τ) : Zc 2 yX10_image cX10_image 1 (some .int) [.ref 0] μ τ Q := by
  refine Zc.mk 0 [.ref 0] rfl (by decide) (Nat.le_of_ble_eq_true rfl) ?_
  refine Zw_aload_0 dX10_image_0 ?_
  refine Zw_getr 9 lf_X10_16 dX10_image_1 (by first | decide | assumption | omega) (by first | rfl | assumption) (by rfl) ?_
  refine Zw_aload_0 dX10_image_4 ?_
  refine Zw_getr 1 lf_X10_10 dX10_image_5 (by first | decide | assumption | omega) (by first | rfl | assumption) (by rfl) ?_
  refine Zw_V1 (k := 1) lm_X10_247 dX10_image_8 (by decide) (by first | decide | assumption | omega) (by first | rfl | assumption) (by rfl) (Nat.le_of_ble_eq_true rfl) ?_
  refine s_keep (fun μ1 hO1 k1 k2 k3 => ?_)
  refine Zw_aload_0 dX10_image_11 ?_
  refine Zw_iconst (v := 1) dX10_image_12 (by decide) ?_
  refine Zw_put lp_X10_251 dX10_image_13 (by first | decide | assumption | omega) (by first | rfl | assumption) (by rfl) (by first | rfl | assumption) (by first | rfl | assumption) ?_
  refine Zw_aload_0 dX10_image_16 ?_
  refine Zw_getr 1 lf_X10_10 dX10_image_17 (by first | decide | assumption | omega) (by first | rfl | assumption) (by rfl) ?_
  refine Zw_getv (μ 1 2) lf_X10_80 dX10_image_20 (by first | decide | assumption | omega) (by first | rfl | assumption) (by rfl) (by rw [zup_ne (by decide), hO1 1 (by simp)]) ?_
  refine Zw_ireturn dX10_image_23 (by first | rfl | assumption) ?_
  exact h μ1 hO1 k1 k2 k3
set_option maxRecDepth 20000 in
theorem s_X_back {Q : zQ} {μ : zMu} {τ : Int64} (hst : μ 0 9 = 0 → Q (some (.int (-3))) μ τ) (h : ∀ μ2, zOff [1, 2, 4, 5, 6, 7, 8] μ μ2 → (∀ j, j < 8 → μ2 2 j = μ 10 j) → (∀ f, f < 5 → ∀ j, j < 4 → μ2 (4 + f) j = μ (12 + f) j) → (∀ j, 2 ≤ j → j < 8 → μ2 1 j = μ 9 j) → μ 0 9 ≠ 0 → Q (some (.int (μ 9 2))) μ2 τ) : Zc 2 yX10_back cX10_back 1 (some .int) [.ref 0] μ τ Q := by
  refine Zc.mk 0 [.ref 0] rfl (by decide) (Nat.le_of_ble_eq_true rfl) ?_
  refine Zw_aload_0 dX10_back_0 ?_
  refine Zw_geti lf_X10_251 dX10_back_1 (by first | decide | assumption | omega) (by first | rfl | assumption) (by rfl) ?_
  refine Zw_if_ne 10 dX10_back_4 (by decide) (fun c4 => ?_) (fun c4 => ?_)
  · refine Zw_aload_0 dX10_back_10 ?_
    refine Zw_getr 1 lf_X10_10 dX10_back_11 (by first | decide | assumption | omega) (by first | rfl | assumption) (by rfl) ?_
    refine Zw_aload_0 dX10_back_14 ?_
    refine Zw_getr 9 lf_X10_16 dX10_back_15 (by first | decide | assumption | omega) (by first | rfl | assumption) (by rfl) ?_
    refine Zw_V1 (k := 1) lm_X10_247 dX10_back_18 (by decide) (by first | decide | assumption | omega) (by first | rfl | assumption) (by rfl) (Nat.le_of_ble_eq_true rfl) ?_
    refine s_back (fun μ1 hO1 k1 k2 k3 => ?_)
    refine Zw_aload_0 dX10_back_21 ?_
    refine Zw_getr 1 lf_X10_10 dX10_back_22 (by first | decide | assumption | omega) (by first | rfl | assumption) (by rfl) ?_
    refine Zw_getv (μ 9 2) lf_X10_80 dX10_back_25 (by first | decide | assumption | omega) (by first | rfl | assumption) (by rfl) (k3 2 (by omega) (by omega)) ?_
    refine Zw_ireturn dX10_back_28 (by first | rfl | assumption) ?_
    exact h μ1 hO1 k1 k2 k3 c4
  · refine Zw_bipush (v := (-3)) dX10_back_7 (by decide) ?_
    refine Zw_ireturn dX10_back_9 (by first | rfl | assumption) ?_
    exact hst c4
def q_count (μ : zMu) : Nat → Int32
  | 0 => μ 1 2
  | 1 => q_sum (fun p => q_bc (μ 2 p)) 8 / 2
  | 2 => q_bc (μ 1 6)
  | 3 => μ 17 3
  | 4 => μ 39 1
  | _ => μ 1 7
set_option maxRecDepth 20000 in
theorem s_X_count {x : Int32} {Q : zQ} {μ : zMu} {τ : Int64} (hbad : ¬ vp_in x 6 → Q (some (.int (-2))) μ τ) (h : ∀ c, c < 6 → x = nI c → Q (some (.int (q_count μ c))) μ τ) : Zc 2 yX10_count cX10_count 2 (some .int) [.ref 0, .int x] μ τ Q := by
  refine Zc.mk 0 [.ref 0, .int x] rfl (by decide) (Nat.le_of_ble_eq_true rfl) ?_
  refine Zw_iload_1 dX10_count_0 ?_
  refine Zw_sw 91 [40, 48, 56, 67, 75, 83] dX10_count_1 (by decide) (by decide) (by decide) (fun i t hi e => ?_) (fun e => ?_)
  · match i, hi with
    | 0, hi =>
      cases hi
      obtain rfl : x = nI 0 := Int32.toInt_inj.mp (by rw [nI_toInt (by decide)]; simpa using e)
      refine Zw_aload_0 dX10_count_40 ?_
      refine Zw_getr 1 lf_X10_10 dX10_count_41 (by first | decide | assumption | omega) (by first | rfl | assumption) (by rfl) ?_
      refine Zw_geti lf_X10_80 dX10_count_44 (by first | decide | assumption | omega) (by first | rfl | assumption) (by rfl) ?_
      refine Zw_ireturn dX10_count_47 (by first | rfl | assumption) ?_
      exact h 0 (by decide) rfl
    | 1, hi =>
      cases hi
      obtain rfl : x = nI 1 := Int32.toInt_inj.mp (by rw [nI_toInt (by decide)]; simpa using e)
      refine Zw_aload_0 dX10_count_48 ?_
      refine Zw_getr 1 lf_X10_10 dX10_count_49 (by first | decide | assumption | omega) (by first | rfl | assumption) (by rfl) ?_
      refine Zw_V0 (k := 1) lm_X10_255 dX10_count_52 (by decide) (by first | decide | assumption | omega) (by first | rfl | assumption) (by rfl) (Nat.le_of_ble_eq_true rfl) ?_
      refine s_laneCount ?_
      refine Zw_ireturn dX10_count_55 (by first | rfl | assumption) ?_
      exact h 1 (by decide) rfl
    | 2, hi =>
      cases hi
      obtain rfl : x = nI 2 := Int32.toInt_inj.mp (by rw [nI_toInt (by decide)]; simpa using e)
      refine Zw_aload_0 dX10_count_56 ?_
      refine Zw_getr 1 lf_X10_10 dX10_count_57 (by first | decide | assumption | omega) (by first | rfl | assumption) (by rfl) ?_
      refine Zw_geti lf_X10_147 dX10_count_60 (by first | decide | assumption | omega) (by first | rfl | assumption) (by rfl) ?_
      refine Zw_S1 (k := 0) lm_X10_178 dX10_count_63 (by decide) (Nat.le_of_ble_eq_true rfl) ?_
      refine s_bitCount ?_
      refine Zw_ireturn dX10_count_66 (by first | rfl | assumption) ?_
      exact h 2 (by decide) rfl
    | 3, hi =>
      cases hi
      obtain rfl : x = nI 3 := Int32.toInt_inj.mp (by rw [nI_toInt (by decide)]; simpa using e)
      refine Zw_aload_0 dX10_count_67 ?_
      refine Zw_getr 17 lf_X10_22 dX10_count_68 (by first | decide | assumption | omega) (by first | rfl | assumption) (by rfl) ?_
      refine Zw_geti lf_X10_124 dX10_count_71 (by first | decide | assumption | omega) (by first | rfl | assumption) (by rfl) ?_
      refine Zw_ireturn dX10_count_74 (by first | rfl | assumption) ?_
      exact h 3 (by decide) rfl
    | 4, hi =>
      cases hi
      obtain rfl : x = nI 4 := Int32.toInt_inj.mp (by rw [nI_toInt (by decide)]; simpa using e)
      refine Zw_aload_0 dX10_count_75 ?_
      refine Zw_getr 39 lf_X10_29 dX10_count_76 (by first | decide | assumption | omega) (by first | rfl | assumption) (by rfl) ?_
      refine Zw_geti lf_X10_121 dX10_count_79 (by first | decide | assumption | omega) (by first | rfl | assumption) (by rfl) ?_
      refine Zw_ireturn dX10_count_82 (by first | rfl | assumption) ?_
      exact h 4 (by decide) rfl
    | 5, hi =>
      cases hi
      obtain rfl : x = nI 5 := Int32.toInt_inj.mp (by rw [nI_toInt (by decide)]; simpa using e)
      refine Zw_aload_0 dX10_count_83 ?_
      refine Zw_getr 1 lf_X10_10 dX10_count_84 (by first | decide | assumption | omega) (by first | rfl | assumption) (by rfl) ?_
      refine Zw_geti lf_X10_133 dX10_count_87 (by first | decide | assumption | omega) (by first | rfl | assumption) (by rfl) ?_
      refine Zw_ireturn dX10_count_90 (by first | rfl | assumption) ?_
      exact h 5 (by decide) rfl
    | n + 6, hi => exact absurd hi (by simp)
  · refine Zw_bipush (v := (-2)) dX10_count_91 (by decide) ?_
    refine Zw_ireturn dX10_count_93 (by first | rfl | assumption) ?_
    exact hbad (fun e2 => by have := vp_in_iff.mp e2; omega)
set_option maxRecDepth 20000 in
theorem s_X_sheet {s so m : Int32} {Q : zQ} {μ : zMu} {τ : Int64} (hbad : ¬ (vp_in s 4 ∧ -1 ≤ so.toInt ∧ so.toInt < 3) → Q (some (.int (-2))) μ τ) (hmis : ∀ i, i < 4 → s = nI i → so = -1 → ∀ μ2, zOff [53 + 2 * i, 54 + 2 * i] μ μ2 → μ2 (53 + 2 * i) 1 = -1 → μ2 (53 + 2 * i) 2 = nI 0 → (∀ j, j < 40 → μ2 (54 + 2 * i) j = 0) → Q (some (.int 1)) μ2 τ) (hbig : ∀ i, i < 4 → s = nI i → 0 ≤ so.toInt → so.toInt < 3 → 40 < m.toInt → Q (some (.int (-2))) μ τ) (hneg : ∀ i, i < 4 → s = nI i → 0 ≤ so.toInt → so.toInt < 3 → m.toInt < 0 → Q (some (.int (-14))) μ τ) (h : ∀ i k, i < 4 → k ≤ 40 → s = nI i → 0 ≤ so.toInt → so.toInt < 3 → m = nI k → ∀ μ2, zOff [53 + 2 * i, 54 + 2 * i] μ μ2 → μ2 (53 + 2 * i) 1 = so → μ2 (53 + 2 * i) 2 = nI k → (∀ j, j < 40 → μ2 (54 + 2 * i) j = 0) → Q (some (.int 1)) μ2 τ) : Zc 2 yX10_sheet cX10_sheet 4 (some .int) [.ref 0, .int s, .int so, .int m] μ τ Q := by
  refine Zc.mk 0 [.ref 0, .int s, .int so, .int m] rfl (by decide) (Nat.le_of_ble_eq_true rfl) ?_
  refine Zw_iload_1 dX10_sheet_0 ?_
  refine Zw_iconst (v := 4) dX10_sheet_1 (by decide) ?_
  refine Zw_S2 (k := 0) lm_X10_76 dX10_sheet_2 (by decide) (Nat.le_of_ble_eq_true rfl) ?_
  refine s_within 4 (by decide) (fun b1 => ?_) (fun b1 => ?_)
  · refine Zw_if_eq 18 dX10_sheet_5 (by decide) (fun c => absurd c (by decide)) (fun _ => ?_)
    refine Zw_iload_2 dX10_sheet_8 ?_
    refine Zw_iconst (v := (-1)) dX10_sheet_9 (by decide) ?_
    refine Zw_icmp_lt 18 dX10_sheet_10 (by decide) (fun c10 => ?_) (fun c10 => ?_)
    · refine Zw_bipush (v := (-2)) dX10_sheet_18 (by decide) ?_
      refine Zw_ireturn dX10_sheet_20 (by first | rfl | assumption) ?_
      exact hbad (fun e => by have := Int32.lt_iff_toInt_lt.mp c10; simp at this; omega)
    · refine Zw_iload_2 dX10_sheet_13 ?_
      refine Zw_iconst (v := 3) dX10_sheet_14 (by decide) ?_
      refine Zw_icmp_lt 21 dX10_sheet_15 (by decide) (fun c15 => ?_) (fun c15 => ?_)
      · obtain ⟨i, hi, rfl⟩ := vp_in_of b1 (by decide)
        have hrow := zRow_of hi
        obtain ⟨r1, r2, r3, r4, r5⟩ := id hrow
        have s1 : -1 ≤ so.toInt := by have := fun e => c10 (Int32.lt_iff_toInt_lt.mpr e); have h2 : ¬ so.toInt < (-1 : Int32).toInt := this; simpa using h2
        have s2 : so.toInt < 3 := by have := Int32.lt_iff_toInt_lt.mp c15; simpa using this
        refine Zw_iload_2 dX10_sheet_21 ?_
        refine Zw_iconst (v := (-1)) dX10_sheet_22 (by decide) ?_
        refine Zw_icmp_ne 39 dX10_sheet_23 (by decide) (fun c23 => ?_) (fun c23 => ?_)
        · have s3 : so.toInt ≠ -1 := fun e => c23 (Int32.toInt_inj.mp (by simpa using e))
          refine Zw_iload_3 dX10_sheet_39 ?_
          refine Zw_bipush (v := 40) dX10_sheet_40 (by decide) ?_
          refine Zw_icmp_le 48 dX10_sheet_42 (by decide) (fun c42 => ?_) (fun c42 => ?_)
          · refine Zw_iload_3 dX10_sheet_48 ?_
            refine Zw_if_ge 55 dX10_sheet_49 (by decide) (fun c49 => ?_) (fun c49 => ?_)
            · obtain ⟨k, hk, rfl⟩ := nI_of (fun e => absurd c49 (Int32.not_le.mpr e))
              have hk2 : k ≤ 40 := (zle2 rfl (by decide) hk).mp c42
              refine Zw_aload_0 dX10_sheet_55 ?_
              refine Zw_getr 52 lf_X10_67 dX10_sheet_56 (by first | decide | assumption | omega) (by first | rfl | assumption) (by rfl) ?_
              refine Zw_iload_1 dX10_sheet_59 ?_
              refine Zw_aaldn (i) (53 + 2 * i) dX10_sheet_60 (by first | decide | assumption | omega) (by first | rfl | assumption) rfl (by omega) (zRow_g hi) (by decide) ?_
              refine Zw_iload_2 dX10_sheet_61 ?_
              refine Zw_iload_3 dX10_sheet_62 ?_
              refine Zw_V2 (k := 1) lm_X10_221 dX10_sheet_63 (by decide) (by first | decide | assumption | omega) (by first | rfl | assumption) (by rfl) (Nat.le_of_ble_eq_true rfl) ?_
              refine s_rowBecome hrow hk2 (fun μ1 hO1 k1 k2 k3 => ?_)
              refine Zw_iconst (v := 1) dX10_sheet_66 (by decide) ?_
              refine Zw_ireturn dX10_sheet_67 (by first | rfl | assumption) ?_
              exact h i k hi hk2 rfl (by omega) s2 rfl μ1 hO1 k1 k2 k3
            · refine Zw_bipush (v := (-14)) dX10_sheet_52 (by decide) ?_
              refine Zw_ireturn dX10_sheet_54 (by first | rfl | assumption) ?_
              exact hneg i hi rfl (by omega) s2 (by have h6 : ¬ (0 : Int32).toInt ≤ m.toInt := fun e => c49 (Int32.le_iff_toInt_le.mpr e); simp at h6; omega)
          · refine Zw_bipush (v := (-2)) dX10_sheet_45 (by decide) ?_
            refine Zw_ireturn dX10_sheet_47 (by first | rfl | assumption) ?_
            exact hbig i hi rfl (by omega) s2 (by have h6 : ¬ m.toInt ≤ (40 : Int32).toInt := fun e => c42 (Int32.le_iff_toInt_le.mpr e); simp at h6; omega)
        · refine Zw_aload_0 dX10_sheet_26 ?_
          refine Zw_getr 52 lf_X10_67 dX10_sheet_27 (by first | decide | assumption | omega) (by first | rfl | assumption) (by rfl) ?_
          refine Zw_iload_1 dX10_sheet_30 ?_
          refine Zw_aaldn (i) (53 + 2 * i) dX10_sheet_31 (by first | decide | assumption | omega) (by first | rfl | assumption) rfl (by omega) (zRow_g hi) (by decide) ?_
          refine Zw_iconst (v := (-1)) dX10_sheet_32 (by decide) ?_
          refine Zw_iconst (v := 0) dX10_sheet_33 (by decide) ?_
          refine Zw_V2 (k := 1) lm_X10_221 dX10_sheet_34 (by decide) (by first | decide | assumption | omega) (by first | rfl | assumption) (by rfl) (Nat.le_of_ble_eq_true rfl) ?_
          refine s_rowBecome (n := 0) hrow (by omega) (fun μ1 hO1 k1 k2 k3 => ?_)
          refine Zw_iconst (v := 1) dX10_sheet_37 (by decide) ?_
          refine Zw_ireturn dX10_sheet_38 (by first | rfl | assumption) ?_
          exact hmis i hi rfl c23 μ1 hO1 k1 k2 k3
      · refine Zw_bipush (v := (-2)) dX10_sheet_18 (by decide) ?_
        refine Zw_ireturn dX10_sheet_20 (by first | rfl | assumption) ?_
        exact hbad (fun e => c15 (Int32.lt_iff_toInt_lt.mpr (by simpa using e.2.2)))
  · refine Zw_if_eq 18 dX10_sheet_5 (by decide) (fun _ => ?_) (fun c => absurd c (by decide))
    refine Zw_bipush (v := (-2)) dX10_sheet_18 (by decide) ?_
    refine Zw_ireturn dX10_sheet_20 (by first | rfl | assumption) ?_
    exact hbad (fun e => b1 e.1)
set_option maxRecDepth 20000 in
theorem s_X_cell {s x v : Int32} {Q : zQ} {μ : zMu} {τ : Int64} (hrw : ∀ i, i < 4 → ∃ k, k ≤ 40 ∧ μ (53 + 2 * i) 2 = nI k) (hbad : ¬ vp_in s 4 → Q (some (.int (-2))) μ τ) (hno : ∀ i, i < 4 → s = nI i → μ (53 + 2 * i) 1 = -1 → Q (some (.int (-11))) μ τ) (hout : ∀ i k, i < 4 → s = nI i → μ (53 + 2 * i) 1 ≠ -1 → μ (53 + 2 * i) 2 = nI k → ¬ vp_in x k → Q (some (.int (-12))) μ τ) (h : ∀ i k j, i < 4 → k ≤ 40 → s = nI i → μ (53 + 2 * i) 1 ≠ -1 → μ (53 + 2 * i) 2 = nI k → j < k → x = nI j → Q (some (.int 1)) (zup μ (54 + 2 * i) j (q_cut (μ (53 + 2 * i) 1) v)) τ) : Zc 2 yX10_cell cX10_cell 5 (some .int) [.ref 0, .int s, .int x, .int v] μ τ Q := by
  refine Zc.mk 1 [.ref 0, .int s, .int x, .int v, .null] rfl (by decide) (Nat.le_of_ble_eq_true rfl) ?_
  refine Zw_iload_1 dX10_cell_0 ?_
  refine Zw_iconst (v := 4) dX10_cell_1 (by decide) ?_
  refine Zw_S2 (k := 0) lm_X10_76 dX10_cell_2 (by decide) (Nat.le_of_ble_eq_true rfl) ?_
  refine s_within 4 (by decide) (fun b1 => ?_) (fun b1 => ?_)
  · refine Zw_if_ne 11 dX10_cell_5 (by decide) (fun _ => ?_) (fun c => absurd c (by decide))
    obtain ⟨i, hi, rfl⟩ := vp_in_of b1 (by decide)
    have hrow := zRow_of hi
    obtain ⟨k, hk, e1⟩ := hrw i hi
    obtain ⟨r1, r2, r3, r4, r5⟩ := id hrow
    refine Zw_aload_0 dX10_cell_11 ?_
    refine Zw_getr 52 lf_X10_67 dX10_cell_12 (by first | decide | assumption | omega) (by first | rfl | assumption) (by rfl) ?_
    refine Zw_iload_1 dX10_cell_15 ?_
    refine Zw_aaldn (i) (53 + 2 * i) dX10_cell_16 (by first | decide | assumption | omega) (by first | rfl | assumption) rfl (by omega) (zRow_g hi) (by decide) ?_
    refine Zw_astore_4 dX10_cell_17 rfl ?_
    refine Zw_aload_4 dX10_cell_19 ?_
    refine Zw_geti lf_X10_259 dX10_cell_21 (by first | decide | assumption | omega) (by first | rfl | assumption) (by rfl) ?_
    refine Zw_iconst (v := (-1)) dX10_cell_24 (by decide) ?_
    refine Zw_icmp_ne 31 dX10_cell_25 (by decide) (fun c25 => ?_) (fun c25 => ?_)
    · refine Zw_iload_2 dX10_cell_31 ?_
      refine Zw_aload_4 dX10_cell_32 ?_
      refine Zw_geti lf_X10_262 dX10_cell_34 (by first | decide | assumption | omega) (by first | rfl | assumption) (by rfl) ?_
      refine Zw_S2 (k := 0) lm_X10_76 dX10_cell_37 (by decide) (Nat.le_of_ble_eq_true rfl) ?_
      refine s_within k (by rw [e1]; exact nI_toInt (by omega)) (fun b2 => ?_) (fun b2 => ?_)
      · refine Zw_if_ne 46 dX10_cell_40 (by decide) (fun _ => ?_) (fun c => absurd c (by decide))
        obtain ⟨j, hj, rfl⟩ := vp_in_of b2 (by omega)
        refine Zw_aload_4 dX10_cell_46 ?_
        refine Zw_iload_2 dX10_cell_48 ?_
        refine Zw_iload_3 dX10_cell_49 ?_
        refine Zw_V2 (k := 1) lm_X10_237 dX10_cell_50 (by decide) (by first | decide | assumption | omega) (by first | rfl | assumption) (by rfl) (Nat.le_of_ble_eq_true rfl) ?_
        refine s_rowPut hrow hk hj e1 ?_
        refine Zw_iconst (v := 1) dX10_cell_53 (by decide) ?_
        refine Zw_ireturn dX10_cell_54 (by first | rfl | assumption) ?_
        exact h i k j hi hk rfl c25 e1 hj rfl
      · refine Zw_if_ne 46 dX10_cell_40 (by decide) (fun c => absurd c (by decide)) (fun _ => ?_)
        refine Zw_bipush (v := (-12)) dX10_cell_43 (by decide) ?_
        refine Zw_ireturn dX10_cell_45 (by first | rfl | assumption) ?_
        exact hout i k hi rfl c25 e1 b2
    · refine Zw_bipush (v := (-11)) dX10_cell_28 (by decide) ?_
      refine Zw_ireturn dX10_cell_30 (by first | rfl | assumption) ?_
      exact hno i hi rfl c25
  · refine Zw_if_ne 11 dX10_cell_5 (by decide) (fun c => absurd c (by decide)) (fun _ => ?_)
    refine Zw_bipush (v := (-2)) dX10_cell_8 (by decide) ?_
    refine Zw_ireturn dX10_cell_10 (by first | rfl | assumption) ?_
    exact hbad b1
set_option maxRecDepth 20000 in
theorem s_X_taken {x k : Int32} {n : Nat} {Q : zQ} {μ : zMu} {τ : Int64} (hfd : x_fd μ n) (hbad : ¬ vp_in k 6 → Q (some (.int (-2))) μ τ) (hno : vp_in k 6 → ¬ vp_in x n → Q (some (.int (-11))) μ τ) (h1 : ∀ f kd nu, vp_in k 6 → f < n → x = nI f → μ (4 + f) 0 = nI kd → kd < 6 → μ (4 + f) 1 = nI nu → q_under kd k = true → Q (some (.int (nI nu))) μ τ) (h0 : ∀ f kd, vp_in k 6 → f < n → x = nI f → μ (4 + f) 0 = nI kd → kd < 6 → q_under kd k = false → Q (some (.int (-13))) μ τ) : Zc 2 yX10_taken cX10_taken 4 (some .int) [.ref 0, .int x, .int k] μ τ Q := by
  refine Zc.mk 1 [.ref 0, .int x, .int k, .null] rfl (by decide) (Nat.le_of_ble_eq_true rfl) ?_
  have hn5 := hfd.1
  have hn := hfd.2.1
  refine Zw_iload_2 dX10_taken_0 ?_
  refine Zw_bipush (v := 6) dX10_taken_1 (by decide) ?_
  refine Zw_S2 (k := 0) lm_X10_76 dX10_taken_3 (by decide) (Nat.le_of_ble_eq_true rfl) ?_
  refine s_within 6 (by decide) (fun b1 => ?_) (fun b1 => ?_)
  · refine Zw_if_ne 12 dX10_taken_6 (by decide) (fun _ => ?_) (fun c => absurd c (by decide))
    refine Zw_iload_1 dX10_taken_12 ?_
    refine Zw_aload_0 dX10_taken_13 ?_
    refine Zw_getr 1 lf_X10_10 dX10_taken_14 (by first | decide | assumption | omega) (by first | rfl | assumption) (by rfl) ?_
    refine Zw_geti lf_X10_80 dX10_taken_17 (by first | decide | assumption | omega) (by first | rfl | assumption) (by rfl) ?_
    refine Zw_S2 (k := 0) lm_X10_76 dX10_taken_20 (by decide) (Nat.le_of_ble_eq_true rfl) ?_
    refine s_within n (by rw [hn]; exact nI_toInt (by omega)) (fun b2 => ?_) (fun b2 => ?_)
    · refine Zw_if_ne 29 dX10_taken_23 (by decide) (fun _ => ?_) (fun c => absurd c (by decide))
      obtain ⟨f, hf, rfl⟩ := vp_in_of b2 (by omega)
      obtain ⟨kd, nu, a, g1, g2, g3, g4, g5, g6⟩ := hfd.2.2 f hf
      have hsf := zfin_s (show f < 5 by omega)
      refine Zw_aload_0 dX10_taken_29 ?_
      refine Zw_getr 1 lf_X10_10 dX10_taken_30 (by first | decide | assumption | omega) (by first | rfl | assumption) (by rfl) ?_
      refine Zw_getr 3 lf_X10_109 dX10_taken_33 (by first | decide | assumption | omega) (by first | rfl | assumption) (by rfl) ?_
      refine Zw_iload_1 dX10_taken_36 ?_
      refine Zw_aaldn (f) (4 + f) dX10_taken_37 (by first | decide | assumption | omega) (by first | rfl | assumption) rfl (by omega) (zfin_g (by omega)) (by decide) ?_
      refine Zw_astore_3 dX10_taken_38 rfl ?_
      refine Zw_aload_3 dX10_taken_39 ?_
      refine Zw_iload_2 dX10_taken_40 ?_
      refine Zw_V1 (k := 1) lm_X10_275 dX10_taken_41 (by decide) (by first | decide | assumption | omega) (by first | rfl | assumption) (by rfl) (Nat.le_of_ble_eq_true rfl) ?_
      refine s_x_isUnder (by omega) hsf kd g2 g1 (fun d1 => ?_) (fun d1 => ?_)
      · refine Zw_if_eq 54 dX10_taken_44 (by decide) (fun c => absurd c (by decide)) (fun _ => ?_)
        refine Zw_aload_3 dX10_taken_47 ?_
        refine Zw_getv (nI nu) lf_X10_278 dX10_taken_48 (by first | decide | assumption | omega) (by first | rfl | assumption) (by rfl) g3 ?_
        refine Zw_goto 56 dX10_taken_51 (by decide) ?_
        refine Zw_ireturn dX10_taken_56 (by first | rfl | assumption) ?_
        exact h1 f kd nu b1 hf rfl g1 g2 g3 d1
      · refine Zw_if_eq 54 dX10_taken_44 (by decide) (fun _ => ?_) (fun c => absurd c (by decide))
        refine Zw_bipush (v := (-13)) dX10_taken_54 (by decide) ?_
        refine Zw_ireturn dX10_taken_56 (by first | rfl | assumption) ?_
        exact h0 f kd b1 hf rfl g1 g2 d1
    · refine Zw_if_ne 29 dX10_taken_23 (by decide) (fun c => absurd c (by decide)) (fun _ => ?_)
      refine Zw_bipush (v := (-11)) dX10_taken_26 (by decide) ?_
      refine Zw_ireturn dX10_taken_28 (by first | rfl | assumption) ?_
      exact hno b1 b2
  · refine Zw_if_ne 12 dX10_taken_6 (by decide) (fun c => absurd c (by decide)) (fun _ => ?_)
    refine Zw_bipush (v := (-2)) dX10_taken_9 (by decide) ?_
    refine Zw_ireturn dX10_taken_11 (by first | rfl | assumption) ?_
    exact hbad b1
