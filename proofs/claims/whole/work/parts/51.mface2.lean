set_option maxRecDepth 20000 in
theorem s_mforceB {x : Int32} {cnt : Nat} {Q : zQ} {μ : zMu} {τ : Int64} (hc : μ 61 3 = nI cnt) (hc6 : cnt ≤ 6) (hbad : ¬ vp_in x cnt) (h : Q (some (.int (-2))) μ τ) : Zc 1 yX11_force cX11_force 3 (some .int) [.ref 61, .int x] μ τ Q := by
  refine Zc.mk 1 [.ref 61, .int x, .null] rfl (by decide) (Nat.le_of_ble_eq_true rfl) ?_
  refine Zw_iload_1 dX11_force_0 ?_
  refine Zw_i2l dX11_force_1 ?_
  refine Zw_lconst (v := 0) dX11_force_2 (by decide) ?_
  refine Zw_aload_0 dX11_force_3 ?_
  refine Zw_getv (nI cnt) lf_X11_70 dX11_force_4 (by first | decide | assumption | omega) (by first | rfl | assumption) (by rfl) hc ?_
  refine Zw_iconst (v := 1) dX11_force_7 (by decide) ?_
  refine Zw_isub dX11_force_8 ?_
  refine Zw_i2l dX11_force_9 ?_
  refine Zw_S3 (k := 0) lm_X11_76 dX11_force_10 (by decide) (Nat.le_of_ble_eq_true rfl) ?_
  refine s_in0 cnt (in_m1 cnt (by omega)) (fun a1 => absurd a1 hbad) (fun _ => ?_)
  refine Zw_if_ne 19 dX11_force_13 (by decide) (fun c => absurd c (by decide)) (fun _ => ?_)
  refine Zw_bipush (v := (-2)) dX11_force_16 (by decide) ?_
  refine Zw_ireturn dX11_force_18 (by first | rfl | assumption) ?_
  exact h
set_option maxRecDepth 20000 in
theorem s_mforce {x : Int32} {cnt : Nat} {Q : zQ} {μ : zMu} {τ : Int64} (hc : μ 61 3 = nI cnt) (hc6 : cnt ≤ 6) (hx : vp_in x cnt) (h : Q (some (.int (μ 61 4))) (zup μ 61 4 x) τ) : Zc 1 yX11_force cX11_force 3 (some .int) [.ref 61, .int x] μ τ Q := by
  refine Zc.mk 1 [.ref 61, .int x, .null] rfl (by decide) (Nat.le_of_ble_eq_true rfl) ?_
  refine Zw_iload_1 dX11_force_0 ?_
  refine Zw_i2l dX11_force_1 ?_
  refine Zw_lconst (v := 0) dX11_force_2 (by decide) ?_
  refine Zw_aload_0 dX11_force_3 ?_
  refine Zw_getv (nI cnt) lf_X11_70 dX11_force_4 (by first | decide | assumption | omega) (by first | rfl | assumption) (by rfl) hc ?_
  refine Zw_iconst (v := 1) dX11_force_7 (by decide) ?_
  refine Zw_isub dX11_force_8 ?_
  refine Zw_i2l dX11_force_9 ?_
  refine Zw_S3 (k := 0) lm_X11_76 dX11_force_10 (by decide) (Nat.le_of_ble_eq_true rfl) ?_
  refine s_in0 cnt (in_m1 cnt (by omega)) (fun _ => ?_) (fun a0 => absurd hx a0)
  refine Zw_if_ne 19 dX11_force_13 (by decide) (fun _ => ?_) (fun c => absurd c (by decide))
  refine Zw_aload_0 dX11_force_19 ?_
  refine Zw_geti lf_X11_107 dX11_force_20 (by first | decide | assumption | omega) (by first | rfl | assumption) (by rfl) ?_
  refine Zw_istore_2 dX11_force_23 rfl ?_
  refine Zw_aload_0 dX11_force_24 ?_
  refine Zw_iload_1 dX11_force_25 ?_
  refine Zw_put lp_X11_107 dX11_force_26 (by first | decide | assumption | omega) (by first | rfl | assumption) (by rfl) (by first | rfl | assumption) (by first | rfl | assumption) ?_
  refine Zw_iload_2 dX11_force_29 ?_
  refine Zw_ireturn dX11_force_30 (by first | rfl | assumption) ?_
  exact h
set_option maxRecDepth 20000 in
theorem s_mgoB {x on : Int32} {Q : zQ} {μ : zMu} {τ : Int64} (n : Nat) (hn5 : n ≤ 5) (hn : μ 61 11 = nI n) (hbad : ¬ (vp_in x n ∧ vp_in on 8)) (h : Q (some (.int (-2))) μ τ) : Zc 2 yX11_go cX11_go 4 (some .int) [.ref 61, .int x, .int on] μ τ Q := by
  refine Zc.mk 1 [.ref 61, .int x, .int on, .null] rfl (by decide) (Nat.le_of_ble_eq_true rfl) ?_
  refine Zw_aload_0 dX11_go_0 ?_
  refine Zw_iload_1 dX11_go_1 ?_
  refine Zw_V1 (k := 1) lm_X11_86 dX11_go_2 (by decide) (by first | decide | assumption | omega) (by first | rfl | assumption) (by rfl) (Nat.le_of_ble_eq_true rfl) ?_
  refine s_isOne n hn5 hn (fun b1 => ?_) (fun b1 => ?_)
  · refine Zw_if_eq 15 dX11_go_5 (by decide) (fun c => absurd c (by decide)) (fun _ => ?_)
    refine Zw_iload_2 dX11_go_8 ?_
    refine Zw_S1 (k := 1) lm_X11_82 dX11_go_9 (by decide) (Nat.le_of_ble_eq_true rfl) ?_
    refine s_isPlace (fun b2 => ?_) (fun b2 => ?_)
    · refine Zw_if_ne 18 dX11_go_12 (by decide) (fun _ => ?_) (fun c => absurd c (by decide))
      exact absurd ⟨b1, b2⟩ hbad
    · refine Zw_if_ne 18 dX11_go_12 (by decide) (fun c => absurd c (by decide)) (fun _ => ?_)
      refine Zw_bipush (v := (-2)) dX11_go_15 (by decide) ?_
      refine Zw_ireturn dX11_go_17 (by first | rfl | assumption) ?_
      exact h
  · refine Zw_if_eq 15 dX11_go_5 (by decide) (fun _ => ?_) (fun c => absurd c (by decide))
    refine Zw_bipush (v := (-2)) dX11_go_15 (by decide) ?_
    refine Zw_ireturn dX11_go_17 (by first | rfl | assumption) ?_
    exact h
set_option maxRecDepth 20000 in
theorem s_mgoS {f p a : Nat} {Q : zQ} {μ : zMu} {τ : Int64} (n : Nat) (hn5 : n ≤ 5) (hn : μ 61 11 = nI n) (hf : f < n) (hp : p < 8) (ha : μ 68 (3 * f + 1) = nI a) (ha8 : a < 8) (hno : q_has (μ 66 a) p = false) (h : Q (some (.int (-3))) μ τ) : Zc 2 yX11_go cX11_go 4 (some .int) [.ref 61, .int (nI f), .int (nI p)] μ τ Q := by
  refine Zc.mk 1 [.ref 61, .int (nI f), .int (nI p), .null] rfl (by decide) (Nat.le_of_ble_eq_true rfl) ?_
  refine Zw_aload_0 dX11_go_0 ?_
  refine Zw_iload_1 dX11_go_1 ?_
  refine Zw_V1 (k := 1) lm_X11_86 dX11_go_2 (by decide) (by first | decide | assumption | omega) (by first | rfl | assumption) (by rfl) (Nat.le_of_ble_eq_true rfl) ?_
  refine s_isOne n hn5 hn (fun _ => ?_) (fun a0 => absurd (vp_in_nI hf (by omega)) a0)
  refine Zw_if_eq 15 dX11_go_5 (by decide) (fun c => absurd c (by decide)) (fun _ => ?_)
  refine Zw_iload_2 dX11_go_8 ?_
  refine Zw_S1 (k := 1) lm_X11_82 dX11_go_9 (by decide) (Nat.le_of_ble_eq_true rfl) ?_
  refine s_isPlace (fun _ => ?_) (fun a0 => absurd (vp_in_nI hp (by omega)) a0)
  refine Zw_if_ne 18 dX11_go_12 (by decide) (fun _ => ?_) (fun c => absurd c (by decide))
  refine Zw_aload_0 dX11_go_18 ?_
  refine Zw_getr 68 lf_X11_32 dX11_go_19 (by first | decide | assumption | omega) (by first | rfl | assumption) (by rfl) ?_
  refine Zw_iconst (v := 3) dX11_go_22 (by decide) ?_
  refine Zw_iload_1 dX11_go_23 ?_
  refine Zw_nmul (3) (f) dX11_go_24 rfl rfl ?_
  refine Zw_iconst (v := 1) dX11_go_25 (by decide) ?_
  refine Zw_nadd ((3 * f)) (1) dX11_go_26 rfl rfl ?_
  refine Zw_ialdnv (((3 * f) + 1)) (nI a) dX11_go_27 (by first | decide | assumption | omega) (by first | rfl | assumption) rfl (by omega) (by decide) ha ?_
  refine Zw_istore_3 dX11_go_28 rfl ?_
  refine Zw_aload_0 dX11_go_29 ?_
  refine Zw_getr 66 lf_X11_26 dX11_go_30 (by first | decide | assumption | omega) (by first | rfl | assumption) (by rfl) ?_
  refine Zw_iload_3 dX11_go_33 ?_
  refine Zw_ialdn (a) dX11_go_34 (by first | decide | assumption | omega) (by first | rfl | assumption) rfl (by omega) (by decide) ?_
  refine Zw_iload_2 dX11_go_35 ?_
  refine Zw_ishr dX11_go_36 ?_
  refine Zw_iconst (v := 1) dX11_go_37 (by decide) ?_
  refine Zw_iand dX11_go_38 ?_
  refine Zw_if_ne 45 dX11_go_39 (by decide) (fun c39 => absurd hno (by rw [q_has_of c39]; decide)) (fun c39 => ?_)
  refine Zw_bipush (v := (-3)) dX11_go_42 (by decide) ?_
  refine Zw_ireturn dX11_go_44 (by first | rfl | assumption) ?_
  exact h
set_option maxRecDepth 20000 in
theorem s_mgo {f p a : Nat} {Q : zQ} {μ : zMu} {τ : Int64} (n : Nat) (hn5 : n ≤ 5) (hn : μ 61 11 = nI n) (hf : f < n) (hp : p < 8) (ha : μ 68 (3 * f + 1) = nI a) (ha8 : a < 8) (hno : q_has (μ 66 a) p = true) (h : Q (some (.int (nI a))) (zup μ 68 (3 * f + 1) (nI p)) τ) : Zc 2 yX11_go cX11_go 4 (some .int) [.ref 61, .int (nI f), .int (nI p)] μ τ Q := by
  refine Zc.mk 1 [.ref 61, .int (nI f), .int (nI p), .null] rfl (by decide) (Nat.le_of_ble_eq_true rfl) ?_
  refine Zw_aload_0 dX11_go_0 ?_
  refine Zw_iload_1 dX11_go_1 ?_
  refine Zw_V1 (k := 1) lm_X11_86 dX11_go_2 (by decide) (by first | decide | assumption | omega) (by first | rfl | assumption) (by rfl) (Nat.le_of_ble_eq_true rfl) ?_
  refine s_isOne n hn5 hn (fun _ => ?_) (fun a0 => absurd (vp_in_nI hf (by omega)) a0)
  refine Zw_if_eq 15 dX11_go_5 (by decide) (fun c => absurd c (by decide)) (fun _ => ?_)
  refine Zw_iload_2 dX11_go_8 ?_
  refine Zw_S1 (k := 1) lm_X11_82 dX11_go_9 (by decide) (Nat.le_of_ble_eq_true rfl) ?_
  refine s_isPlace (fun _ => ?_) (fun a0 => absurd (vp_in_nI hp (by omega)) a0)
  refine Zw_if_ne 18 dX11_go_12 (by decide) (fun _ => ?_) (fun c => absurd c (by decide))
  refine Zw_aload_0 dX11_go_18 ?_
  refine Zw_getr 68 lf_X11_32 dX11_go_19 (by first | decide | assumption | omega) (by first | rfl | assumption) (by rfl) ?_
  refine Zw_iconst (v := 3) dX11_go_22 (by decide) ?_
  refine Zw_iload_1 dX11_go_23 ?_
  refine Zw_nmul (3) (f) dX11_go_24 rfl rfl ?_
  refine Zw_iconst (v := 1) dX11_go_25 (by decide) ?_
  refine Zw_nadd ((3 * f)) (1) dX11_go_26 rfl rfl ?_
  refine Zw_ialdnv (((3 * f) + 1)) (nI a) dX11_go_27 (by first | decide | assumption | omega) (by first | rfl | assumption) rfl (by omega) (by decide) ha ?_
  refine Zw_istore_3 dX11_go_28 rfl ?_
  refine Zw_aload_0 dX11_go_29 ?_
  refine Zw_getr 66 lf_X11_26 dX11_go_30 (by first | decide | assumption | omega) (by first | rfl | assumption) (by rfl) ?_
  refine Zw_iload_3 dX11_go_33 ?_
  refine Zw_ialdn (a) dX11_go_34 (by first | decide | assumption | omega) (by first | rfl | assumption) rfl (by omega) (by decide) ?_
  refine Zw_iload_2 dX11_go_35 ?_
  refine Zw_ishr dX11_go_36 ?_
  refine Zw_iconst (v := 1) dX11_go_37 (by decide) ?_
  refine Zw_iand dX11_go_38 ?_
  refine Zw_if_ne 45 dX11_go_39 (by decide) (fun c39 => ?_) (fun c39 => absurd hno (by rw [q_has_no c39]; decide))
  refine Zw_aload_0 dX11_go_45 ?_
  refine Zw_getr 68 lf_X11_32 dX11_go_46 (by first | decide | assumption | omega) (by first | rfl | assumption) (by rfl) ?_
  refine Zw_iconst (v := 3) dX11_go_49 (by decide) ?_
  refine Zw_iload_1 dX11_go_50 ?_
  refine Zw_nmul (3) (f) dX11_go_51 rfl rfl ?_
  refine Zw_iconst (v := 1) dX11_go_52 (by decide) ?_
  refine Zw_nadd ((3 * f)) (1) dX11_go_53 rfl rfl ?_
  refine Zw_iload_2 dX11_go_54 ?_
  refine Zw_iastn (((3 * f) + 1)) dX11_go_55 (by first | decide | assumption | omega) (by first | rfl | assumption) rfl (by omega) (by decide) ?_
  refine Zw_iload_3 dX11_go_56 ?_
  refine Zw_ireturn dX11_go_57 (by first | rfl | assumption) ?_
  exact h
set_option maxRecDepth 20000 in
theorem l_im3 {Q : zQ} {μ0 : zMu} {τ : Int64} (h : ∀ μ2, zOff [61, 71, 72, 73] μ0 μ2 → (∀ j, j < 4 → μ2 71 j = μ0 65 j) → (∀ j, j < 8 → μ2 72 j = μ0 66 j) → (∀ j, j < 15 → μ2 73 j = μ0 68 j) → μ2 61 34 = μ0 61 11 → μ2 61 35 = μ0 61 4 → (∀ s, s ≠ 34 → s ≠ 35 → μ2 61 s = μ0 61 s) → Q (some (.int (μ0 61 11))) μ2 τ) : ∀ m i μ, 15 - i < m → i ≤ 15 → zOff [71, 72, 73] μ0 μ → (∀ j, j < 4 → μ 71 j = μ0 65 j) → (∀ j, j < 8 → μ 72 j = μ0 66 j) → (∀ j, j < i → μ 73 j = μ0 68 j) → Zw 0 RX11 cX11_image 2 (some .int) Q 53 [.ref 61, .int (nI i)] [] μ τ
  | 0, i, _, hm, _, _, _, _, _ => absurd hm (by omega)
  | m + 1, i, μ, hm, hi, hO, g0, g1, hV => by
    refine Zw_iload_1 dX11_image_53 ?_
    refine Zw_bipush (v := 15) dX11_image_54 (by decide) ?_
    refine Zw_nicmp_ge (i) (15) 77 dX11_image_56 (by decide) rfl rfl (by omega) (by omega) (fun c56 => ?_) (fun c56 => ?_)
    · refine Zw_aload_0 dX11_image_77 ?_
      refine Zw_aload_0 dX11_image_78 ?_
      refine Zw_geti lf_X11_73 dX11_image_79 (by first | decide | assumption | omega) (by first | rfl | assumption) (by rfl) ?_
      refine Zw_put lp_X11_50 dX11_image_82 (by first | decide | assumption | omega) (by first | rfl | assumption) (by rfl) (by first | rfl | assumption) (by first | rfl | assumption) ?_
      refine Zw_aload_0 dX11_image_85 ?_
      refine Zw_aload_0 dX11_image_86 ?_
      refine Zw_geti lf_X11_107 dX11_image_87 (by first | decide | assumption | omega) (by first | rfl | assumption) (by rfl) ?_
      refine Zw_put lp_X11_410 dX11_image_90 (by first | decide | assumption | omega) (by first | rfl | assumption) (by rfl) (by first | rfl | assumption) (by first | rfl | assumption) ?_
      refine Zw_aload_0 dX11_image_93 ?_
      refine Zw_geti lf_X11_73 dX11_image_94 (by first | decide | assumption | omega) (by first | rfl | assumption) (by rfl) ?_
      refine Zw_ireturn dX11_image_97 (by first | rfl | assumption) ?_
      have e61 : μ 61 = μ0 61 := hO 61 (by simp)
      have hq := h (zup (zup μ 61 34 (μ 61 11)) 61 35 ((zup μ 61 34 (μ 61 11)) 61 4)) (((hO.sub (by simp)).up (by simp)).up (by simp)) (fun j hj => by rw [zup_ne (by decide), zup_ne (by decide)]; exact g0 j hj) (fun j hj => by rw [zup_ne (by decide), zup_ne (by decide)]; exact g1 j hj) (fun j hj => by rw [zup_ne (by decide), zup_ne (by decide)]; exact hV j (by omega)) (by simp [zup_at, e61]) (by simp [zup_at, e61]) (fun s h1 h2 => by simp [zup_at, h1, h2, e61])
      have e2 : (zup (zup μ 61 34 (μ 61 11)) 61 35 ((zup μ 61 34 (μ 61 11)) 61 4)) 61 11 = μ0 61 11 := by simp [zup_at, e61]
      rw [e2]
      exact hq
    · refine Zw_aload_0 dX11_image_59 ?_
      refine Zw_getr 73 lf_X11_47 dX11_image_60 (by first | decide | assumption | omega) (by first | rfl | assumption) (by rfl) ?_
      refine Zw_iload_1 dX11_image_63 ?_
      refine Zw_aload_0 dX11_image_64 ?_
      refine Zw_getr 68 lf_X11_32 dX11_image_65 (by first | decide | assumption | omega) (by first | rfl | assumption) (by rfl) ?_
      refine Zw_iload_1 dX11_image_68 ?_
      refine Zw_ialdnv (i) (μ0 68 i) dX11_image_69 (by first | decide | assumption | omega) (by first | rfl | assumption) rfl (by omega) (by decide) (by rw [hO 68 (by simp)]) ?_
      refine Zw_iastn (i) dX11_image_70 (by first | decide | assumption | omega) (by first | rfl | assumption) rfl (by omega) (by decide) ?_
      refine Zw_iinc_1 dX11_image_71 rfl (zincn _) ?_
      refine Zw_goto 53 dX11_image_74 (by decide) ?_
      exact l_im3 h m (i + 1) _ (by omega) (by omega) (hO.up (by simp)) (fun j hj => by rw [zup_ne (by decide)]; exact g0 j hj) (fun j hj => by rw [zup_ne (by decide)]; exact g1 j hj) (fun j hj => by rw [zup_at]; by_cases e : j = i <;> simp [e]; exact hV j (by omega))
set_option maxRecDepth 20000 in
theorem l_im2 {Q : zQ} {μ0 : zMu} {τ : Int64} (h : ∀ μ2, zOff [61, 71, 72, 73] μ0 μ2 → (∀ j, j < 4 → μ2 71 j = μ0 65 j) → (∀ j, j < 8 → μ2 72 j = μ0 66 j) → (∀ j, j < 15 → μ2 73 j = μ0 68 j) → μ2 61 34 = μ0 61 11 → μ2 61 35 = μ0 61 4 → (∀ s, s ≠ 34 → s ≠ 35 → μ2 61 s = μ0 61 s) → Q (some (.int (μ0 61 11))) μ2 τ) : ∀ m i μ, 8 - i < m → i ≤ 8 → zOff [71, 72] μ0 μ → (∀ j, j < 4 → μ 71 j = μ0 65 j) → (∀ j, j < i → μ 72 j = μ0 66 j) → Zw 0 RX11 cX11_image 2 (some .int) Q 27 [.ref 61, .int (nI i)] [] μ τ
  | 0, i, _, hm, _, _, _, _ => absurd hm (by omega)
  | m + 1, i, μ, hm, hi, hO, g0, hV => by
    refine Zw_iload_1 dX11_image_27 ?_
    refine Zw_bipush (v := 8) dX11_image_28 (by decide) ?_
    refine Zw_nicmp_ge (i) (8) 51 dX11_image_30 (by decide) rfl rfl (by omega) (by omega) (fun c30 => ?_) (fun c30 => ?_)
    · refine Zw_iconst (v := 0) dX11_image_51 (by decide) ?_
      refine Zw_istore_1 dX11_image_52 rfl ?_
      refine Zw_drop (L' := [.ref 61, .int (nI 0)]) ⟨Or.inr rfl, Or.inr rfl, trivial⟩ (Nat.le_of_ble_eq_true rfl) ?_
      exact l_im3 h 16 0 _ (by omega) (by omega) (hO.sub (by simp)) g0 (fun j hj => hV j (by omega)) (fun j hj => absurd hj (by omega))
    · refine Zw_aload_0 dX11_image_33 ?_
      refine Zw_getr 72 lf_X11_44 dX11_image_34 (by first | decide | assumption | omega) (by first | rfl | assumption) (by rfl) ?_
      refine Zw_iload_1 dX11_image_37 ?_
      refine Zw_aload_0 dX11_image_38 ?_
      refine Zw_getr 66 lf_X11_26 dX11_image_39 (by first | decide | assumption | omega) (by first | rfl | assumption) (by rfl) ?_
      refine Zw_iload_1 dX11_image_42 ?_
      refine Zw_ialdnv (i) (μ0 66 i) dX11_image_43 (by first | decide | assumption | omega) (by first | rfl | assumption) rfl (by omega) (by decide) (by rw [hO 66 (by simp)]) ?_
      refine Zw_iastn (i) dX11_image_44 (by first | decide | assumption | omega) (by first | rfl | assumption) rfl (by omega) (by decide) ?_
      refine Zw_iinc_1 dX11_image_45 rfl (zincn _) ?_
      refine Zw_goto 27 dX11_image_48 (by decide) ?_
      exact l_im2 h m (i + 1) _ (by omega) (by omega) (hO.up (by simp)) (fun j hj => by rw [zup_ne (by decide)]; exact g0 j hj) (fun j hj => by rw [zup_at]; by_cases e : j = i <;> simp [e]; exact hV j (by omega))
set_option maxRecDepth 20000 in
theorem l_im1 {Q : zQ} {μ0 : zMu} {τ : Int64} (h : ∀ μ2, zOff [61, 71, 72, 73] μ0 μ2 → (∀ j, j < 4 → μ2 71 j = μ0 65 j) → (∀ j, j < 8 → μ2 72 j = μ0 66 j) → (∀ j, j < 15 → μ2 73 j = μ0 68 j) → μ2 61 34 = μ0 61 11 → μ2 61 35 = μ0 61 4 → (∀ s, s ≠ 34 → s ≠ 35 → μ2 61 s = μ0 61 s) → Q (some (.int (μ0 61 11))) μ2 τ) : ∀ m i μ, 4 - i < m → i ≤ 4 → zOff [71] μ0 μ → (∀ j, j < i → μ 71 j = μ0 65 j) → Zw 0 RX11 cX11_image 2 (some .int) Q 2 [.ref 61, .int (nI i)] [] μ τ
  | 0, i, _, hm, _, _, _ => absurd hm (by omega)
  | m + 1, i, μ, hm, hi, hO, hV => by
    refine Zw_iload_1 dX11_image_2 ?_
    refine Zw_iconst (v := 4) dX11_image_3 (by decide) ?_
    refine Zw_nicmp_ge (i) (4) 25 dX11_image_4 (by decide) rfl rfl (by omega) (by omega) (fun c4 => ?_) (fun c4 => ?_)
    · refine Zw_iconst (v := 0) dX11_image_25 (by decide) ?_
      refine Zw_istore_1 dX11_image_26 rfl ?_
      refine Zw_drop (L' := [.ref 61, .int (nI 0)]) ⟨Or.inr rfl, Or.inr rfl, trivial⟩ (Nat.le_of_ble_eq_true rfl) ?_
      exact l_im2 h 9 0 _ (by omega) (by omega) (hO.sub (by simp)) (fun j hj => hV j (by omega)) (fun j hj => absurd hj (by omega))
    · refine Zw_aload_0 dX11_image_7 ?_
      refine Zw_getr 71 lf_X11_41 dX11_image_8 (by first | decide | assumption | omega) (by first | rfl | assumption) (by rfl) ?_
      refine Zw_iload_1 dX11_image_11 ?_
      refine Zw_aload_0 dX11_image_12 ?_
      refine Zw_getr 65 lf_X11_23 dX11_image_13 (by first | decide | assumption | omega) (by first | rfl | assumption) (by rfl) ?_
      refine Zw_iload_1 dX11_image_16 ?_
      refine Zw_ialdnv (i) (μ0 65 i) dX11_image_17 (by first | decide | assumption | omega) (by first | rfl | assumption) rfl (by omega) (by decide) (by rw [hO 65 (by simp)]) ?_
      refine Zw_iastn (i) dX11_image_18 (by first | decide | assumption | omega) (by first | rfl | assumption) rfl (by omega) (by decide) ?_
      refine Zw_iinc_1 dX11_image_19 rfl (zincn _) ?_
      refine Zw_goto 2 dX11_image_22 (by decide) ?_
      exact l_im1 h m (i + 1) _ (by omega) (by omega) (hO.up (by simp)) (fun j hj => by rw [zup_at]; by_cases e : j = i <;> simp [e]; exact hV j (by omega))
set_option maxRecDepth 20000 in
theorem s_mimage {Q : zQ} {μ : zMu} {τ : Int64} (h : ∀ μ2, zOff [61, 71, 72, 73] μ μ2 → (∀ j, j < 4 → μ2 71 j = μ 65 j) → (∀ j, j < 8 → μ2 72 j = μ 66 j) → (∀ j, j < 15 → μ2 73 j = μ 68 j) → μ2 61 34 = μ 61 11 → μ2 61 35 = μ 61 4 → (∀ s, s ≠ 34 → s ≠ 35 → μ2 61 s = μ 61 s) → Q (some (.int (μ 61 11))) μ2 τ) : Zc 0 yX11_image cX11_image 2 (some .int) [.ref 61] μ τ Q := by
  refine Zc.mk 1 [.ref 61, .null] rfl (by decide) (Nat.le_of_ble_eq_true rfl) ?_
  refine Zw_iconst (v := 0) dX11_image_0 (by decide) ?_
  refine Zw_istore_1 dX11_image_1 rfl ?_
  exact l_im1 h 5 0 _ (by omega) (by omega) zOff.rf (fun j hj => absurd hj (by omega))
set_option maxRecDepth 20000 in
theorem l_bk3 {Q : zQ} {μ0 : zMu} {τ : Int64} (h : ∀ μ2, zOff [61, 65, 66, 68] μ0 μ2 → (∀ j, j < 4 → μ2 65 j = μ0 71 j) → (∀ j, j < 8 → μ2 66 j = μ0 72 j) → (∀ j, j < 15 → μ2 68 j = μ0 73 j) → μ2 61 11 = μ0 61 34 → μ2 61 4 = μ0 61 35 → (∀ s, s ≠ 11 → s ≠ 4 → μ2 61 s = μ0 61 s) → Q (some (.int (μ0 61 34))) μ2 τ) : ∀ m i μ, 15 - i < m → i ≤ 15 → zOff [65, 66, 68] μ0 μ → (∀ j, j < 4 → μ 65 j = μ0 71 j) → (∀ j, j < 8 → μ 66 j = μ0 72 j) → (∀ j, j < i → μ 68 j = μ0 73 j) → Zw 0 RX11 cX11_back 2 (some .int) Q 64 [.ref 61, .int (nI i)] [] μ τ
  | 0, i, _, hm, _, _, _, _, _ => absurd hm (by omega)
  | m + 1, i, μ, hm, hi, hO, g0, g1, hV => by
    refine Zw_iload_1 dX11_back_64 ?_
    refine Zw_bipush (v := 15) dX11_back_65 (by decide) ?_
    refine Zw_nicmp_ge (i) (15) 88 dX11_back_67 (by decide) rfl rfl (by omega) (by omega) (fun c67 => ?_) (fun c67 => ?_)
    · refine Zw_aload_0 dX11_back_88 ?_
      refine Zw_aload_0 dX11_back_89 ?_
      refine Zw_geti lf_X11_50 dX11_back_90 (by first | decide | assumption | omega) (by first | rfl | assumption) (by rfl) ?_
      refine Zw_put lp_X11_73 dX11_back_93 (by first | decide | assumption | omega) (by first | rfl | assumption) (by rfl) (by first | rfl | assumption) (by first | rfl | assumption) ?_
      refine Zw_aload_0 dX11_back_96 ?_
      refine Zw_aload_0 dX11_back_97 ?_
      refine Zw_geti lf_X11_410 dX11_back_98 (by first | decide | assumption | omega) (by first | rfl | assumption) (by rfl) ?_
      refine Zw_put lp_X11_107 dX11_back_101 (by first | decide | assumption | omega) (by first | rfl | assumption) (by rfl) (by first | rfl | assumption) (by first | rfl | assumption) ?_
      refine Zw_aload_0 dX11_back_104 ?_
      refine Zw_geti lf_X11_73 dX11_back_105 (by first | decide | assumption | omega) (by first | rfl | assumption) (by rfl) ?_
      refine Zw_ireturn dX11_back_108 (by first | rfl | assumption) ?_
      have e61 : μ 61 = μ0 61 := hO 61 (by simp)
      have hq := h (zup (zup μ 61 11 (μ 61 34)) 61 4 ((zup μ 61 11 (μ 61 34)) 61 35)) (((hO.sub (by simp)).up (by simp)).up (by simp)) (fun j hj => by rw [zup_ne (by decide), zup_ne (by decide)]; exact g0 j hj) (fun j hj => by rw [zup_ne (by decide), zup_ne (by decide)]; exact g1 j hj) (fun j hj => by rw [zup_ne (by decide), zup_ne (by decide)]; exact hV j (by omega)) (by simp [zup_at, e61]) (by simp [zup_at, e61]) (fun s h1 h2 => by simp [zup_at, h1, h2, e61])
      have e2 : (zup (zup μ 61 11 (μ 61 34)) 61 4 ((zup μ 61 11 (μ 61 34)) 61 35)) 61 11 = μ0 61 34 := by simp [zup_at, e61]
      rw [e2]
      exact hq
    · refine Zw_aload_0 dX11_back_70 ?_
      refine Zw_getr 68 lf_X11_32 dX11_back_71 (by first | decide | assumption | omega) (by first | rfl | assumption) (by rfl) ?_
      refine Zw_iload_1 dX11_back_74 ?_
      refine Zw_aload_0 dX11_back_75 ?_
      refine Zw_getr 73 lf_X11_47 dX11_back_76 (by first | decide | assumption | omega) (by first | rfl | assumption) (by rfl) ?_
      refine Zw_iload_1 dX11_back_79 ?_
      refine Zw_ialdnv (i) (μ0 73 i) dX11_back_80 (by first | decide | assumption | omega) (by first | rfl | assumption) rfl (by omega) (by decide) (by rw [hO 73 (by simp)]) ?_
      refine Zw_iastn (i) dX11_back_81 (by first | decide | assumption | omega) (by first | rfl | assumption) rfl (by omega) (by decide) ?_
      refine Zw_iinc_1 dX11_back_82 rfl (zincn _) ?_
      refine Zw_goto 64 dX11_back_85 (by decide) ?_
      exact l_bk3 h m (i + 1) _ (by omega) (by omega) (hO.up (by simp)) (fun j hj => by rw [zup_ne (by decide)]; exact g0 j hj) (fun j hj => by rw [zup_ne (by decide)]; exact g1 j hj) (fun j hj => by rw [zup_at]; by_cases e : j = i <;> simp [e]; exact hV j (by omega))
set_option maxRecDepth 20000 in
theorem l_bk2 {Q : zQ} {μ0 : zMu} {τ : Int64} (h : ∀ μ2, zOff [61, 65, 66, 68] μ0 μ2 → (∀ j, j < 4 → μ2 65 j = μ0 71 j) → (∀ j, j < 8 → μ2 66 j = μ0 72 j) → (∀ j, j < 15 → μ2 68 j = μ0 73 j) → μ2 61 11 = μ0 61 34 → μ2 61 4 = μ0 61 35 → (∀ s, s ≠ 11 → s ≠ 4 → μ2 61 s = μ0 61 s) → Q (some (.int (μ0 61 34))) μ2 τ) : ∀ m i μ, 8 - i < m → i ≤ 8 → zOff [65, 66] μ0 μ → (∀ j, j < 4 → μ 65 j = μ0 71 j) → (∀ j, j < i → μ 66 j = μ0 72 j) → Zw 0 RX11 cX11_back 2 (some .int) Q 38 [.ref 61, .int (nI i)] [] μ τ
  | 0, i, _, hm, _, _, _, _ => absurd hm (by omega)
  | m + 1, i, μ, hm, hi, hO, g0, hV => by
    refine Zw_iload_1 dX11_back_38 ?_
    refine Zw_bipush (v := 8) dX11_back_39 (by decide) ?_
    refine Zw_nicmp_ge (i) (8) 62 dX11_back_41 (by decide) rfl rfl (by omega) (by omega) (fun c41 => ?_) (fun c41 => ?_)
    · refine Zw_iconst (v := 0) dX11_back_62 (by decide) ?_
      refine Zw_istore_1 dX11_back_63 rfl ?_
      refine Zw_drop (L' := [.ref 61, .int (nI 0)]) ⟨Or.inr rfl, Or.inr rfl, trivial⟩ (Nat.le_of_ble_eq_true rfl) ?_
      exact l_bk3 h 16 0 _ (by omega) (by omega) (hO.sub (by simp)) g0 (fun j hj => hV j (by omega)) (fun j hj => absurd hj (by omega))
    · refine Zw_aload_0 dX11_back_44 ?_
      refine Zw_getr 66 lf_X11_26 dX11_back_45 (by first | decide | assumption | omega) (by first | rfl | assumption) (by rfl) ?_
      refine Zw_iload_1 dX11_back_48 ?_
      refine Zw_aload_0 dX11_back_49 ?_
      refine Zw_getr 72 lf_X11_44 dX11_back_50 (by first | decide | assumption | omega) (by first | rfl | assumption) (by rfl) ?_
      refine Zw_iload_1 dX11_back_53 ?_
      refine Zw_ialdnv (i) (μ0 72 i) dX11_back_54 (by first | decide | assumption | omega) (by first | rfl | assumption) rfl (by omega) (by decide) (by rw [hO 72 (by simp)]) ?_
      refine Zw_iastn (i) dX11_back_55 (by first | decide | assumption | omega) (by first | rfl | assumption) rfl (by omega) (by decide) ?_
      refine Zw_iinc_1 dX11_back_56 rfl (zincn _) ?_
      refine Zw_goto 38 dX11_back_59 (by decide) ?_
      exact l_bk2 h m (i + 1) _ (by omega) (by omega) (hO.up (by simp)) (fun j hj => by rw [zup_ne (by decide)]; exact g0 j hj) (fun j hj => by rw [zup_at]; by_cases e : j = i <;> simp [e]; exact hV j (by omega))
set_option maxRecDepth 20000 in
theorem l_bk1 {Q : zQ} {μ0 : zMu} {τ : Int64} (h : ∀ μ2, zOff [61, 65, 66, 68] μ0 μ2 → (∀ j, j < 4 → μ2 65 j = μ0 71 j) → (∀ j, j < 8 → μ2 66 j = μ0 72 j) → (∀ j, j < 15 → μ2 68 j = μ0 73 j) → μ2 61 11 = μ0 61 34 → μ2 61 4 = μ0 61 35 → (∀ s, s ≠ 11 → s ≠ 4 → μ2 61 s = μ0 61 s) → Q (some (.int (μ0 61 34))) μ2 τ) : ∀ m i μ, 4 - i < m → i ≤ 4 → zOff [65] μ0 μ → (∀ j, j < i → μ 65 j = μ0 71 j) → Zw 0 RX11 cX11_back 2 (some .int) Q 13 [.ref 61, .int (nI i)] [] μ τ
  | 0, i, _, hm, _, _, _ => absurd hm (by omega)
  | m + 1, i, μ, hm, hi, hO, hV => by
    refine Zw_iload_1 dX11_back_13 ?_
    refine Zw_iconst (v := 4) dX11_back_14 (by decide) ?_
    refine Zw_nicmp_ge (i) (4) 36 dX11_back_15 (by decide) rfl rfl (by omega) (by omega) (fun c15 => ?_) (fun c15 => ?_)
    · refine Zw_iconst (v := 0) dX11_back_36 (by decide) ?_
      refine Zw_istore_1 dX11_back_37 rfl ?_
      refine Zw_drop (L' := [.ref 61, .int (nI 0)]) ⟨Or.inr rfl, Or.inr rfl, trivial⟩ (Nat.le_of_ble_eq_true rfl) ?_
      exact l_bk2 h 9 0 _ (by omega) (by omega) (hO.sub (by simp)) (fun j hj => hV j (by omega)) (fun j hj => absurd hj (by omega))
    · refine Zw_aload_0 dX11_back_18 ?_
      refine Zw_getr 65 lf_X11_23 dX11_back_19 (by first | decide | assumption | omega) (by first | rfl | assumption) (by rfl) ?_
      refine Zw_iload_1 dX11_back_22 ?_
      refine Zw_aload_0 dX11_back_23 ?_
      refine Zw_getr 71 lf_X11_41 dX11_back_24 (by first | decide | assumption | omega) (by first | rfl | assumption) (by rfl) ?_
      refine Zw_iload_1 dX11_back_27 ?_
      refine Zw_ialdnv (i) (μ0 71 i) dX11_back_28 (by first | decide | assumption | omega) (by first | rfl | assumption) rfl (by omega) (by decide) (by rw [hO 71 (by simp)]) ?_
      refine Zw_iastn (i) dX11_back_29 (by first | decide | assumption | omega) (by first | rfl | assumption) rfl (by omega) (by decide) ?_
      refine Zw_iinc_1 dX11_back_30 rfl (zincn _) ?_
      refine Zw_goto 13 dX11_back_33 (by decide) ?_
      exact l_bk1 h m (i + 1) _ (by omega) (by omega) (hO.up (by simp)) (fun j hj => by rw [zup_at]; by_cases e : j = i <;> simp [e]; exact hV j (by omega))
set_option maxRecDepth 20000 in
theorem s_mbackS {Q : zQ} {μ : zMu} {τ : Int64} (hk : μ 61 34 = -1) (h : Q (some (.int (-3))) μ τ) : Zc 0 yX11_back cX11_back 2 (some .int) [.ref 61] μ τ Q := by
  refine Zc.mk 1 [.ref 61, .null] rfl (by decide) (Nat.le_of_ble_eq_true rfl) ?_
  refine Zw_aload_0 dX11_back_0 ?_
  refine Zw_getv (-1) lf_X11_50 dX11_back_1 (by first | decide | assumption | omega) (by first | rfl | assumption) (by rfl) hk ?_
  refine Zw_iconst (v := (-1)) dX11_back_4 (by decide) ?_
  refine Zw_icmp_ne 11 dX11_back_5 (by decide) (fun c => absurd c (by decide)) (fun _ => ?_)
  refine Zw_bipush (v := (-3)) dX11_back_8 (by decide) ?_
  refine Zw_ireturn dX11_back_10 (by first | rfl | assumption) ?_
  exact h
set_option maxRecDepth 20000 in
theorem s_mback {Q : zQ} {μ : zMu} {τ : Int64} (hk : ¬ μ 61 34 = -1) (h : ∀ μ2, zOff [61, 65, 66, 68] μ μ2 → (∀ j, j < 4 → μ2 65 j = μ 71 j) → (∀ j, j < 8 → μ2 66 j = μ 72 j) → (∀ j, j < 15 → μ2 68 j = μ 73 j) → μ2 61 11 = μ 61 34 → μ2 61 4 = μ 61 35 → (∀ s, s ≠ 11 → s ≠ 4 → μ2 61 s = μ 61 s) → Q (some (.int (μ 61 34))) μ2 τ) : Zc 0 yX11_back cX11_back 2 (some .int) [.ref 61] μ τ Q := by
  refine Zc.mk 1 [.ref 61, .null] rfl (by decide) (Nat.le_of_ble_eq_true rfl) ?_
  refine Zw_aload_0 dX11_back_0 ?_
  refine Zw_geti lf_X11_50 dX11_back_1 (by first | decide | assumption | omega) (by first | rfl | assumption) (by rfl) ?_
  refine Zw_iconst (v := (-1)) dX11_back_4 (by decide) ?_
  refine Zw_icmp_ne 11 dX11_back_5 (by decide) (fun c5 => ?_) (fun c5 => absurd c5 hk)
  refine Zw_iconst (v := 0) dX11_back_11 (by decide) ?_
  refine Zw_istore_1 dX11_back_12 rfl ?_
  exact l_bk1 h 5 0 _ (by omega) (by omega) zOff.rf (fun j hj => absurd hj (by omega))
set_option maxRecDepth 20000 in
theorem s_mcountB {x : Int32} {Q : zQ} {μ : zMu} {τ : Int64} (hbad : ¬ vp_in x 6) (h : Q (some (.int (-2))) μ τ) : Zc 1 yX11_count cX11_count 4 (some .int) [.ref 61, .int x] μ τ Q := by
  refine Zc.mk 2 [.ref 61, .int x, .null, .null] rfl (by decide) (Nat.le_of_ble_eq_true rfl) ?_
  refine Zw_iload_1 dX11_count_0 ?_
  refine Zw_i2l dX11_count_1 ?_
  refine Zw_lconst (v := 0) dX11_count_2 (by decide) ?_
  refine Zw_ldc2 dX11_count_3 zw28 ?_
  refine Zw_S3 (k := 0) lm_X11_76 dX11_count_6 (by decide) (Nat.le_of_ble_eq_true rfl) ?_
  refine s_in0 6 (by decide) (fun a1 => absurd a1 hbad) (fun _ => ?_)
  refine Zw_if_ne 15 dX11_count_9 (by decide) (fun c => absurd c (by decide)) (fun _ => ?_)
  refine Zw_bipush (v := (-2)) dX11_count_12 (by decide) ?_
  refine Zw_ireturn dX11_count_14 (by first | rfl | assumption) ?_
  exact h
set_option maxRecDepth 20000 in
theorem s_mcount3 {Q : zQ} {μ : zMu} {τ : Int64} (h : Q (some (.int (μ 61 3))) μ τ) : Zc 1 yX11_count cX11_count 4 (some .int) [.ref 61, .int 3] μ τ Q := by
  refine Zc.mk 2 [.ref 61, .int 3, .null, .null] rfl (by decide) (Nat.le_of_ble_eq_true rfl) ?_
  refine Zw_iload_1 dX11_count_0 ?_
  refine Zw_i2l dX11_count_1 ?_
  refine Zw_lconst (v := 0) dX11_count_2 (by decide) ?_
  refine Zw_ldc2 dX11_count_3 zw28 ?_
  refine Zw_S3 (k := 0) lm_X11_76 dX11_count_6 (by decide) (Nat.le_of_ble_eq_true rfl) ?_
  refine s_in0 6 (by decide) (fun _ => ?_) (fun a0 => absurd (by unfold vp_in; decide) a0)
  refine Zw_if_ne 15 dX11_count_9 (by decide) (fun _ => ?_) (fun c => absurd c (by decide))
  refine Zw_iload_1 dX11_count_15 ?_
  refine Zw_iconst (v := 2) dX11_count_16 (by decide) ?_
  refine Zw_icmp_le 49 dX11_count_17 (by decide) (fun c => absurd c (by decide)) (fun _ => ?_)
  refine Zw_iload_1 dX11_count_20 ?_
  refine Zw_iconst (v := 3) dX11_count_21 (by decide) ?_
  refine Zw_icmp_ne 32 dX11_count_22 (by decide) (fun c => absurd c (by decide)) (fun _ => ?_)
  refine Zw_aload_0 dX11_count_25 ?_
  refine Zw_geti lf_X11_70 dX11_count_26 (by first | decide | assumption | omega) (by first | rfl | assumption) (by rfl) ?_
  refine Zw_goto 48 dX11_count_29 (by decide) ?_
  refine Zw_ireturn dX11_count_48 (by first | rfl | assumption) ?_
  exact h
set_option maxRecDepth 20000 in
theorem s_mcount4 {Q : zQ} {μ : zMu} {τ : Int64} (h : Q (some (.int (μ 61 6))) μ τ) : Zc 1 yX11_count cX11_count 4 (some .int) [.ref 61, .int 4] μ τ Q := by
  refine Zc.mk 2 [.ref 61, .int 4, .null, .null] rfl (by decide) (Nat.le_of_ble_eq_true rfl) ?_
  refine Zw_iload_1 dX11_count_0 ?_
  refine Zw_i2l dX11_count_1 ?_
  refine Zw_lconst (v := 0) dX11_count_2 (by decide) ?_
  refine Zw_ldc2 dX11_count_3 zw28 ?_
  refine Zw_S3 (k := 0) lm_X11_76 dX11_count_6 (by decide) (Nat.le_of_ble_eq_true rfl) ?_
  refine s_in0 6 (by decide) (fun _ => ?_) (fun a0 => absurd (by unfold vp_in; decide) a0)
  refine Zw_if_ne 15 dX11_count_9 (by decide) (fun _ => ?_) (fun c => absurd c (by decide))
  refine Zw_iload_1 dX11_count_15 ?_
  refine Zw_iconst (v := 2) dX11_count_16 (by decide) ?_
  refine Zw_icmp_le 49 dX11_count_17 (by decide) (fun c => absurd c (by decide)) (fun _ => ?_)
  refine Zw_iload_1 dX11_count_20 ?_
  refine Zw_iconst (v := 3) dX11_count_21 (by decide) ?_
  refine Zw_icmp_ne 32 dX11_count_22 (by decide) (fun _ => ?_) (fun c => absurd c (by decide))
  refine Zw_iload_1 dX11_count_32 ?_
  refine Zw_iconst (v := 4) dX11_count_33 (by decide) ?_
  refine Zw_icmp_ne 44 dX11_count_34 (by decide) (fun c => absurd c (by decide)) (fun _ => ?_)
  refine Zw_aload_0 dX11_count_37 ?_
  refine Zw_geti lf_X11_125 dX11_count_38 (by first | decide | assumption | omega) (by first | rfl | assumption) (by rfl) ?_
  refine Zw_goto 48 dX11_count_41 (by decide) ?_
  refine Zw_ireturn dX11_count_48 (by first | rfl | assumption) ?_
  exact h
set_option maxRecDepth 20000 in
theorem s_mcount5 {Q : zQ} {μ : zMu} {τ : Int64} (h : Q (some (.int (μ 61 4))) μ τ) : Zc 1 yX11_count cX11_count 4 (some .int) [.ref 61, .int 5] μ τ Q := by
  refine Zc.mk 2 [.ref 61, .int 5, .null, .null] rfl (by decide) (Nat.le_of_ble_eq_true rfl) ?_
  refine Zw_iload_1 dX11_count_0 ?_
  refine Zw_i2l dX11_count_1 ?_
  refine Zw_lconst (v := 0) dX11_count_2 (by decide) ?_
  refine Zw_ldc2 dX11_count_3 zw28 ?_
  refine Zw_S3 (k := 0) lm_X11_76 dX11_count_6 (by decide) (Nat.le_of_ble_eq_true rfl) ?_
  refine s_in0 6 (by decide) (fun _ => ?_) (fun a0 => absurd (by unfold vp_in; decide) a0)
  refine Zw_if_ne 15 dX11_count_9 (by decide) (fun _ => ?_) (fun c => absurd c (by decide))
  refine Zw_iload_1 dX11_count_15 ?_
  refine Zw_iconst (v := 2) dX11_count_16 (by decide) ?_
  refine Zw_icmp_le 49 dX11_count_17 (by decide) (fun c => absurd c (by decide)) (fun _ => ?_)
  refine Zw_iload_1 dX11_count_20 ?_
  refine Zw_iconst (v := 3) dX11_count_21 (by decide) ?_
  refine Zw_icmp_ne 32 dX11_count_22 (by decide) (fun _ => ?_) (fun c => absurd c (by decide))
  refine Zw_iload_1 dX11_count_32 ?_
  refine Zw_iconst (v := 4) dX11_count_33 (by decide) ?_
  refine Zw_icmp_ne 44 dX11_count_34 (by decide) (fun _ => ?_) (fun c => absurd c (by decide))
  refine Zw_aload_0 dX11_count_44 ?_
  refine Zw_geti lf_X11_107 dX11_count_45 (by first | decide | assumption | omega) (by first | rfl | assumption) (by rfl) ?_
  refine Zw_ireturn dX11_count_48 (by first | rfl | assumption) ?_
  exact h
set_option maxRecDepth 20000 in
theorem l_mcount0 {Q : zQ} {μ : zMu} {τ : Int64} (hl : ∀ p, p < 8 → r8 (μ 66 p)) (ht : r8 (μ 65 3)) (h : Q (some (.int (μ 61 11))) μ τ) : ∀ m i, 8 - i < m → i ≤ 8 → Zw 1 RX11 cX11_count 4 (some .int) Q 53 [.ref 61, .int 0, .int (q_sum (fun p => q_bc (μ 66 p)) i), .int (nI i)] [] μ τ
  | 0, i, hm, _ => absurd hm (by omega)
  | m + 1, i, hm, hi => by
    refine Zw_iload_3 dX11_count_53 ?_
    refine Zw_bipush (v := 8) dX11_count_54 (by decide) ?_
    refine Zw_nicmp_ge (i) (8) 77 dX11_count_56 (by decide) rfl rfl (by omega) (by omega) (fun c56 => ?_) (fun c56 => ?_)
    · refine Zw_iload_1 dX11_count_77 ?_
      refine Zw_if_ne 88 dX11_count_78 (by decide) (fun c => absurd c (by decide)) (fun _ => ?_)
      refine Zw_aload_0 dX11_count_81 ?_
      refine Zw_geti lf_X11_73 dX11_count_82 (by first | decide | assumption | omega) (by first | rfl | assumption) (by rfl) ?_
      refine Zw_goto 108 dX11_count_85 (by decide) ?_
      refine Zw_ireturn dX11_count_108 (by first | rfl | assumption) ?_
      obtain rfl : i = 8 := by omega
      exact h
    · refine Zw_iload_2 dX11_count_59 ?_
      refine Zw_aload_0 dX11_count_60 ?_
      refine Zw_getr 66 lf_X11_26 dX11_count_61 (by first | decide | assumption | omega) (by first | rfl | assumption) (by rfl) ?_
      refine Zw_iload_3 dX11_count_64 ?_
      refine Zw_ialdn (i) dX11_count_65 (by first | decide | assumption | omega) (by first | rfl | assumption) rfl (by omega) (by decide) ?_
      refine Zw_S1 (k := 0) lm_X11_329 dX11_count_66 (by decide) (Nat.le_of_ble_eq_true rfl) ?_
      refine s_bits (hl i c56) ?_
      refine Zw_iadd dX11_count_69 ?_
      refine Zw_istore_2 dX11_count_70 rfl ?_
      refine Zw_iinc_3 dX11_count_71 rfl (zincn _) ?_
      refine Zw_goto 53 dX11_count_74 (by decide) ?_
      exact l_mcount0 hl ht h m (i + 1) (by omega) (by omega)
set_option maxRecDepth 20000 in
theorem s_mcount0 {Q : zQ} {μ : zMu} {τ : Int64} (hl : ∀ p, p < 8 → r8 (μ 66 p)) (ht : r8 (μ 65 3)) (h : Q (some (.int (μ 61 11))) μ τ) : Zc 1 yX11_count cX11_count 4 (some .int) [.ref 61, .int 0] μ τ Q := by
  refine Zc.mk 2 [.ref 61, .int 0, .null, .null] rfl (by decide) (Nat.le_of_ble_eq_true rfl) ?_
  refine Zw_iload_1 dX11_count_0 ?_
  refine Zw_i2l dX11_count_1 ?_
  refine Zw_lconst (v := 0) dX11_count_2 (by decide) ?_
  refine Zw_ldc2 dX11_count_3 zw28 ?_
  refine Zw_S3 (k := 0) lm_X11_76 dX11_count_6 (by decide) (Nat.le_of_ble_eq_true rfl) ?_
  refine s_in0 6 (by decide) (fun _ => ?_) (fun a0 => absurd (by unfold vp_in; decide) a0)
  refine Zw_if_ne 15 dX11_count_9 (by decide) (fun _ => ?_) (fun c => absurd c (by decide))
  refine Zw_iload_1 dX11_count_15 ?_
  refine Zw_iconst (v := 2) dX11_count_16 (by decide) ?_
  refine Zw_icmp_le 49 dX11_count_17 (by decide) (fun _ => ?_) (fun c => absurd c (by decide))
  refine Zw_iconst (v := 0) dX11_count_49 (by decide) ?_
  refine Zw_istore_2 dX11_count_50 rfl ?_
  refine Zw_iconst (v := 0) dX11_count_51 (by decide) ?_
  refine Zw_istore_3 dX11_count_52 rfl ?_
  exact l_mcount0 hl ht h 9 0 (by omega) (by omega)
set_option maxRecDepth 20000 in
theorem l_mcount1 {Q : zQ} {μ : zMu} {τ : Int64} (hl : ∀ p, p < 8 → r8 (μ 66 p)) (ht : r8 (μ 65 3)) (h : Q (some (.int (q_sum (fun p => q_bc (μ 66 p)) 8 / 2))) μ τ) : ∀ m i, 8 - i < m → i ≤ 8 → Zw 1 RX11 cX11_count 4 (some .int) Q 53 [.ref 61, .int 1, .int (q_sum (fun p => q_bc (μ 66 p)) i), .int (nI i)] [] μ τ
  | 0, i, hm, _ => absurd hm (by omega)
  | m + 1, i, hm, hi => by
    refine Zw_iload_3 dX11_count_53 ?_
    refine Zw_bipush (v := 8) dX11_count_54 (by decide) ?_
    refine Zw_nicmp_ge (i) (8) 77 dX11_count_56 (by decide) rfl rfl (by omega) (by omega) (fun c56 => ?_) (fun c56 => ?_)
    · refine Zw_iload_1 dX11_count_77 ?_
      refine Zw_if_ne 88 dX11_count_78 (by decide) (fun _ => ?_) (fun c => absurd c (by decide))
      refine Zw_iload_1 dX11_count_88 ?_
      refine Zw_iconst (v := 1) dX11_count_89 (by decide) ?_
      refine Zw_icmp_ne 99 dX11_count_90 (by decide) (fun c => absurd c (by decide)) (fun _ => ?_)
      refine Zw_iload_2 dX11_count_93 ?_
      refine Zw_iconst (v := 2) dX11_count_94 (by decide) ?_
      refine Zw_idiv dX11_count_95 (by first | decide | assumption) ?_
      refine Zw_goto 108 dX11_count_96 (by decide) ?_
      refine Zw_ireturn dX11_count_108 (by first | rfl | assumption) ?_
      obtain rfl : i = 8 := by omega
      exact h
    · refine Zw_iload_2 dX11_count_59 ?_
      refine Zw_aload_0 dX11_count_60 ?_
      refine Zw_getr 66 lf_X11_26 dX11_count_61 (by first | decide | assumption | omega) (by first | rfl | assumption) (by rfl) ?_
      refine Zw_iload_3 dX11_count_64 ?_
      refine Zw_ialdn (i) dX11_count_65 (by first | decide | assumption | omega) (by first | rfl | assumption) rfl (by omega) (by decide) ?_
      refine Zw_S1 (k := 0) lm_X11_329 dX11_count_66 (by decide) (Nat.le_of_ble_eq_true rfl) ?_
      refine s_bits (hl i c56) ?_
      refine Zw_iadd dX11_count_69 ?_
      refine Zw_istore_2 dX11_count_70 rfl ?_
      refine Zw_iinc_3 dX11_count_71 rfl (zincn _) ?_
      refine Zw_goto 53 dX11_count_74 (by decide) ?_
      exact l_mcount1 hl ht h m (i + 1) (by omega) (by omega)
set_option maxRecDepth 20000 in
theorem s_mcount1 {Q : zQ} {μ : zMu} {τ : Int64} (hl : ∀ p, p < 8 → r8 (μ 66 p)) (ht : r8 (μ 65 3)) (h : Q (some (.int (q_sum (fun p => q_bc (μ 66 p)) 8 / 2))) μ τ) : Zc 1 yX11_count cX11_count 4 (some .int) [.ref 61, .int 1] μ τ Q := by
  refine Zc.mk 2 [.ref 61, .int 1, .null, .null] rfl (by decide) (Nat.le_of_ble_eq_true rfl) ?_
  refine Zw_iload_1 dX11_count_0 ?_
  refine Zw_i2l dX11_count_1 ?_
  refine Zw_lconst (v := 0) dX11_count_2 (by decide) ?_
  refine Zw_ldc2 dX11_count_3 zw28 ?_
  refine Zw_S3 (k := 0) lm_X11_76 dX11_count_6 (by decide) (Nat.le_of_ble_eq_true rfl) ?_
  refine s_in0 6 (by decide) (fun _ => ?_) (fun a0 => absurd (by unfold vp_in; decide) a0)
  refine Zw_if_ne 15 dX11_count_9 (by decide) (fun _ => ?_) (fun c => absurd c (by decide))
  refine Zw_iload_1 dX11_count_15 ?_
  refine Zw_iconst (v := 2) dX11_count_16 (by decide) ?_
  refine Zw_icmp_le 49 dX11_count_17 (by decide) (fun _ => ?_) (fun c => absurd c (by decide))
  refine Zw_iconst (v := 0) dX11_count_49 (by decide) ?_
  refine Zw_istore_2 dX11_count_50 rfl ?_
  refine Zw_iconst (v := 0) dX11_count_51 (by decide) ?_
  refine Zw_istore_3 dX11_count_52 rfl ?_
  exact l_mcount1 hl ht h 9 0 (by omega) (by omega)
set_option maxRecDepth 20000 in
theorem l_mcount2 {Q : zQ} {μ : zMu} {τ : Int64} (hl : ∀ p, p < 8 → r8 (μ 66 p)) (ht : r8 (μ 65 3)) (h : Q (some (.int (q_bc (μ 65 3)))) μ τ) : ∀ m i, 8 - i < m → i ≤ 8 → Zw 1 RX11 cX11_count 4 (some .int) Q 53 [.ref 61, .int 2, .int (q_sum (fun p => q_bc (μ 66 p)) i), .int (nI i)] [] μ τ
  | 0, i, hm, _ => absurd hm (by omega)
  | m + 1, i, hm, hi => by
    refine Zw_iload_3 dX11_count_53 ?_
    refine Zw_bipush (v := 8) dX11_count_54 (by decide) ?_
    refine Zw_nicmp_ge (i) (8) 77 dX11_count_56 (by decide) rfl rfl (by omega) (by omega) (fun c56 => ?_) (fun c56 => ?_)
    · refine Zw_iload_1 dX11_count_77 ?_
      refine Zw_if_ne 88 dX11_count_78 (by decide) (fun _ => ?_) (fun c => absurd c (by decide))
      refine Zw_iload_1 dX11_count_88 ?_
      refine Zw_iconst (v := 1) dX11_count_89 (by decide) ?_
      refine Zw_icmp_ne 99 dX11_count_90 (by decide) (fun _ => ?_) (fun c => absurd c (by decide))
      refine Zw_aload_0 dX11_count_99 ?_
      refine Zw_getr 65 lf_X11_23 dX11_count_100 (by first | decide | assumption | omega) (by first | rfl | assumption) (by rfl) ?_
      refine Zw_iconst (v := 3) dX11_count_103 (by decide) ?_
      refine Zw_ialdn (3) dX11_count_104 (by first | decide | assumption | omega) (by first | rfl | assumption) rfl (by omega) (by decide) ?_
      refine Zw_S1 (k := 0) lm_X11_329 dX11_count_105 (by decide) (Nat.le_of_ble_eq_true rfl) ?_
      refine s_bits ht ?_
      refine Zw_ireturn dX11_count_108 (by first | rfl | assumption) ?_
      obtain rfl : i = 8 := by omega
      exact h
    · refine Zw_iload_2 dX11_count_59 ?_
      refine Zw_aload_0 dX11_count_60 ?_
      refine Zw_getr 66 lf_X11_26 dX11_count_61 (by first | decide | assumption | omega) (by first | rfl | assumption) (by rfl) ?_
      refine Zw_iload_3 dX11_count_64 ?_
      refine Zw_ialdn (i) dX11_count_65 (by first | decide | assumption | omega) (by first | rfl | assumption) rfl (by omega) (by decide) ?_
      refine Zw_S1 (k := 0) lm_X11_329 dX11_count_66 (by decide) (Nat.le_of_ble_eq_true rfl) ?_
      refine s_bits (hl i c56) ?_
      refine Zw_iadd dX11_count_69 ?_
      refine Zw_istore_2 dX11_count_70 rfl ?_
      refine Zw_iinc_3 dX11_count_71 rfl (zincn _) ?_
      refine Zw_goto 53 dX11_count_74 (by decide) ?_
      exact l_mcount2 hl ht h m (i + 1) (by omega) (by omega)
set_option maxRecDepth 20000 in
theorem s_mcount2 {Q : zQ} {μ : zMu} {τ : Int64} (hl : ∀ p, p < 8 → r8 (μ 66 p)) (ht : r8 (μ 65 3)) (h : Q (some (.int (q_bc (μ 65 3)))) μ τ) : Zc 1 yX11_count cX11_count 4 (some .int) [.ref 61, .int 2] μ τ Q := by
  refine Zc.mk 2 [.ref 61, .int 2, .null, .null] rfl (by decide) (Nat.le_of_ble_eq_true rfl) ?_
  refine Zw_iload_1 dX11_count_0 ?_
  refine Zw_i2l dX11_count_1 ?_
  refine Zw_lconst (v := 0) dX11_count_2 (by decide) ?_
  refine Zw_ldc2 dX11_count_3 zw28 ?_
  refine Zw_S3 (k := 0) lm_X11_76 dX11_count_6 (by decide) (Nat.le_of_ble_eq_true rfl) ?_
  refine s_in0 6 (by decide) (fun _ => ?_) (fun a0 => absurd (by unfold vp_in; decide) a0)
  refine Zw_if_ne 15 dX11_count_9 (by decide) (fun _ => ?_) (fun c => absurd c (by decide))
  refine Zw_iload_1 dX11_count_15 ?_
  refine Zw_iconst (v := 2) dX11_count_16 (by decide) ?_
  refine Zw_icmp_le 49 dX11_count_17 (by decide) (fun _ => ?_) (fun c => absurd c (by decide))
  refine Zw_iconst (v := 0) dX11_count_49 (by decide) ?_
  refine Zw_istore_2 dX11_count_50 rfl ?_
  refine Zw_iconst (v := 0) dX11_count_51 (by decide) ?_
  refine Zw_istore_3 dX11_count_52 rfl ?_
  exact l_mcount2 hl ht h 9 0 (by omega) (by omega)
set_option maxRecDepth 20000 in
theorem s_mtakenB {x k : Int32} {Q : zQ} {μ : zMu} {τ : Int64} (hbad : ¬ vp_in k 6) (h : Q (some (.int (-2))) μ τ) : Zc 2 yX11_taken cX11_taken 4 (some .int) [.ref 61, .int x, .int k] μ τ Q := by
  refine Zc.mk 1 [.ref 61, .int x, .int k, .null] rfl (by decide) (Nat.le_of_ble_eq_true rfl) ?_
  refine Zw_iload_2 dX11_taken_0 ?_
  refine Zw_i2l dX11_taken_1 ?_
  refine Zw_lconst (v := 0) dX11_taken_2 (by decide) ?_
  refine Zw_ldc2 dX11_taken_3 zw28 ?_
  refine Zw_S3 (k := 0) lm_X11_76 dX11_taken_6 (by decide) (Nat.le_of_ble_eq_true rfl) ?_
  refine s_in0 6 (by decide) (fun a1 => absurd a1 hbad) (fun _ => ?_)
  refine Zw_if_ne 15 dX11_taken_9 (by decide) (fun c => absurd c (by decide)) (fun _ => ?_)
  refine Zw_bipush (v := (-2)) dX11_taken_12 (by decide) ?_
  refine Zw_ireturn dX11_taken_14 (by first | rfl | assumption) ?_
  exact h
set_option maxRecDepth 20000 in
theorem s_mtakenN {x k : Int32} {Q : zQ} {μ : zMu} {τ : Int64} (n : Nat) (hn5 : n ≤ 5) (hn : μ 61 11 = nI n) (hk : vp_in k 6) (hno : ¬ vp_in x n) (h : Q (some (.int (-11))) μ τ) : Zc 2 yX11_taken cX11_taken 4 (some .int) [.ref 61, .int x, .int k] μ τ Q := by
  refine Zc.mk 1 [.ref 61, .int x, .int k, .null] rfl (by decide) (Nat.le_of_ble_eq_true rfl) ?_
  refine Zw_iload_2 dX11_taken_0 ?_
  refine Zw_i2l dX11_taken_1 ?_
  refine Zw_lconst (v := 0) dX11_taken_2 (by decide) ?_
  refine Zw_ldc2 dX11_taken_3 zw28 ?_
  refine Zw_S3 (k := 0) lm_X11_76 dX11_taken_6 (by decide) (Nat.le_of_ble_eq_true rfl) ?_
  refine s_in0 6 (by decide) (fun _ => ?_) (fun a0 => absurd hk a0)
  refine Zw_if_ne 15 dX11_taken_9 (by decide) (fun _ => ?_) (fun c => absurd c (by decide))
  refine Zw_aload_0 dX11_taken_15 ?_
  refine Zw_iload_1 dX11_taken_16 ?_
  refine Zw_V1 (k := 1) lm_X11_86 dX11_taken_17 (by decide) (by first | decide | assumption | omega) (by first | rfl | assumption) (by rfl) (Nat.le_of_ble_eq_true rfl) ?_
  refine s_isOne n hn5 hn (fun a1 => absurd a1 hno) (fun _ => ?_)
  refine Zw_if_ne 26 dX11_taken_20 (by decide) (fun c => absurd c (by decide)) (fun _ => ?_)
  refine Zw_bipush (v := (-11)) dX11_taken_23 (by decide) ?_
  refine Zw_ireturn dX11_taken_25 (by first | rfl | assumption) ?_
  exact h
set_option maxRecDepth 20000 in
theorem s_over0 {Q : zQ} {μ : zMu} {τ : Int64} (h : Q (some (.int (-1))) μ τ) : Zc 0 yX11_over cX11_over 1 (some .int) [.int 0] μ τ Q := by
  refine Zc.mk 0 [.int 0] rfl (by decide) (Nat.le_of_ble_eq_true rfl) ?_
  refine Zw_iload_0 dX11_over_0 ?_
  refine Zw_if_ne 8 dX11_over_1 (by decide) (fun c => absurd c (by decide)) (fun _ => ?_)
  refine Zw_iconst (v := (-1)) dX11_over_4 (by decide) ?_
  refine Zw_goto 27 dX11_over_5 (by decide) ?_
  refine Zw_ireturn dX11_over_27 (by first | rfl | assumption) ?_
  exact h
set_option maxRecDepth 20000 in
theorem s_over1 {Q : zQ} {μ : zMu} {τ : Int64} (h : Q (some (.int 0)) μ τ) : Zc 0 yX11_over cX11_over 1 (some .int) [.int 1] μ τ Q := by
  refine Zc.mk 0 [.int 1] rfl (by decide) (Nat.le_of_ble_eq_true rfl) ?_
  refine Zw_iload_0 dX11_over_0 ?_
  refine Zw_if_ne 8 dX11_over_1 (by decide) (fun _ => ?_) (fun c => absurd c (by decide))
  refine Zw_iload_0 dX11_over_8 ?_
  refine Zw_iconst (v := 3) dX11_over_9 (by decide) ?_
  refine Zw_icmp_ne 17 dX11_over_10 (by decide) (fun _ => ?_) (fun c => absurd c (by decide))
  refine Zw_iload_0 dX11_over_17 ?_
  refine Zw_iconst (v := 4) dX11_over_18 (by decide) ?_
  refine Zw_icmp_ne 26 dX11_over_19 (by decide) (fun _ => ?_) (fun c => absurd c (by decide))
  refine Zw_iconst (v := 0) dX11_over_26 (by decide) ?_
  refine Zw_ireturn dX11_over_27 (by first | rfl | assumption) ?_
  exact h
set_option maxRecDepth 20000 in
theorem s_over2 {Q : zQ} {μ : zMu} {τ : Int64} (h : Q (some (.int 0)) μ τ) : Zc 0 yX11_over cX11_over 1 (some .int) [.int 2] μ τ Q := by
  refine Zc.mk 0 [.int 2] rfl (by decide) (Nat.le_of_ble_eq_true rfl) ?_
  refine Zw_iload_0 dX11_over_0 ?_
  refine Zw_if_ne 8 dX11_over_1 (by decide) (fun _ => ?_) (fun c => absurd c (by decide))
  refine Zw_iload_0 dX11_over_8 ?_
  refine Zw_iconst (v := 3) dX11_over_9 (by decide) ?_
  refine Zw_icmp_ne 17 dX11_over_10 (by decide) (fun _ => ?_) (fun c => absurd c (by decide))
  refine Zw_iload_0 dX11_over_17 ?_
  refine Zw_iconst (v := 4) dX11_over_18 (by decide) ?_
  refine Zw_icmp_ne 26 dX11_over_19 (by decide) (fun _ => ?_) (fun c => absurd c (by decide))
  refine Zw_iconst (v := 0) dX11_over_26 (by decide) ?_
  refine Zw_ireturn dX11_over_27 (by first | rfl | assumption) ?_
  exact h
set_option maxRecDepth 20000 in
theorem s_over3 {Q : zQ} {μ : zMu} {τ : Int64} (h : Q (some (.int 1)) μ τ) : Zc 0 yX11_over cX11_over 1 (some .int) [.int 3] μ τ Q := by
  refine Zc.mk 0 [.int 3] rfl (by decide) (Nat.le_of_ble_eq_true rfl) ?_
  refine Zw_iload_0 dX11_over_0 ?_
  refine Zw_if_ne 8 dX11_over_1 (by decide) (fun _ => ?_) (fun c => absurd c (by decide))
  refine Zw_iload_0 dX11_over_8 ?_
  refine Zw_iconst (v := 3) dX11_over_9 (by decide) ?_
  refine Zw_icmp_ne 17 dX11_over_10 (by decide) (fun c => absurd c (by decide)) (fun _ => ?_)
  refine Zw_iconst (v := 1) dX11_over_13 (by decide) ?_
  refine Zw_goto 27 dX11_over_14 (by decide) ?_
  refine Zw_ireturn dX11_over_27 (by first | rfl | assumption) ?_
  exact h
set_option maxRecDepth 20000 in
theorem s_over4 {Q : zQ} {μ : zMu} {τ : Int64} (h : Q (some (.int 2)) μ τ) : Zc 0 yX11_over cX11_over 1 (some .int) [.int 4] μ τ Q := by
  refine Zc.mk 0 [.int 4] rfl (by decide) (Nat.le_of_ble_eq_true rfl) ?_
  refine Zw_iload_0 dX11_over_0 ?_
  refine Zw_if_ne 8 dX11_over_1 (by decide) (fun _ => ?_) (fun c => absurd c (by decide))
  refine Zw_iload_0 dX11_over_8 ?_
  refine Zw_iconst (v := 3) dX11_over_9 (by decide) ?_
  refine Zw_icmp_ne 17 dX11_over_10 (by decide) (fun _ => ?_) (fun c => absurd c (by decide))
  refine Zw_iload_0 dX11_over_17 ?_
  refine Zw_iconst (v := 4) dX11_over_18 (by decide) ?_
  refine Zw_icmp_ne 26 dX11_over_19 (by decide) (fun c => absurd c (by decide)) (fun _ => ?_)
  refine Zw_iconst (v := 2) dX11_over_22 (by decide) ?_
  refine Zw_goto 27 dX11_over_23 (by decide) ?_
  refine Zw_ireturn dX11_over_27 (by first | rfl | assumption) ?_
  exact h
set_option maxRecDepth 20000 in
theorem s_over5 {Q : zQ} {μ : zMu} {τ : Int64} (h : Q (some (.int 0)) μ τ) : Zc 0 yX11_over cX11_over 1 (some .int) [.int 5] μ τ Q := by
  refine Zc.mk 0 [.int 5] rfl (by decide) (Nat.le_of_ble_eq_true rfl) ?_
  refine Zw_iload_0 dX11_over_0 ?_
  refine Zw_if_ne 8 dX11_over_1 (by decide) (fun _ => ?_) (fun c => absurd c (by decide))
  refine Zw_iload_0 dX11_over_8 ?_
  refine Zw_iconst (v := 3) dX11_over_9 (by decide) ?_
  refine Zw_icmp_ne 17 dX11_over_10 (by decide) (fun _ => ?_) (fun c => absurd c (by decide))
  refine Zw_iload_0 dX11_over_17 ?_
  refine Zw_iconst (v := 4) dX11_over_18 (by decide) ?_
  refine Zw_icmp_ne 26 dX11_over_19 (by decide) (fun _ => ?_) (fun c => absurd c (by decide))
  refine Zw_iconst (v := 0) dX11_over_26 (by decide) ?_
  refine Zw_ireturn dX11_over_27 (by first | rfl | assumption) ?_
  exact h
set_option maxRecDepth 20000 in
theorem s_mtaken0 {f nu : Nat} {k : Int32} {Q : zQ} {μ : zMu} {τ : Int64} (n : Nat) (hn5 : n ≤ 5) (hn : μ 61 11 = nI n) (hf : f < n) (hk : vp_in k 6) (hkd : μ 67 f = nI 0) (hnu : μ 68 (3 * f) = nI nu) (h1 : q_under 0 k = true → Q (some (.int (nI nu))) μ τ) (h0 : q_under 0 k = false → Q (some (.int (-13))) μ τ) : Zc 2 yX11_taken cX11_taken 4 (some .int) [.ref 61, .int (nI f), .int k] μ τ Q := by
  refine Zc.mk 1 [.ref 61, .int (nI f), .int k, .null] rfl (by decide) (Nat.le_of_ble_eq_true rfl) ?_
  refine Zw_iload_2 dX11_taken_0 ?_
  refine Zw_i2l dX11_taken_1 ?_
  refine Zw_lconst (v := 0) dX11_taken_2 (by decide) ?_
  refine Zw_ldc2 dX11_taken_3 zw28 ?_
  refine Zw_S3 (k := 0) lm_X11_76 dX11_taken_6 (by decide) (Nat.le_of_ble_eq_true rfl) ?_
  refine s_in0 6 (by decide) (fun _ => ?_) (fun a0 => absurd hk a0)
  refine Zw_if_ne 15 dX11_taken_9 (by decide) (fun _ => ?_) (fun c => absurd c (by decide))
  obtain ⟨c, hc, rfl⟩ := vp_in_of hk (by decide)
  match c, hc with
  | 0, _ =>
    refine Zw_aload_0 dX11_taken_15 ?_
    refine Zw_iload_1 dX11_taken_16 ?_
    refine Zw_V1 (k := 1) lm_X11_86 dX11_taken_17 (by decide) (by first | decide | assumption | omega) (by first | rfl | assumption) (by rfl) (Nat.le_of_ble_eq_true rfl) ?_
    refine s_isOne n hn5 hn (fun _ => ?_) (fun a0 => absurd (vp_in_nI hf (by omega)) a0)
    refine Zw_if_ne 26 dX11_taken_20 (by decide) (fun _ => ?_) (fun c => absurd c (by decide))
    refine Zw_aload_0 dX11_taken_26 ?_
    refine Zw_getr 67 lf_X11_29 dX11_taken_27 (by first | decide | assumption | omega) (by first | rfl | assumption) (by rfl) ?_
    refine Zw_iload_1 dX11_taken_30 ?_
    refine Zw_ialdnv (f) (nI 0) dX11_taken_31 (by first | decide | assumption | omega) (by first | rfl | assumption) rfl (by omega) (by decide) hkd ?_
    refine Zw_istore_3 dX11_taken_32 rfl ?_
    refine Zw_iload_3 dX11_taken_33 ?_
    refine Zw_iconst (v := (-1)) dX11_taken_34 (by decide) ?_
    refine Zw_icmp_eq 51 dX11_taken_35 (by decide) (fun c => absurd c (by decide)) (fun _ => ?_)
    refine Zw_iload_3 dX11_taken_38 ?_
    refine Zw_iload_2 dX11_taken_39 ?_
    refine Zw_icmp_eq 51 dX11_taken_40 (by decide) (fun _ => ?_) (fun c => absurd c (by decide))
    refine Zw_iload_3 dX11_taken_51 ?_
    refine Zw_iload_2 dX11_taken_52 ?_
    refine Zw_icmp_ne 67 dX11_taken_53 (by decide) (fun c => absurd c (by decide)) (fun _ => ?_)
    refine Zw_aload_0 dX11_taken_56 ?_
    refine Zw_getr 68 lf_X11_32 dX11_taken_57 (by first | decide | assumption | omega) (by first | rfl | assumption) (by rfl) ?_
    refine Zw_iconst (v := 3) dX11_taken_60 (by decide) ?_
    refine Zw_iload_1 dX11_taken_61 ?_
    refine Zw_nmul (3) (f) dX11_taken_62 rfl rfl ?_
    refine Zw_ialdnv ((3 * f)) (nI nu) dX11_taken_63 (by first | decide | assumption | omega) (by first | rfl | assumption) rfl (by omega) (by decide) hnu ?_
    refine Zw_goto 69 dX11_taken_64 (by decide) ?_
    refine Zw_ireturn dX11_taken_69 (by first | rfl | assumption) ?_
    exact h1 (by decide)
  | 1, _ =>
    refine Zw_aload_0 dX11_taken_15 ?_
    refine Zw_iload_1 dX11_taken_16 ?_
    refine Zw_V1 (k := 1) lm_X11_86 dX11_taken_17 (by decide) (by first | decide | assumption | omega) (by first | rfl | assumption) (by rfl) (Nat.le_of_ble_eq_true rfl) ?_
    refine s_isOne n hn5 hn (fun _ => ?_) (fun a0 => absurd (vp_in_nI hf (by omega)) a0)
    refine Zw_if_ne 26 dX11_taken_20 (by decide) (fun _ => ?_) (fun c => absurd c (by decide))
    refine Zw_aload_0 dX11_taken_26 ?_
    refine Zw_getr 67 lf_X11_29 dX11_taken_27 (by first | decide | assumption | omega) (by first | rfl | assumption) (by rfl) ?_
    refine Zw_iload_1 dX11_taken_30 ?_
    refine Zw_ialdnv (f) (nI 0) dX11_taken_31 (by first | decide | assumption | omega) (by first | rfl | assumption) rfl (by omega) (by decide) hkd ?_
    refine Zw_istore_3 dX11_taken_32 rfl ?_
    refine Zw_iload_3 dX11_taken_33 ?_
    refine Zw_iconst (v := (-1)) dX11_taken_34 (by decide) ?_
    refine Zw_icmp_eq 51 dX11_taken_35 (by decide) (fun c => absurd c (by decide)) (fun _ => ?_)
    refine Zw_iload_3 dX11_taken_38 ?_
    refine Zw_iload_2 dX11_taken_39 ?_
    refine Zw_icmp_eq 51 dX11_taken_40 (by decide) (fun c => absurd c (by decide)) (fun _ => ?_)
    refine Zw_iload_3 dX11_taken_43 ?_
    refine Zw_S1 (k := 0) lm_X11_418 dX11_taken_44 (by decide) (Nat.le_of_ble_eq_true rfl) ?_
    refine s_over0 ?_
    refine Zw_istore_3 dX11_taken_47 rfl ?_
    refine Zw_goto 33 dX11_taken_48 (by decide) ?_
    refine Zw_iload_3 dX11_taken_33 ?_
    refine Zw_iconst (v := (-1)) dX11_taken_34 (by decide) ?_
    refine Zw_icmp_eq 51 dX11_taken_35 (by decide) (fun _ => ?_) (fun c => absurd c (by decide))
    refine Zw_iload_3 dX11_taken_51 ?_
    refine Zw_iload_2 dX11_taken_52 ?_
    refine Zw_icmp_ne 67 dX11_taken_53 (by decide) (fun _ => ?_) (fun c => absurd c (by decide))
    refine Zw_bipush (v := (-13)) dX11_taken_67 (by decide) ?_
    refine Zw_ireturn dX11_taken_69 (by first | rfl | assumption) ?_
    exact h0 (by decide)
  | 2, _ =>
    refine Zw_aload_0 dX11_taken_15 ?_
    refine Zw_iload_1 dX11_taken_16 ?_
    refine Zw_V1 (k := 1) lm_X11_86 dX11_taken_17 (by decide) (by first | decide | assumption | omega) (by first | rfl | assumption) (by rfl) (Nat.le_of_ble_eq_true rfl) ?_
    refine s_isOne n hn5 hn (fun _ => ?_) (fun a0 => absurd (vp_in_nI hf (by omega)) a0)
    refine Zw_if_ne 26 dX11_taken_20 (by decide) (fun _ => ?_) (fun c => absurd c (by decide))
    refine Zw_aload_0 dX11_taken_26 ?_
    refine Zw_getr 67 lf_X11_29 dX11_taken_27 (by first | decide | assumption | omega) (by first | rfl | assumption) (by rfl) ?_
    refine Zw_iload_1 dX11_taken_30 ?_
    refine Zw_ialdnv (f) (nI 0) dX11_taken_31 (by first | decide | assumption | omega) (by first | rfl | assumption) rfl (by omega) (by decide) hkd ?_
    refine Zw_istore_3 dX11_taken_32 rfl ?_
    refine Zw_iload_3 dX11_taken_33 ?_
    refine Zw_iconst (v := (-1)) dX11_taken_34 (by decide) ?_
    refine Zw_icmp_eq 51 dX11_taken_35 (by decide) (fun c => absurd c (by decide)) (fun _ => ?_)
    refine Zw_iload_3 dX11_taken_38 ?_
    refine Zw_iload_2 dX11_taken_39 ?_
    refine Zw_icmp_eq 51 dX11_taken_40 (by decide) (fun c => absurd c (by decide)) (fun _ => ?_)
    refine Zw_iload_3 dX11_taken_43 ?_
    refine Zw_S1 (k := 0) lm_X11_418 dX11_taken_44 (by decide) (Nat.le_of_ble_eq_true rfl) ?_
    refine s_over0 ?_
    refine Zw_istore_3 dX11_taken_47 rfl ?_
    refine Zw_goto 33 dX11_taken_48 (by decide) ?_
    refine Zw_iload_3 dX11_taken_33 ?_
    refine Zw_iconst (v := (-1)) dX11_taken_34 (by decide) ?_
    refine Zw_icmp_eq 51 dX11_taken_35 (by decide) (fun _ => ?_) (fun c => absurd c (by decide))
    refine Zw_iload_3 dX11_taken_51 ?_
    refine Zw_iload_2 dX11_taken_52 ?_
    refine Zw_icmp_ne 67 dX11_taken_53 (by decide) (fun _ => ?_) (fun c => absurd c (by decide))
    refine Zw_bipush (v := (-13)) dX11_taken_67 (by decide) ?_
    refine Zw_ireturn dX11_taken_69 (by first | rfl | assumption) ?_
    exact h0 (by decide)
  | 3, _ =>
    refine Zw_aload_0 dX11_taken_15 ?_
    refine Zw_iload_1 dX11_taken_16 ?_
    refine Zw_V1 (k := 1) lm_X11_86 dX11_taken_17 (by decide) (by first | decide | assumption | omega) (by first | rfl | assumption) (by rfl) (Nat.le_of_ble_eq_true rfl) ?_
    refine s_isOne n hn5 hn (fun _ => ?_) (fun a0 => absurd (vp_in_nI hf (by omega)) a0)
    refine Zw_if_ne 26 dX11_taken_20 (by decide) (fun _ => ?_) (fun c => absurd c (by decide))
    refine Zw_aload_0 dX11_taken_26 ?_
    refine Zw_getr 67 lf_X11_29 dX11_taken_27 (by first | decide | assumption | omega) (by first | rfl | assumption) (by rfl) ?_
    refine Zw_iload_1 dX11_taken_30 ?_
    refine Zw_ialdnv (f) (nI 0) dX11_taken_31 (by first | decide | assumption | omega) (by first | rfl | assumption) rfl (by omega) (by decide) hkd ?_
    refine Zw_istore_3 dX11_taken_32 rfl ?_
    refine Zw_iload_3 dX11_taken_33 ?_
    refine Zw_iconst (v := (-1)) dX11_taken_34 (by decide) ?_
    refine Zw_icmp_eq 51 dX11_taken_35 (by decide) (fun c => absurd c (by decide)) (fun _ => ?_)
    refine Zw_iload_3 dX11_taken_38 ?_
    refine Zw_iload_2 dX11_taken_39 ?_
    refine Zw_icmp_eq 51 dX11_taken_40 (by decide) (fun c => absurd c (by decide)) (fun _ => ?_)
    refine Zw_iload_3 dX11_taken_43 ?_
    refine Zw_S1 (k := 0) lm_X11_418 dX11_taken_44 (by decide) (Nat.le_of_ble_eq_true rfl) ?_
    refine s_over0 ?_
    refine Zw_istore_3 dX11_taken_47 rfl ?_
    refine Zw_goto 33 dX11_taken_48 (by decide) ?_
    refine Zw_iload_3 dX11_taken_33 ?_
    refine Zw_iconst (v := (-1)) dX11_taken_34 (by decide) ?_
    refine Zw_icmp_eq 51 dX11_taken_35 (by decide) (fun _ => ?_) (fun c => absurd c (by decide))
    refine Zw_iload_3 dX11_taken_51 ?_
    refine Zw_iload_2 dX11_taken_52 ?_
    refine Zw_icmp_ne 67 dX11_taken_53 (by decide) (fun _ => ?_) (fun c => absurd c (by decide))
    refine Zw_bipush (v := (-13)) dX11_taken_67 (by decide) ?_
    refine Zw_ireturn dX11_taken_69 (by first | rfl | assumption) ?_
    exact h0 (by decide)
  | 4, _ =>
    refine Zw_aload_0 dX11_taken_15 ?_
    refine Zw_iload_1 dX11_taken_16 ?_
    refine Zw_V1 (k := 1) lm_X11_86 dX11_taken_17 (by decide) (by first | decide | assumption | omega) (by first | rfl | assumption) (by rfl) (Nat.le_of_ble_eq_true rfl) ?_
    refine s_isOne n hn5 hn (fun _ => ?_) (fun a0 => absurd (vp_in_nI hf (by omega)) a0)
    refine Zw_if_ne 26 dX11_taken_20 (by decide) (fun _ => ?_) (fun c => absurd c (by decide))
    refine Zw_aload_0 dX11_taken_26 ?_
    refine Zw_getr 67 lf_X11_29 dX11_taken_27 (by first | decide | assumption | omega) (by first | rfl | assumption) (by rfl) ?_
    refine Zw_iload_1 dX11_taken_30 ?_
    refine Zw_ialdnv (f) (nI 0) dX11_taken_31 (by first | decide | assumption | omega) (by first | rfl | assumption) rfl (by omega) (by decide) hkd ?_
    refine Zw_istore_3 dX11_taken_32 rfl ?_
    refine Zw_iload_3 dX11_taken_33 ?_
    refine Zw_iconst (v := (-1)) dX11_taken_34 (by decide) ?_
    refine Zw_icmp_eq 51 dX11_taken_35 (by decide) (fun c => absurd c (by decide)) (fun _ => ?_)
    refine Zw_iload_3 dX11_taken_38 ?_
    refine Zw_iload_2 dX11_taken_39 ?_
    refine Zw_icmp_eq 51 dX11_taken_40 (by decide) (fun c => absurd c (by decide)) (fun _ => ?_)
    refine Zw_iload_3 dX11_taken_43 ?_
    refine Zw_S1 (k := 0) lm_X11_418 dX11_taken_44 (by decide) (Nat.le_of_ble_eq_true rfl) ?_
    refine s_over0 ?_
    refine Zw_istore_3 dX11_taken_47 rfl ?_
    refine Zw_goto 33 dX11_taken_48 (by decide) ?_
    refine Zw_iload_3 dX11_taken_33 ?_
    refine Zw_iconst (v := (-1)) dX11_taken_34 (by decide) ?_
    refine Zw_icmp_eq 51 dX11_taken_35 (by decide) (fun _ => ?_) (fun c => absurd c (by decide))
    refine Zw_iload_3 dX11_taken_51 ?_
    refine Zw_iload_2 dX11_taken_52 ?_
    refine Zw_icmp_ne 67 dX11_taken_53 (by decide) (fun _ => ?_) (fun c => absurd c (by decide))
    refine Zw_bipush (v := (-13)) dX11_taken_67 (by decide) ?_
    refine Zw_ireturn dX11_taken_69 (by first | rfl | assumption) ?_
    exact h0 (by decide)
  | 5, _ =>
    refine Zw_aload_0 dX11_taken_15 ?_
    refine Zw_iload_1 dX11_taken_16 ?_
    refine Zw_V1 (k := 1) lm_X11_86 dX11_taken_17 (by decide) (by first | decide | assumption | omega) (by first | rfl | assumption) (by rfl) (Nat.le_of_ble_eq_true rfl) ?_
    refine s_isOne n hn5 hn (fun _ => ?_) (fun a0 => absurd (vp_in_nI hf (by omega)) a0)
    refine Zw_if_ne 26 dX11_taken_20 (by decide) (fun _ => ?_) (fun c => absurd c (by decide))
    refine Zw_aload_0 dX11_taken_26 ?_
    refine Zw_getr 67 lf_X11_29 dX11_taken_27 (by first | decide | assumption | omega) (by first | rfl | assumption) (by rfl) ?_
    refine Zw_iload_1 dX11_taken_30 ?_
    refine Zw_ialdnv (f) (nI 0) dX11_taken_31 (by first | decide | assumption | omega) (by first | rfl | assumption) rfl (by omega) (by decide) hkd ?_
    refine Zw_istore_3 dX11_taken_32 rfl ?_
    refine Zw_iload_3 dX11_taken_33 ?_
    refine Zw_iconst (v := (-1)) dX11_taken_34 (by decide) ?_
    refine Zw_icmp_eq 51 dX11_taken_35 (by decide) (fun c => absurd c (by decide)) (fun _ => ?_)
    refine Zw_iload_3 dX11_taken_38 ?_
    refine Zw_iload_2 dX11_taken_39 ?_
    refine Zw_icmp_eq 51 dX11_taken_40 (by decide) (fun c => absurd c (by decide)) (fun _ => ?_)
    refine Zw_iload_3 dX11_taken_43 ?_
    refine Zw_S1 (k := 0) lm_X11_418 dX11_taken_44 (by decide) (Nat.le_of_ble_eq_true rfl) ?_
    refine s_over0 ?_
    refine Zw_istore_3 dX11_taken_47 rfl ?_
    refine Zw_goto 33 dX11_taken_48 (by decide) ?_
    refine Zw_iload_3 dX11_taken_33 ?_
    refine Zw_iconst (v := (-1)) dX11_taken_34 (by decide) ?_
    refine Zw_icmp_eq 51 dX11_taken_35 (by decide) (fun _ => ?_) (fun c => absurd c (by decide))
    refine Zw_iload_3 dX11_taken_51 ?_
    refine Zw_iload_2 dX11_taken_52 ?_
    refine Zw_icmp_ne 67 dX11_taken_53 (by decide) (fun _ => ?_) (fun c => absurd c (by decide))
    refine Zw_bipush (v := (-13)) dX11_taken_67 (by decide) ?_
    refine Zw_ireturn dX11_taken_69 (by first | rfl | assumption) ?_
    exact h0 (by decide)
  | n + 6, hc => exact absurd hc (by omega)
set_option maxRecDepth 20000 in
theorem s_mtaken1 {f nu : Nat} {k : Int32} {Q : zQ} {μ : zMu} {τ : Int64} (n : Nat) (hn5 : n ≤ 5) (hn : μ 61 11 = nI n) (hf : f < n) (hk : vp_in k 6) (hkd : μ 67 f = nI 1) (hnu : μ 68 (3 * f) = nI nu) (h1 : q_under 1 k = true → Q (some (.int (nI nu))) μ τ) (h0 : q_under 1 k = false → Q (some (.int (-13))) μ τ) : Zc 2 yX11_taken cX11_taken 4 (some .int) [.ref 61, .int (nI f), .int k] μ τ Q := by
  refine Zc.mk 1 [.ref 61, .int (nI f), .int k, .null] rfl (by decide) (Nat.le_of_ble_eq_true rfl) ?_
  refine Zw_iload_2 dX11_taken_0 ?_
  refine Zw_i2l dX11_taken_1 ?_
  refine Zw_lconst (v := 0) dX11_taken_2 (by decide) ?_
  refine Zw_ldc2 dX11_taken_3 zw28 ?_
  refine Zw_S3 (k := 0) lm_X11_76 dX11_taken_6 (by decide) (Nat.le_of_ble_eq_true rfl) ?_
  refine s_in0 6 (by decide) (fun _ => ?_) (fun a0 => absurd hk a0)
  refine Zw_if_ne 15 dX11_taken_9 (by decide) (fun _ => ?_) (fun c => absurd c (by decide))
  obtain ⟨c, hc, rfl⟩ := vp_in_of hk (by decide)
  match c, hc with
  | 0, _ =>
    refine Zw_aload_0 dX11_taken_15 ?_
    refine Zw_iload_1 dX11_taken_16 ?_
    refine Zw_V1 (k := 1) lm_X11_86 dX11_taken_17 (by decide) (by first | decide | assumption | omega) (by first | rfl | assumption) (by rfl) (Nat.le_of_ble_eq_true rfl) ?_
    refine s_isOne n hn5 hn (fun _ => ?_) (fun a0 => absurd (vp_in_nI hf (by omega)) a0)
    refine Zw_if_ne 26 dX11_taken_20 (by decide) (fun _ => ?_) (fun c => absurd c (by decide))
    refine Zw_aload_0 dX11_taken_26 ?_
    refine Zw_getr 67 lf_X11_29 dX11_taken_27 (by first | decide | assumption | omega) (by first | rfl | assumption) (by rfl) ?_
    refine Zw_iload_1 dX11_taken_30 ?_
    refine Zw_ialdnv (f) (nI 1) dX11_taken_31 (by first | decide | assumption | omega) (by first | rfl | assumption) rfl (by omega) (by decide) hkd ?_
    refine Zw_istore_3 dX11_taken_32 rfl ?_
    refine Zw_iload_3 dX11_taken_33 ?_
    refine Zw_iconst (v := (-1)) dX11_taken_34 (by decide) ?_
    refine Zw_icmp_eq 51 dX11_taken_35 (by decide) (fun c => absurd c (by decide)) (fun _ => ?_)
    refine Zw_iload_3 dX11_taken_38 ?_
    refine Zw_iload_2 dX11_taken_39 ?_
    refine Zw_icmp_eq 51 dX11_taken_40 (by decide) (fun c => absurd c (by decide)) (fun _ => ?_)
    refine Zw_iload_3 dX11_taken_43 ?_
    refine Zw_S1 (k := 0) lm_X11_418 dX11_taken_44 (by decide) (Nat.le_of_ble_eq_true rfl) ?_
    refine s_over1 ?_
    refine Zw_istore_3 dX11_taken_47 rfl ?_
    refine Zw_goto 33 dX11_taken_48 (by decide) ?_
    refine Zw_iload_3 dX11_taken_33 ?_
    refine Zw_iconst (v := (-1)) dX11_taken_34 (by decide) ?_
    refine Zw_icmp_eq 51 dX11_taken_35 (by decide) (fun c => absurd c (by decide)) (fun _ => ?_)
    refine Zw_iload_3 dX11_taken_38 ?_
    refine Zw_iload_2 dX11_taken_39 ?_
    refine Zw_icmp_eq 51 dX11_taken_40 (by decide) (fun _ => ?_) (fun c => absurd c (by decide))
    refine Zw_iload_3 dX11_taken_51 ?_
    refine Zw_iload_2 dX11_taken_52 ?_
    refine Zw_icmp_ne 67 dX11_taken_53 (by decide) (fun c => absurd c (by decide)) (fun _ => ?_)
    refine Zw_aload_0 dX11_taken_56 ?_
    refine Zw_getr 68 lf_X11_32 dX11_taken_57 (by first | decide | assumption | omega) (by first | rfl | assumption) (by rfl) ?_
    refine Zw_iconst (v := 3) dX11_taken_60 (by decide) ?_
    refine Zw_iload_1 dX11_taken_61 ?_
    refine Zw_nmul (3) (f) dX11_taken_62 rfl rfl ?_
    refine Zw_ialdnv ((3 * f)) (nI nu) dX11_taken_63 (by first | decide | assumption | omega) (by first | rfl | assumption) rfl (by omega) (by decide) hnu ?_
    refine Zw_goto 69 dX11_taken_64 (by decide) ?_
    refine Zw_ireturn dX11_taken_69 (by first | rfl | assumption) ?_
    exact h1 (by decide)
  | 1, _ =>
    refine Zw_aload_0 dX11_taken_15 ?_
    refine Zw_iload_1 dX11_taken_16 ?_
    refine Zw_V1 (k := 1) lm_X11_86 dX11_taken_17 (by decide) (by first | decide | assumption | omega) (by first | rfl | assumption) (by rfl) (Nat.le_of_ble_eq_true rfl) ?_
    refine s_isOne n hn5 hn (fun _ => ?_) (fun a0 => absurd (vp_in_nI hf (by omega)) a0)
    refine Zw_if_ne 26 dX11_taken_20 (by decide) (fun _ => ?_) (fun c => absurd c (by decide))
    refine Zw_aload_0 dX11_taken_26 ?_
    refine Zw_getr 67 lf_X11_29 dX11_taken_27 (by first | decide | assumption | omega) (by first | rfl | assumption) (by rfl) ?_
    refine Zw_iload_1 dX11_taken_30 ?_
    refine Zw_ialdnv (f) (nI 1) dX11_taken_31 (by first | decide | assumption | omega) (by first | rfl | assumption) rfl (by omega) (by decide) hkd ?_
    refine Zw_istore_3 dX11_taken_32 rfl ?_
    refine Zw_iload_3 dX11_taken_33 ?_
    refine Zw_iconst (v := (-1)) dX11_taken_34 (by decide) ?_
    refine Zw_icmp_eq 51 dX11_taken_35 (by decide) (fun c => absurd c (by decide)) (fun _ => ?_)
    refine Zw_iload_3 dX11_taken_38 ?_
    refine Zw_iload_2 dX11_taken_39 ?_
    refine Zw_icmp_eq 51 dX11_taken_40 (by decide) (fun _ => ?_) (fun c => absurd c (by decide))
    refine Zw_iload_3 dX11_taken_51 ?_
    refine Zw_iload_2 dX11_taken_52 ?_
    refine Zw_icmp_ne 67 dX11_taken_53 (by decide) (fun c => absurd c (by decide)) (fun _ => ?_)
    refine Zw_aload_0 dX11_taken_56 ?_
    refine Zw_getr 68 lf_X11_32 dX11_taken_57 (by first | decide | assumption | omega) (by first | rfl | assumption) (by rfl) ?_
    refine Zw_iconst (v := 3) dX11_taken_60 (by decide) ?_
    refine Zw_iload_1 dX11_taken_61 ?_
    refine Zw_nmul (3) (f) dX11_taken_62 rfl rfl ?_
    refine Zw_ialdnv ((3 * f)) (nI nu) dX11_taken_63 (by first | decide | assumption | omega) (by first | rfl | assumption) rfl (by omega) (by decide) hnu ?_
    refine Zw_goto 69 dX11_taken_64 (by decide) ?_
    refine Zw_ireturn dX11_taken_69 (by first | rfl | assumption) ?_
    exact h1 (by decide)
  | 2, _ =>
    refine Zw_aload_0 dX11_taken_15 ?_
    refine Zw_iload_1 dX11_taken_16 ?_
    refine Zw_V1 (k := 1) lm_X11_86 dX11_taken_17 (by decide) (by first | decide | assumption | omega) (by first | rfl | assumption) (by rfl) (Nat.le_of_ble_eq_true rfl) ?_
    refine s_isOne n hn5 hn (fun _ => ?_) (fun a0 => absurd (vp_in_nI hf (by omega)) a0)
    refine Zw_if_ne 26 dX11_taken_20 (by decide) (fun _ => ?_) (fun c => absurd c (by decide))
    refine Zw_aload_0 dX11_taken_26 ?_
    refine Zw_getr 67 lf_X11_29 dX11_taken_27 (by first | decide | assumption | omega) (by first | rfl | assumption) (by rfl) ?_
    refine Zw_iload_1 dX11_taken_30 ?_
    refine Zw_ialdnv (f) (nI 1) dX11_taken_31 (by first | decide | assumption | omega) (by first | rfl | assumption) rfl (by omega) (by decide) hkd ?_
    refine Zw_istore_3 dX11_taken_32 rfl ?_
    refine Zw_iload_3 dX11_taken_33 ?_
    refine Zw_iconst (v := (-1)) dX11_taken_34 (by decide) ?_
    refine Zw_icmp_eq 51 dX11_taken_35 (by decide) (fun c => absurd c (by decide)) (fun _ => ?_)
    refine Zw_iload_3 dX11_taken_38 ?_
    refine Zw_iload_2 dX11_taken_39 ?_
    refine Zw_icmp_eq 51 dX11_taken_40 (by decide) (fun c => absurd c (by decide)) (fun _ => ?_)
    refine Zw_iload_3 dX11_taken_43 ?_
    refine Zw_S1 (k := 0) lm_X11_418 dX11_taken_44 (by decide) (Nat.le_of_ble_eq_true rfl) ?_
    refine s_over1 ?_
    refine Zw_istore_3 dX11_taken_47 rfl ?_
    refine Zw_goto 33 dX11_taken_48 (by decide) ?_
    refine Zw_iload_3 dX11_taken_33 ?_
    refine Zw_iconst (v := (-1)) dX11_taken_34 (by decide) ?_
    refine Zw_icmp_eq 51 dX11_taken_35 (by decide) (fun c => absurd c (by decide)) (fun _ => ?_)
    refine Zw_iload_3 dX11_taken_38 ?_
    refine Zw_iload_2 dX11_taken_39 ?_
    refine Zw_icmp_eq 51 dX11_taken_40 (by decide) (fun c => absurd c (by decide)) (fun _ => ?_)
    refine Zw_iload_3 dX11_taken_43 ?_
    refine Zw_S1 (k := 0) lm_X11_418 dX11_taken_44 (by decide) (Nat.le_of_ble_eq_true rfl) ?_
    refine s_over0 ?_
    refine Zw_istore_3 dX11_taken_47 rfl ?_
    refine Zw_goto 33 dX11_taken_48 (by decide) ?_
    refine Zw_iload_3 dX11_taken_33 ?_
    refine Zw_iconst (v := (-1)) dX11_taken_34 (by decide) ?_
    refine Zw_icmp_eq 51 dX11_taken_35 (by decide) (fun _ => ?_) (fun c => absurd c (by decide))
    refine Zw_iload_3 dX11_taken_51 ?_
    refine Zw_iload_2 dX11_taken_52 ?_
    refine Zw_icmp_ne 67 dX11_taken_53 (by decide) (fun _ => ?_) (fun c => absurd c (by decide))
    refine Zw_bipush (v := (-13)) dX11_taken_67 (by decide) ?_
    refine Zw_ireturn dX11_taken_69 (by first | rfl | assumption) ?_
    exact h0 (by decide)
  | 3, _ =>
    refine Zw_aload_0 dX11_taken_15 ?_
    refine Zw_iload_1 dX11_taken_16 ?_
    refine Zw_V1 (k := 1) lm_X11_86 dX11_taken_17 (by decide) (by first | decide | assumption | omega) (by first | rfl | assumption) (by rfl) (Nat.le_of_ble_eq_true rfl) ?_
    refine s_isOne n hn5 hn (fun _ => ?_) (fun a0 => absurd (vp_in_nI hf (by omega)) a0)
    refine Zw_if_ne 26 dX11_taken_20 (by decide) (fun _ => ?_) (fun c => absurd c (by decide))
    refine Zw_aload_0 dX11_taken_26 ?_
    refine Zw_getr 67 lf_X11_29 dX11_taken_27 (by first | decide | assumption | omega) (by first | rfl | assumption) (by rfl) ?_
    refine Zw_iload_1 dX11_taken_30 ?_
    refine Zw_ialdnv (f) (nI 1) dX11_taken_31 (by first | decide | assumption | omega) (by first | rfl | assumption) rfl (by omega) (by decide) hkd ?_
    refine Zw_istore_3 dX11_taken_32 rfl ?_
    refine Zw_iload_3 dX11_taken_33 ?_
    refine Zw_iconst (v := (-1)) dX11_taken_34 (by decide) ?_
    refine Zw_icmp_eq 51 dX11_taken_35 (by decide) (fun c => absurd c (by decide)) (fun _ => ?_)
    refine Zw_iload_3 dX11_taken_38 ?_
    refine Zw_iload_2 dX11_taken_39 ?_
    refine Zw_icmp_eq 51 dX11_taken_40 (by decide) (fun c => absurd c (by decide)) (fun _ => ?_)
    refine Zw_iload_3 dX11_taken_43 ?_
    refine Zw_S1 (k := 0) lm_X11_418 dX11_taken_44 (by decide) (Nat.le_of_ble_eq_true rfl) ?_
    refine s_over1 ?_
    refine Zw_istore_3 dX11_taken_47 rfl ?_
    refine Zw_goto 33 dX11_taken_48 (by decide) ?_
    refine Zw_iload_3 dX11_taken_33 ?_
    refine Zw_iconst (v := (-1)) dX11_taken_34 (by decide) ?_
    refine Zw_icmp_eq 51 dX11_taken_35 (by decide) (fun c => absurd c (by decide)) (fun _ => ?_)
    refine Zw_iload_3 dX11_taken_38 ?_
    refine Zw_iload_2 dX11_taken_39 ?_
    refine Zw_icmp_eq 51 dX11_taken_40 (by decide) (fun c => absurd c (by decide)) (fun _ => ?_)
    refine Zw_iload_3 dX11_taken_43 ?_
    refine Zw_S1 (k := 0) lm_X11_418 dX11_taken_44 (by decide) (Nat.le_of_ble_eq_true rfl) ?_
    refine s_over0 ?_
    refine Zw_istore_3 dX11_taken_47 rfl ?_
    refine Zw_goto 33 dX11_taken_48 (by decide) ?_
    refine Zw_iload_3 dX11_taken_33 ?_
    refine Zw_iconst (v := (-1)) dX11_taken_34 (by decide) ?_
    refine Zw_icmp_eq 51 dX11_taken_35 (by decide) (fun _ => ?_) (fun c => absurd c (by decide))
    refine Zw_iload_3 dX11_taken_51 ?_
    refine Zw_iload_2 dX11_taken_52 ?_
    refine Zw_icmp_ne 67 dX11_taken_53 (by decide) (fun _ => ?_) (fun c => absurd c (by decide))
    refine Zw_bipush (v := (-13)) dX11_taken_67 (by decide) ?_
    refine Zw_ireturn dX11_taken_69 (by first | rfl | assumption) ?_
    exact h0 (by decide)
  | 4, _ =>
    refine Zw_aload_0 dX11_taken_15 ?_
    refine Zw_iload_1 dX11_taken_16 ?_
    refine Zw_V1 (k := 1) lm_X11_86 dX11_taken_17 (by decide) (by first | decide | assumption | omega) (by first | rfl | assumption) (by rfl) (Nat.le_of_ble_eq_true rfl) ?_
    refine s_isOne n hn5 hn (fun _ => ?_) (fun a0 => absurd (vp_in_nI hf (by omega)) a0)
    refine Zw_if_ne 26 dX11_taken_20 (by decide) (fun _ => ?_) (fun c => absurd c (by decide))
    refine Zw_aload_0 dX11_taken_26 ?_
    refine Zw_getr 67 lf_X11_29 dX11_taken_27 (by first | decide | assumption | omega) (by first | rfl | assumption) (by rfl) ?_
    refine Zw_iload_1 dX11_taken_30 ?_
    refine Zw_ialdnv (f) (nI 1) dX11_taken_31 (by first | decide | assumption | omega) (by first | rfl | assumption) rfl (by omega) (by decide) hkd ?_
    refine Zw_istore_3 dX11_taken_32 rfl ?_
    refine Zw_iload_3 dX11_taken_33 ?_
    refine Zw_iconst (v := (-1)) dX11_taken_34 (by decide) ?_
    refine Zw_icmp_eq 51 dX11_taken_35 (by decide) (fun c => absurd c (by decide)) (fun _ => ?_)
    refine Zw_iload_3 dX11_taken_38 ?_
    refine Zw_iload_2 dX11_taken_39 ?_
    refine Zw_icmp_eq 51 dX11_taken_40 (by decide) (fun c => absurd c (by decide)) (fun _ => ?_)
    refine Zw_iload_3 dX11_taken_43 ?_
    refine Zw_S1 (k := 0) lm_X11_418 dX11_taken_44 (by decide) (Nat.le_of_ble_eq_true rfl) ?_
    refine s_over1 ?_
    refine Zw_istore_3 dX11_taken_47 rfl ?_
    refine Zw_goto 33 dX11_taken_48 (by decide) ?_
    refine Zw_iload_3 dX11_taken_33 ?_
    refine Zw_iconst (v := (-1)) dX11_taken_34 (by decide) ?_
    refine Zw_icmp_eq 51 dX11_taken_35 (by decide) (fun c => absurd c (by decide)) (fun _ => ?_)
    refine Zw_iload_3 dX11_taken_38 ?_
    refine Zw_iload_2 dX11_taken_39 ?_
    refine Zw_icmp_eq 51 dX11_taken_40 (by decide) (fun c => absurd c (by decide)) (fun _ => ?_)
    refine Zw_iload_3 dX11_taken_43 ?_
    refine Zw_S1 (k := 0) lm_X11_418 dX11_taken_44 (by decide) (Nat.le_of_ble_eq_true rfl) ?_
    refine s_over0 ?_
    refine Zw_istore_3 dX11_taken_47 rfl ?_
    refine Zw_goto 33 dX11_taken_48 (by decide) ?_
    refine Zw_iload_3 dX11_taken_33 ?_
    refine Zw_iconst (v := (-1)) dX11_taken_34 (by decide) ?_
    refine Zw_icmp_eq 51 dX11_taken_35 (by decide) (fun _ => ?_) (fun c => absurd c (by decide))
    refine Zw_iload_3 dX11_taken_51 ?_
    refine Zw_iload_2 dX11_taken_52 ?_
    refine Zw_icmp_ne 67 dX11_taken_53 (by decide) (fun _ => ?_) (fun c => absurd c (by decide))
    refine Zw_bipush (v := (-13)) dX11_taken_67 (by decide) ?_
    refine Zw_ireturn dX11_taken_69 (by first | rfl | assumption) ?_
    exact h0 (by decide)
  | 5, _ =>
    refine Zw_aload_0 dX11_taken_15 ?_
    refine Zw_iload_1 dX11_taken_16 ?_
    refine Zw_V1 (k := 1) lm_X11_86 dX11_taken_17 (by decide) (by first | decide | assumption | omega) (by first | rfl | assumption) (by rfl) (Nat.le_of_ble_eq_true rfl) ?_
    refine s_isOne n hn5 hn (fun _ => ?_) (fun a0 => absurd (vp_in_nI hf (by omega)) a0)
    refine Zw_if_ne 26 dX11_taken_20 (by decide) (fun _ => ?_) (fun c => absurd c (by decide))
    refine Zw_aload_0 dX11_taken_26 ?_
    refine Zw_getr 67 lf_X11_29 dX11_taken_27 (by first | decide | assumption | omega) (by first | rfl | assumption) (by rfl) ?_
    refine Zw_iload_1 dX11_taken_30 ?_
    refine Zw_ialdnv (f) (nI 1) dX11_taken_31 (by first | decide | assumption | omega) (by first | rfl | assumption) rfl (by omega) (by decide) hkd ?_
    refine Zw_istore_3 dX11_taken_32 rfl ?_
    refine Zw_iload_3 dX11_taken_33 ?_
    refine Zw_iconst (v := (-1)) dX11_taken_34 (by decide) ?_
    refine Zw_icmp_eq 51 dX11_taken_35 (by decide) (fun c => absurd c (by decide)) (fun _ => ?_)
    refine Zw_iload_3 dX11_taken_38 ?_
    refine Zw_iload_2 dX11_taken_39 ?_
    refine Zw_icmp_eq 51 dX11_taken_40 (by decide) (fun c => absurd c (by decide)) (fun _ => ?_)
    refine Zw_iload_3 dX11_taken_43 ?_
    refine Zw_S1 (k := 0) lm_X11_418 dX11_taken_44 (by decide) (Nat.le_of_ble_eq_true rfl) ?_
    refine s_over1 ?_
    refine Zw_istore_3 dX11_taken_47 rfl ?_
    refine Zw_goto 33 dX11_taken_48 (by decide) ?_
    refine Zw_iload_3 dX11_taken_33 ?_
    refine Zw_iconst (v := (-1)) dX11_taken_34 (by decide) ?_
    refine Zw_icmp_eq 51 dX11_taken_35 (by decide) (fun c => absurd c (by decide)) (fun _ => ?_)
    refine Zw_iload_3 dX11_taken_38 ?_
    refine Zw_iload_2 dX11_taken_39 ?_
    refine Zw_icmp_eq 51 dX11_taken_40 (by decide) (fun c => absurd c (by decide)) (fun _ => ?_)
    refine Zw_iload_3 dX11_taken_43 ?_
    refine Zw_S1 (k := 0) lm_X11_418 dX11_taken_44 (by decide) (Nat.le_of_ble_eq_true rfl) ?_
    refine s_over0 ?_
    refine Zw_istore_3 dX11_taken_47 rfl ?_
    refine Zw_goto 33 dX11_taken_48 (by decide) ?_
    refine Zw_iload_3 dX11_taken_33 ?_
    refine Zw_iconst (v := (-1)) dX11_taken_34 (by decide) ?_
    refine Zw_icmp_eq 51 dX11_taken_35 (by decide) (fun _ => ?_) (fun c => absurd c (by decide))
    refine Zw_iload_3 dX11_taken_51 ?_
    refine Zw_iload_2 dX11_taken_52 ?_
    refine Zw_icmp_ne 67 dX11_taken_53 (by decide) (fun _ => ?_) (fun c => absurd c (by decide))
    refine Zw_bipush (v := (-13)) dX11_taken_67 (by decide) ?_
    refine Zw_ireturn dX11_taken_69 (by first | rfl | assumption) ?_
    exact h0 (by decide)
  | n + 6, hc => exact absurd hc (by omega)
set_option maxRecDepth 20000 in
theorem s_mtaken2 {f nu : Nat} {k : Int32} {Q : zQ} {μ : zMu} {τ : Int64} (n : Nat) (hn5 : n ≤ 5) (hn : μ 61 11 = nI n) (hf : f < n) (hk : vp_in k 6) (hkd : μ 67 f = nI 2) (hnu : μ 68 (3 * f) = nI nu) (h1 : q_under 2 k = true → Q (some (.int (nI nu))) μ τ) (h0 : q_under 2 k = false → Q (some (.int (-13))) μ τ) : Zc 2 yX11_taken cX11_taken 4 (some .int) [.ref 61, .int (nI f), .int k] μ τ Q := by
  refine Zc.mk 1 [.ref 61, .int (nI f), .int k, .null] rfl (by decide) (Nat.le_of_ble_eq_true rfl) ?_
  refine Zw_iload_2 dX11_taken_0 ?_
  refine Zw_i2l dX11_taken_1 ?_
  refine Zw_lconst (v := 0) dX11_taken_2 (by decide) ?_
  refine Zw_ldc2 dX11_taken_3 zw28 ?_
  refine Zw_S3 (k := 0) lm_X11_76 dX11_taken_6 (by decide) (Nat.le_of_ble_eq_true rfl) ?_
  refine s_in0 6 (by decide) (fun _ => ?_) (fun a0 => absurd hk a0)
  refine Zw_if_ne 15 dX11_taken_9 (by decide) (fun _ => ?_) (fun c => absurd c (by decide))
  obtain ⟨c, hc, rfl⟩ := vp_in_of hk (by decide)
  match c, hc with
  | 0, _ =>
    refine Zw_aload_0 dX11_taken_15 ?_
    refine Zw_iload_1 dX11_taken_16 ?_
    refine Zw_V1 (k := 1) lm_X11_86 dX11_taken_17 (by decide) (by first | decide | assumption | omega) (by first | rfl | assumption) (by rfl) (Nat.le_of_ble_eq_true rfl) ?_
    refine s_isOne n hn5 hn (fun _ => ?_) (fun a0 => absurd (vp_in_nI hf (by omega)) a0)
    refine Zw_if_ne 26 dX11_taken_20 (by decide) (fun _ => ?_) (fun c => absurd c (by decide))
    refine Zw_aload_0 dX11_taken_26 ?_
    refine Zw_getr 67 lf_X11_29 dX11_taken_27 (by first | decide | assumption | omega) (by first | rfl | assumption) (by rfl) ?_
    refine Zw_iload_1 dX11_taken_30 ?_
    refine Zw_ialdnv (f) (nI 2) dX11_taken_31 (by first | decide | assumption | omega) (by first | rfl | assumption) rfl (by omega) (by decide) hkd ?_
    refine Zw_istore_3 dX11_taken_32 rfl ?_
    refine Zw_iload_3 dX11_taken_33 ?_
    refine Zw_iconst (v := (-1)) dX11_taken_34 (by decide) ?_
    refine Zw_icmp_eq 51 dX11_taken_35 (by decide) (fun c => absurd c (by decide)) (fun _ => ?_)
    refine Zw_iload_3 dX11_taken_38 ?_
    refine Zw_iload_2 dX11_taken_39 ?_
    refine Zw_icmp_eq 51 dX11_taken_40 (by decide) (fun c => absurd c (by decide)) (fun _ => ?_)
    refine Zw_iload_3 dX11_taken_43 ?_
    refine Zw_S1 (k := 0) lm_X11_418 dX11_taken_44 (by decide) (Nat.le_of_ble_eq_true rfl) ?_
    refine s_over2 ?_
    refine Zw_istore_3 dX11_taken_47 rfl ?_
    refine Zw_goto 33 dX11_taken_48 (by decide) ?_
    refine Zw_iload_3 dX11_taken_33 ?_
    refine Zw_iconst (v := (-1)) dX11_taken_34 (by decide) ?_
    refine Zw_icmp_eq 51 dX11_taken_35 (by decide) (fun c => absurd c (by decide)) (fun _ => ?_)
    refine Zw_iload_3 dX11_taken_38 ?_
    refine Zw_iload_2 dX11_taken_39 ?_
    refine Zw_icmp_eq 51 dX11_taken_40 (by decide) (fun _ => ?_) (fun c => absurd c (by decide))
    refine Zw_iload_3 dX11_taken_51 ?_
    refine Zw_iload_2 dX11_taken_52 ?_
    refine Zw_icmp_ne 67 dX11_taken_53 (by decide) (fun c => absurd c (by decide)) (fun _ => ?_)
    refine Zw_aload_0 dX11_taken_56 ?_
    refine Zw_getr 68 lf_X11_32 dX11_taken_57 (by first | decide | assumption | omega) (by first | rfl | assumption) (by rfl) ?_
    refine Zw_iconst (v := 3) dX11_taken_60 (by decide) ?_
    refine Zw_iload_1 dX11_taken_61 ?_
    refine Zw_nmul (3) (f) dX11_taken_62 rfl rfl ?_
    refine Zw_ialdnv ((3 * f)) (nI nu) dX11_taken_63 (by first | decide | assumption | omega) (by first | rfl | assumption) rfl (by omega) (by decide) hnu ?_
    refine Zw_goto 69 dX11_taken_64 (by decide) ?_
    refine Zw_ireturn dX11_taken_69 (by first | rfl | assumption) ?_
    exact h1 (by decide)
  | 1, _ =>
    refine Zw_aload_0 dX11_taken_15 ?_
    refine Zw_iload_1 dX11_taken_16 ?_
    refine Zw_V1 (k := 1) lm_X11_86 dX11_taken_17 (by decide) (by first | decide | assumption | omega) (by first | rfl | assumption) (by rfl) (Nat.le_of_ble_eq_true rfl) ?_
    refine s_isOne n hn5 hn (fun _ => ?_) (fun a0 => absurd (vp_in_nI hf (by omega)) a0)
    refine Zw_if_ne 26 dX11_taken_20 (by decide) (fun _ => ?_) (fun c => absurd c (by decide))
    refine Zw_aload_0 dX11_taken_26 ?_
    refine Zw_getr 67 lf_X11_29 dX11_taken_27 (by first | decide | assumption | omega) (by first | rfl | assumption) (by rfl) ?_
    refine Zw_iload_1 dX11_taken_30 ?_
    refine Zw_ialdnv (f) (nI 2) dX11_taken_31 (by first | decide | assumption | omega) (by first | rfl | assumption) rfl (by omega) (by decide) hkd ?_
    refine Zw_istore_3 dX11_taken_32 rfl ?_
    refine Zw_iload_3 dX11_taken_33 ?_
    refine Zw_iconst (v := (-1)) dX11_taken_34 (by decide) ?_
    refine Zw_icmp_eq 51 dX11_taken_35 (by decide) (fun c => absurd c (by decide)) (fun _ => ?_)
    refine Zw_iload_3 dX11_taken_38 ?_
    refine Zw_iload_2 dX11_taken_39 ?_
    refine Zw_icmp_eq 51 dX11_taken_40 (by decide) (fun c => absurd c (by decide)) (fun _ => ?_)
    refine Zw_iload_3 dX11_taken_43 ?_
    refine Zw_S1 (k := 0) lm_X11_418 dX11_taken_44 (by decide) (Nat.le_of_ble_eq_true rfl) ?_
    refine s_over2 ?_
    refine Zw_istore_3 dX11_taken_47 rfl ?_
    refine Zw_goto 33 dX11_taken_48 (by decide) ?_
    refine Zw_iload_3 dX11_taken_33 ?_
    refine Zw_iconst (v := (-1)) dX11_taken_34 (by decide) ?_
    refine Zw_icmp_eq 51 dX11_taken_35 (by decide) (fun c => absurd c (by decide)) (fun _ => ?_)
    refine Zw_iload_3 dX11_taken_38 ?_
    refine Zw_iload_2 dX11_taken_39 ?_
    refine Zw_icmp_eq 51 dX11_taken_40 (by decide) (fun c => absurd c (by decide)) (fun _ => ?_)
    refine Zw_iload_3 dX11_taken_43 ?_
    refine Zw_S1 (k := 0) lm_X11_418 dX11_taken_44 (by decide) (Nat.le_of_ble_eq_true rfl) ?_
    refine s_over0 ?_
    refine Zw_istore_3 dX11_taken_47 rfl ?_
    refine Zw_goto 33 dX11_taken_48 (by decide) ?_
    refine Zw_iload_3 dX11_taken_33 ?_
    refine Zw_iconst (v := (-1)) dX11_taken_34 (by decide) ?_
    refine Zw_icmp_eq 51 dX11_taken_35 (by decide) (fun _ => ?_) (fun c => absurd c (by decide))
    refine Zw_iload_3 dX11_taken_51 ?_
    refine Zw_iload_2 dX11_taken_52 ?_
    refine Zw_icmp_ne 67 dX11_taken_53 (by decide) (fun _ => ?_) (fun c => absurd c (by decide))
    refine Zw_bipush (v := (-13)) dX11_taken_67 (by decide) ?_
    refine Zw_ireturn dX11_taken_69 (by first | rfl | assumption) ?_
    exact h0 (by decide)
  | 2, _ =>
    refine Zw_aload_0 dX11_taken_15 ?_
    refine Zw_iload_1 dX11_taken_16 ?_
    refine Zw_V1 (k := 1) lm_X11_86 dX11_taken_17 (by decide) (by first | decide | assumption | omega) (by first | rfl | assumption) (by rfl) (Nat.le_of_ble_eq_true rfl) ?_
    refine s_isOne n hn5 hn (fun _ => ?_) (fun a0 => absurd (vp_in_nI hf (by omega)) a0)
    refine Zw_if_ne 26 dX11_taken_20 (by decide) (fun _ => ?_) (fun c => absurd c (by decide))
    refine Zw_aload_0 dX11_taken_26 ?_
    refine Zw_getr 67 lf_X11_29 dX11_taken_27 (by first | decide | assumption | omega) (by first | rfl | assumption) (by rfl) ?_
    refine Zw_iload_1 dX11_taken_30 ?_
    refine Zw_ialdnv (f) (nI 2) dX11_taken_31 (by first | decide | assumption | omega) (by first | rfl | assumption) rfl (by omega) (by decide) hkd ?_
    refine Zw_istore_3 dX11_taken_32 rfl ?_
    refine Zw_iload_3 dX11_taken_33 ?_
    refine Zw_iconst (v := (-1)) dX11_taken_34 (by decide) ?_
    refine Zw_icmp_eq 51 dX11_taken_35 (by decide) (fun c => absurd c (by decide)) (fun _ => ?_)
    refine Zw_iload_3 dX11_taken_38 ?_
    refine Zw_iload_2 dX11_taken_39 ?_
    refine Zw_icmp_eq 51 dX11_taken_40 (by decide) (fun _ => ?_) (fun c => absurd c (by decide))
    refine Zw_iload_3 dX11_taken_51 ?_
    refine Zw_iload_2 dX11_taken_52 ?_
    refine Zw_icmp_ne 67 dX11_taken_53 (by decide) (fun c => absurd c (by decide)) (fun _ => ?_)
    refine Zw_aload_0 dX11_taken_56 ?_
    refine Zw_getr 68 lf_X11_32 dX11_taken_57 (by first | decide | assumption | omega) (by first | rfl | assumption) (by rfl) ?_
    refine Zw_iconst (v := 3) dX11_taken_60 (by decide) ?_
    refine Zw_iload_1 dX11_taken_61 ?_
    refine Zw_nmul (3) (f) dX11_taken_62 rfl rfl ?_
    refine Zw_ialdnv ((3 * f)) (nI nu) dX11_taken_63 (by first | decide | assumption | omega) (by first | rfl | assumption) rfl (by omega) (by decide) hnu ?_
    refine Zw_goto 69 dX11_taken_64 (by decide) ?_
    refine Zw_ireturn dX11_taken_69 (by first | rfl | assumption) ?_
    exact h1 (by decide)
  | 3, _ =>
    refine Zw_aload_0 dX11_taken_15 ?_
    refine Zw_iload_1 dX11_taken_16 ?_
    refine Zw_V1 (k := 1) lm_X11_86 dX11_taken_17 (by decide) (by first | decide | assumption | omega) (by first | rfl | assumption) (by rfl) (Nat.le_of_ble_eq_true rfl) ?_
    refine s_isOne n hn5 hn (fun _ => ?_) (fun a0 => absurd (vp_in_nI hf (by omega)) a0)
    refine Zw_if_ne 26 dX11_taken_20 (by decide) (fun _ => ?_) (fun c => absurd c (by decide))
    refine Zw_aload_0 dX11_taken_26 ?_
    refine Zw_getr 67 lf_X11_29 dX11_taken_27 (by first | decide | assumption | omega) (by first | rfl | assumption) (by rfl) ?_
    refine Zw_iload_1 dX11_taken_30 ?_
    refine Zw_ialdnv (f) (nI 2) dX11_taken_31 (by first | decide | assumption | omega) (by first | rfl | assumption) rfl (by omega) (by decide) hkd ?_
    refine Zw_istore_3 dX11_taken_32 rfl ?_
    refine Zw_iload_3 dX11_taken_33 ?_
    refine Zw_iconst (v := (-1)) dX11_taken_34 (by decide) ?_
    refine Zw_icmp_eq 51 dX11_taken_35 (by decide) (fun c => absurd c (by decide)) (fun _ => ?_)
    refine Zw_iload_3 dX11_taken_38 ?_
    refine Zw_iload_2 dX11_taken_39 ?_
    refine Zw_icmp_eq 51 dX11_taken_40 (by decide) (fun c => absurd c (by decide)) (fun _ => ?_)
    refine Zw_iload_3 dX11_taken_43 ?_
    refine Zw_S1 (k := 0) lm_X11_418 dX11_taken_44 (by decide) (Nat.le_of_ble_eq_true rfl) ?_
    refine s_over2 ?_
    refine Zw_istore_3 dX11_taken_47 rfl ?_
    refine Zw_goto 33 dX11_taken_48 (by decide) ?_
    refine Zw_iload_3 dX11_taken_33 ?_
    refine Zw_iconst (v := (-1)) dX11_taken_34 (by decide) ?_
    refine Zw_icmp_eq 51 dX11_taken_35 (by decide) (fun c => absurd c (by decide)) (fun _ => ?_)
    refine Zw_iload_3 dX11_taken_38 ?_
    refine Zw_iload_2 dX11_taken_39 ?_
    refine Zw_icmp_eq 51 dX11_taken_40 (by decide) (fun c => absurd c (by decide)) (fun _ => ?_)
    refine Zw_iload_3 dX11_taken_43 ?_
    refine Zw_S1 (k := 0) lm_X11_418 dX11_taken_44 (by decide) (Nat.le_of_ble_eq_true rfl) ?_
    refine s_over0 ?_
    refine Zw_istore_3 dX11_taken_47 rfl ?_
    refine Zw_goto 33 dX11_taken_48 (by decide) ?_
    refine Zw_iload_3 dX11_taken_33 ?_
    refine Zw_iconst (v := (-1)) dX11_taken_34 (by decide) ?_
    refine Zw_icmp_eq 51 dX11_taken_35 (by decide) (fun _ => ?_) (fun c => absurd c (by decide))
    refine Zw_iload_3 dX11_taken_51 ?_
    refine Zw_iload_2 dX11_taken_52 ?_
    refine Zw_icmp_ne 67 dX11_taken_53 (by decide) (fun _ => ?_) (fun c => absurd c (by decide))
    refine Zw_bipush (v := (-13)) dX11_taken_67 (by decide) ?_
    refine Zw_ireturn dX11_taken_69 (by first | rfl | assumption) ?_
    exact h0 (by decide)
  | 4, _ =>
    refine Zw_aload_0 dX11_taken_15 ?_
    refine Zw_iload_1 dX11_taken_16 ?_
    refine Zw_V1 (k := 1) lm_X11_86 dX11_taken_17 (by decide) (by first | decide | assumption | omega) (by first | rfl | assumption) (by rfl) (Nat.le_of_ble_eq_true rfl) ?_
    refine s_isOne n hn5 hn (fun _ => ?_) (fun a0 => absurd (vp_in_nI hf (by omega)) a0)
    refine Zw_if_ne 26 dX11_taken_20 (by decide) (fun _ => ?_) (fun c => absurd c (by decide))
    refine Zw_aload_0 dX11_taken_26 ?_
    refine Zw_getr 67 lf_X11_29 dX11_taken_27 (by first | decide | assumption | omega) (by first | rfl | assumption) (by rfl) ?_
    refine Zw_iload_1 dX11_taken_30 ?_
    refine Zw_ialdnv (f) (nI 2) dX11_taken_31 (by first | decide | assumption | omega) (by first | rfl | assumption) rfl (by omega) (by decide) hkd ?_
    refine Zw_istore_3 dX11_taken_32 rfl ?_
    refine Zw_iload_3 dX11_taken_33 ?_
    refine Zw_iconst (v := (-1)) dX11_taken_34 (by decide) ?_
    refine Zw_icmp_eq 51 dX11_taken_35 (by decide) (fun c => absurd c (by decide)) (fun _ => ?_)
    refine Zw_iload_3 dX11_taken_38 ?_
    refine Zw_iload_2 dX11_taken_39 ?_
    refine Zw_icmp_eq 51 dX11_taken_40 (by decide) (fun c => absurd c (by decide)) (fun _ => ?_)
    refine Zw_iload_3 dX11_taken_43 ?_
    refine Zw_S1 (k := 0) lm_X11_418 dX11_taken_44 (by decide) (Nat.le_of_ble_eq_true rfl) ?_
    refine s_over2 ?_
    refine Zw_istore_3 dX11_taken_47 rfl ?_
    refine Zw_goto 33 dX11_taken_48 (by decide) ?_
    refine Zw_iload_3 dX11_taken_33 ?_
    refine Zw_iconst (v := (-1)) dX11_taken_34 (by decide) ?_
    refine Zw_icmp_eq 51 dX11_taken_35 (by decide) (fun c => absurd c (by decide)) (fun _ => ?_)
    refine Zw_iload_3 dX11_taken_38 ?_
    refine Zw_iload_2 dX11_taken_39 ?_
    refine Zw_icmp_eq 51 dX11_taken_40 (by decide) (fun c => absurd c (by decide)) (fun _ => ?_)
    refine Zw_iload_3 dX11_taken_43 ?_
    refine Zw_S1 (k := 0) lm_X11_418 dX11_taken_44 (by decide) (Nat.le_of_ble_eq_true rfl) ?_
    refine s_over0 ?_
    refine Zw_istore_3 dX11_taken_47 rfl ?_
    refine Zw_goto 33 dX11_taken_48 (by decide) ?_
    refine Zw_iload_3 dX11_taken_33 ?_
    refine Zw_iconst (v := (-1)) dX11_taken_34 (by decide) ?_
    refine Zw_icmp_eq 51 dX11_taken_35 (by decide) (fun _ => ?_) (fun c => absurd c (by decide))
    refine Zw_iload_3 dX11_taken_51 ?_
    refine Zw_iload_2 dX11_taken_52 ?_
    refine Zw_icmp_ne 67 dX11_taken_53 (by decide) (fun _ => ?_) (fun c => absurd c (by decide))
    refine Zw_bipush (v := (-13)) dX11_taken_67 (by decide) ?_
    refine Zw_ireturn dX11_taken_69 (by first | rfl | assumption) ?_
    exact h0 (by decide)
  | 5, _ =>
    refine Zw_aload_0 dX11_taken_15 ?_
    refine Zw_iload_1 dX11_taken_16 ?_
    refine Zw_V1 (k := 1) lm_X11_86 dX11_taken_17 (by decide) (by first | decide | assumption | omega) (by first | rfl | assumption) (by rfl) (Nat.le_of_ble_eq_true rfl) ?_
    refine s_isOne n hn5 hn (fun _ => ?_) (fun a0 => absurd (vp_in_nI hf (by omega)) a0)
    refine Zw_if_ne 26 dX11_taken_20 (by decide) (fun _ => ?_) (fun c => absurd c (by decide))
    refine Zw_aload_0 dX11_taken_26 ?_
    refine Zw_getr 67 lf_X11_29 dX11_taken_27 (by first | decide | assumption | omega) (by first | rfl | assumption) (by rfl) ?_
    refine Zw_iload_1 dX11_taken_30 ?_
    refine Zw_ialdnv (f) (nI 2) dX11_taken_31 (by first | decide | assumption | omega) (by first | rfl | assumption) rfl (by omega) (by decide) hkd ?_
    refine Zw_istore_3 dX11_taken_32 rfl ?_
    refine Zw_iload_3 dX11_taken_33 ?_
    refine Zw_iconst (v := (-1)) dX11_taken_34 (by decide) ?_
    refine Zw_icmp_eq 51 dX11_taken_35 (by decide) (fun c => absurd c (by decide)) (fun _ => ?_)
    refine Zw_iload_3 dX11_taken_38 ?_
    refine Zw_iload_2 dX11_taken_39 ?_
    refine Zw_icmp_eq 51 dX11_taken_40 (by decide) (fun c => absurd c (by decide)) (fun _ => ?_)
    refine Zw_iload_3 dX11_taken_43 ?_
    refine Zw_S1 (k := 0) lm_X11_418 dX11_taken_44 (by decide) (Nat.le_of_ble_eq_true rfl) ?_
    refine s_over2 ?_
    refine Zw_istore_3 dX11_taken_47 rfl ?_
    refine Zw_goto 33 dX11_taken_48 (by decide) ?_
    refine Zw_iload_3 dX11_taken_33 ?_
    refine Zw_iconst (v := (-1)) dX11_taken_34 (by decide) ?_
    refine Zw_icmp_eq 51 dX11_taken_35 (by decide) (fun c => absurd c (by decide)) (fun _ => ?_)
    refine Zw_iload_3 dX11_taken_38 ?_
    refine Zw_iload_2 dX11_taken_39 ?_
    refine Zw_icmp_eq 51 dX11_taken_40 (by decide) (fun c => absurd c (by decide)) (fun _ => ?_)
    refine Zw_iload_3 dX11_taken_43 ?_
    refine Zw_S1 (k := 0) lm_X11_418 dX11_taken_44 (by decide) (Nat.le_of_ble_eq_true rfl) ?_
    refine s_over0 ?_
    refine Zw_istore_3 dX11_taken_47 rfl ?_
    refine Zw_goto 33 dX11_taken_48 (by decide) ?_
    refine Zw_iload_3 dX11_taken_33 ?_
    refine Zw_iconst (v := (-1)) dX11_taken_34 (by decide) ?_
    refine Zw_icmp_eq 51 dX11_taken_35 (by decide) (fun _ => ?_) (fun c => absurd c (by decide))
    refine Zw_iload_3 dX11_taken_51 ?_
    refine Zw_iload_2 dX11_taken_52 ?_
    refine Zw_icmp_ne 67 dX11_taken_53 (by decide) (fun _ => ?_) (fun c => absurd c (by decide))
    refine Zw_bipush (v := (-13)) dX11_taken_67 (by decide) ?_
    refine Zw_ireturn dX11_taken_69 (by first | rfl | assumption) ?_
    exact h0 (by decide)
  | n + 6, hc => exact absurd hc (by omega)
set_option maxRecDepth 20000 in
theorem s_mtaken3 {f nu : Nat} {k : Int32} {Q : zQ} {μ : zMu} {τ : Int64} (n : Nat) (hn5 : n ≤ 5) (hn : μ 61 11 = nI n) (hf : f < n) (hk : vp_in k 6) (hkd : μ 67 f = nI 3) (hnu : μ 68 (3 * f) = nI nu) (h1 : q_under 3 k = true → Q (some (.int (nI nu))) μ τ) (h0 : q_under 3 k = false → Q (some (.int (-13))) μ τ) : Zc 2 yX11_taken cX11_taken 4 (some .int) [.ref 61, .int (nI f), .int k] μ τ Q := by
  refine Zc.mk 1 [.ref 61, .int (nI f), .int k, .null] rfl (by decide) (Nat.le_of_ble_eq_true rfl) ?_
  refine Zw_iload_2 dX11_taken_0 ?_
  refine Zw_i2l dX11_taken_1 ?_
  refine Zw_lconst (v := 0) dX11_taken_2 (by decide) ?_
  refine Zw_ldc2 dX11_taken_3 zw28 ?_
  refine Zw_S3 (k := 0) lm_X11_76 dX11_taken_6 (by decide) (Nat.le_of_ble_eq_true rfl) ?_
  refine s_in0 6 (by decide) (fun _ => ?_) (fun a0 => absurd hk a0)
  refine Zw_if_ne 15 dX11_taken_9 (by decide) (fun _ => ?_) (fun c => absurd c (by decide))
  obtain ⟨c, hc, rfl⟩ := vp_in_of hk (by decide)
  match c, hc with
  | 0, _ =>
    refine Zw_aload_0 dX11_taken_15 ?_
    refine Zw_iload_1 dX11_taken_16 ?_
    refine Zw_V1 (k := 1) lm_X11_86 dX11_taken_17 (by decide) (by first | decide | assumption | omega) (by first | rfl | assumption) (by rfl) (Nat.le_of_ble_eq_true rfl) ?_
    refine s_isOne n hn5 hn (fun _ => ?_) (fun a0 => absurd (vp_in_nI hf (by omega)) a0)
    refine Zw_if_ne 26 dX11_taken_20 (by decide) (fun _ => ?_) (fun c => absurd c (by decide))
    refine Zw_aload_0 dX11_taken_26 ?_
    refine Zw_getr 67 lf_X11_29 dX11_taken_27 (by first | decide | assumption | omega) (by first | rfl | assumption) (by rfl) ?_
    refine Zw_iload_1 dX11_taken_30 ?_
    refine Zw_ialdnv (f) (nI 3) dX11_taken_31 (by first | decide | assumption | omega) (by first | rfl | assumption) rfl (by omega) (by decide) hkd ?_
    refine Zw_istore_3 dX11_taken_32 rfl ?_
    refine Zw_iload_3 dX11_taken_33 ?_
    refine Zw_iconst (v := (-1)) dX11_taken_34 (by decide) ?_
    refine Zw_icmp_eq 51 dX11_taken_35 (by decide) (fun c => absurd c (by decide)) (fun _ => ?_)
    refine Zw_iload_3 dX11_taken_38 ?_
    refine Zw_iload_2 dX11_taken_39 ?_
    refine Zw_icmp_eq 51 dX11_taken_40 (by decide) (fun c => absurd c (by decide)) (fun _ => ?_)
    refine Zw_iload_3 dX11_taken_43 ?_
    refine Zw_S1 (k := 0) lm_X11_418 dX11_taken_44 (by decide) (Nat.le_of_ble_eq_true rfl) ?_
    refine s_over3 ?_
    refine Zw_istore_3 dX11_taken_47 rfl ?_
    refine Zw_goto 33 dX11_taken_48 (by decide) ?_
    refine Zw_iload_3 dX11_taken_33 ?_
    refine Zw_iconst (v := (-1)) dX11_taken_34 (by decide) ?_
    refine Zw_icmp_eq 51 dX11_taken_35 (by decide) (fun c => absurd c (by decide)) (fun _ => ?_)
    refine Zw_iload_3 dX11_taken_38 ?_
    refine Zw_iload_2 dX11_taken_39 ?_
    refine Zw_icmp_eq 51 dX11_taken_40 (by decide) (fun c => absurd c (by decide)) (fun _ => ?_)
    refine Zw_iload_3 dX11_taken_43 ?_
    refine Zw_S1 (k := 0) lm_X11_418 dX11_taken_44 (by decide) (Nat.le_of_ble_eq_true rfl) ?_
    refine s_over1 ?_
    refine Zw_istore_3 dX11_taken_47 rfl ?_
    refine Zw_goto 33 dX11_taken_48 (by decide) ?_
    refine Zw_iload_3 dX11_taken_33 ?_
    refine Zw_iconst (v := (-1)) dX11_taken_34 (by decide) ?_
    refine Zw_icmp_eq 51 dX11_taken_35 (by decide) (fun c => absurd c (by decide)) (fun _ => ?_)
    refine Zw_iload_3 dX11_taken_38 ?_
    refine Zw_iload_2 dX11_taken_39 ?_
    refine Zw_icmp_eq 51 dX11_taken_40 (by decide) (fun _ => ?_) (fun c => absurd c (by decide))
    refine Zw_iload_3 dX11_taken_51 ?_
    refine Zw_iload_2 dX11_taken_52 ?_
    refine Zw_icmp_ne 67 dX11_taken_53 (by decide) (fun c => absurd c (by decide)) (fun _ => ?_)
    refine Zw_aload_0 dX11_taken_56 ?_
    refine Zw_getr 68 lf_X11_32 dX11_taken_57 (by first | decide | assumption | omega) (by first | rfl | assumption) (by rfl) ?_
    refine Zw_iconst (v := 3) dX11_taken_60 (by decide) ?_
    refine Zw_iload_1 dX11_taken_61 ?_
    refine Zw_nmul (3) (f) dX11_taken_62 rfl rfl ?_
    refine Zw_ialdnv ((3 * f)) (nI nu) dX11_taken_63 (by first | decide | assumption | omega) (by first | rfl | assumption) rfl (by omega) (by decide) hnu ?_
    refine Zw_goto 69 dX11_taken_64 (by decide) ?_
    refine Zw_ireturn dX11_taken_69 (by first | rfl | assumption) ?_
    exact h1 (by decide)
  | 1, _ =>
    refine Zw_aload_0 dX11_taken_15 ?_
    refine Zw_iload_1 dX11_taken_16 ?_
    refine Zw_V1 (k := 1) lm_X11_86 dX11_taken_17 (by decide) (by first | decide | assumption | omega) (by first | rfl | assumption) (by rfl) (Nat.le_of_ble_eq_true rfl) ?_
    refine s_isOne n hn5 hn (fun _ => ?_) (fun a0 => absurd (vp_in_nI hf (by omega)) a0)
    refine Zw_if_ne 26 dX11_taken_20 (by decide) (fun _ => ?_) (fun c => absurd c (by decide))
    refine Zw_aload_0 dX11_taken_26 ?_
    refine Zw_getr 67 lf_X11_29 dX11_taken_27 (by first | decide | assumption | omega) (by first | rfl | assumption) (by rfl) ?_
    refine Zw_iload_1 dX11_taken_30 ?_
    refine Zw_ialdnv (f) (nI 3) dX11_taken_31 (by first | decide | assumption | omega) (by first | rfl | assumption) rfl (by omega) (by decide) hkd ?_
    refine Zw_istore_3 dX11_taken_32 rfl ?_
    refine Zw_iload_3 dX11_taken_33 ?_
    refine Zw_iconst (v := (-1)) dX11_taken_34 (by decide) ?_
    refine Zw_icmp_eq 51 dX11_taken_35 (by decide) (fun c => absurd c (by decide)) (fun _ => ?_)
    refine Zw_iload_3 dX11_taken_38 ?_
    refine Zw_iload_2 dX11_taken_39 ?_
    refine Zw_icmp_eq 51 dX11_taken_40 (by decide) (fun c => absurd c (by decide)) (fun _ => ?_)
    refine Zw_iload_3 dX11_taken_43 ?_
    refine Zw_S1 (k := 0) lm_X11_418 dX11_taken_44 (by decide) (Nat.le_of_ble_eq_true rfl) ?_
    refine s_over3 ?_
    refine Zw_istore_3 dX11_taken_47 rfl ?_
    refine Zw_goto 33 dX11_taken_48 (by decide) ?_
    refine Zw_iload_3 dX11_taken_33 ?_
    refine Zw_iconst (v := (-1)) dX11_taken_34 (by decide) ?_
    refine Zw_icmp_eq 51 dX11_taken_35 (by decide) (fun c => absurd c (by decide)) (fun _ => ?_)
    refine Zw_iload_3 dX11_taken_38 ?_
    refine Zw_iload_2 dX11_taken_39 ?_
    refine Zw_icmp_eq 51 dX11_taken_40 (by decide) (fun _ => ?_) (fun c => absurd c (by decide))
    refine Zw_iload_3 dX11_taken_51 ?_
    refine Zw_iload_2 dX11_taken_52 ?_
    refine Zw_icmp_ne 67 dX11_taken_53 (by decide) (fun c => absurd c (by decide)) (fun _ => ?_)
    refine Zw_aload_0 dX11_taken_56 ?_
    refine Zw_getr 68 lf_X11_32 dX11_taken_57 (by first | decide | assumption | omega) (by first | rfl | assumption) (by rfl) ?_
    refine Zw_iconst (v := 3) dX11_taken_60 (by decide) ?_
    refine Zw_iload_1 dX11_taken_61 ?_
    refine Zw_nmul (3) (f) dX11_taken_62 rfl rfl ?_
    refine Zw_ialdnv ((3 * f)) (nI nu) dX11_taken_63 (by first | decide | assumption | omega) (by first | rfl | assumption) rfl (by omega) (by decide) hnu ?_
    refine Zw_goto 69 dX11_taken_64 (by decide) ?_
    refine Zw_ireturn dX11_taken_69 (by first | rfl | assumption) ?_
    exact h1 (by decide)
  | 2, _ =>
    refine Zw_aload_0 dX11_taken_15 ?_
    refine Zw_iload_1 dX11_taken_16 ?_
    refine Zw_V1 (k := 1) lm_X11_86 dX11_taken_17 (by decide) (by first | decide | assumption | omega) (by first | rfl | assumption) (by rfl) (Nat.le_of_ble_eq_true rfl) ?_
    refine s_isOne n hn5 hn (fun _ => ?_) (fun a0 => absurd (vp_in_nI hf (by omega)) a0)
    refine Zw_if_ne 26 dX11_taken_20 (by decide) (fun _ => ?_) (fun c => absurd c (by decide))
    refine Zw_aload_0 dX11_taken_26 ?_
    refine Zw_getr 67 lf_X11_29 dX11_taken_27 (by first | decide | assumption | omega) (by first | rfl | assumption) (by rfl) ?_
    refine Zw_iload_1 dX11_taken_30 ?_
    refine Zw_ialdnv (f) (nI 3) dX11_taken_31 (by first | decide | assumption | omega) (by first | rfl | assumption) rfl (by omega) (by decide) hkd ?_
    refine Zw_istore_3 dX11_taken_32 rfl ?_
    refine Zw_iload_3 dX11_taken_33 ?_
    refine Zw_iconst (v := (-1)) dX11_taken_34 (by decide) ?_
    refine Zw_icmp_eq 51 dX11_taken_35 (by decide) (fun c => absurd c (by decide)) (fun _ => ?_)
    refine Zw_iload_3 dX11_taken_38 ?_
    refine Zw_iload_2 dX11_taken_39 ?_
    refine Zw_icmp_eq 51 dX11_taken_40 (by decide) (fun c => absurd c (by decide)) (fun _ => ?_)
    refine Zw_iload_3 dX11_taken_43 ?_
    refine Zw_S1 (k := 0) lm_X11_418 dX11_taken_44 (by decide) (Nat.le_of_ble_eq_true rfl) ?_
    refine s_over3 ?_
    refine Zw_istore_3 dX11_taken_47 rfl ?_
    refine Zw_goto 33 dX11_taken_48 (by decide) ?_
    refine Zw_iload_3 dX11_taken_33 ?_
    refine Zw_iconst (v := (-1)) dX11_taken_34 (by decide) ?_
    refine Zw_icmp_eq 51 dX11_taken_35 (by decide) (fun c => absurd c (by decide)) (fun _ => ?_)
    refine Zw_iload_3 dX11_taken_38 ?_
    refine Zw_iload_2 dX11_taken_39 ?_
    refine Zw_icmp_eq 51 dX11_taken_40 (by decide) (fun c => absurd c (by decide)) (fun _ => ?_)
    refine Zw_iload_3 dX11_taken_43 ?_
    refine Zw_S1 (k := 0) lm_X11_418 dX11_taken_44 (by decide) (Nat.le_of_ble_eq_true rfl) ?_
    refine s_over1 ?_
    refine Zw_istore_3 dX11_taken_47 rfl ?_
    refine Zw_goto 33 dX11_taken_48 (by decide) ?_
    refine Zw_iload_3 dX11_taken_33 ?_
    refine Zw_iconst (v := (-1)) dX11_taken_34 (by decide) ?_
    refine Zw_icmp_eq 51 dX11_taken_35 (by decide) (fun c => absurd c (by decide)) (fun _ => ?_)
    refine Zw_iload_3 dX11_taken_38 ?_
    refine Zw_iload_2 dX11_taken_39 ?_
    refine Zw_icmp_eq 51 dX11_taken_40 (by decide) (fun c => absurd c (by decide)) (fun _ => ?_)
    refine Zw_iload_3 dX11_taken_43 ?_
    refine Zw_S1 (k := 0) lm_X11_418 dX11_taken_44 (by decide) (Nat.le_of_ble_eq_true rfl) ?_
    refine s_over0 ?_
    refine Zw_istore_3 dX11_taken_47 rfl ?_
    refine Zw_goto 33 dX11_taken_48 (by decide) ?_
    refine Zw_iload_3 dX11_taken_33 ?_
    refine Zw_iconst (v := (-1)) dX11_taken_34 (by decide) ?_
    refine Zw_icmp_eq 51 dX11_taken_35 (by decide) (fun _ => ?_) (fun c => absurd c (by decide))
    refine Zw_iload_3 dX11_taken_51 ?_
    refine Zw_iload_2 dX11_taken_52 ?_
    refine Zw_icmp_ne 67 dX11_taken_53 (by decide) (fun _ => ?_) (fun c => absurd c (by decide))
    refine Zw_bipush (v := (-13)) dX11_taken_67 (by decide) ?_
    refine Zw_ireturn dX11_taken_69 (by first | rfl | assumption) ?_
    exact h0 (by decide)
  | 3, _ =>
    refine Zw_aload_0 dX11_taken_15 ?_
    refine Zw_iload_1 dX11_taken_16 ?_
    refine Zw_V1 (k := 1) lm_X11_86 dX11_taken_17 (by decide) (by first | decide | assumption | omega) (by first | rfl | assumption) (by rfl) (Nat.le_of_ble_eq_true rfl) ?_
    refine s_isOne n hn5 hn (fun _ => ?_) (fun a0 => absurd (vp_in_nI hf (by omega)) a0)
    refine Zw_if_ne 26 dX11_taken_20 (by decide) (fun _ => ?_) (fun c => absurd c (by decide))
    refine Zw_aload_0 dX11_taken_26 ?_
    refine Zw_getr 67 lf_X11_29 dX11_taken_27 (by first | decide | assumption | omega) (by first | rfl | assumption) (by rfl) ?_
    refine Zw_iload_1 dX11_taken_30 ?_
    refine Zw_ialdnv (f) (nI 3) dX11_taken_31 (by first | decide | assumption | omega) (by first | rfl | assumption) rfl (by omega) (by decide) hkd ?_
    refine Zw_istore_3 dX11_taken_32 rfl ?_
    refine Zw_iload_3 dX11_taken_33 ?_
    refine Zw_iconst (v := (-1)) dX11_taken_34 (by decide) ?_
    refine Zw_icmp_eq 51 dX11_taken_35 (by decide) (fun c => absurd c (by decide)) (fun _ => ?_)
    refine Zw_iload_3 dX11_taken_38 ?_
    refine Zw_iload_2 dX11_taken_39 ?_
    refine Zw_icmp_eq 51 dX11_taken_40 (by decide) (fun _ => ?_) (fun c => absurd c (by decide))
    refine Zw_iload_3 dX11_taken_51 ?_
    refine Zw_iload_2 dX11_taken_52 ?_
    refine Zw_icmp_ne 67 dX11_taken_53 (by decide) (fun c => absurd c (by decide)) (fun _ => ?_)
    refine Zw_aload_0 dX11_taken_56 ?_
    refine Zw_getr 68 lf_X11_32 dX11_taken_57 (by first | decide | assumption | omega) (by first | rfl | assumption) (by rfl) ?_
    refine Zw_iconst (v := 3) dX11_taken_60 (by decide) ?_
    refine Zw_iload_1 dX11_taken_61 ?_
    refine Zw_nmul (3) (f) dX11_taken_62 rfl rfl ?_
    refine Zw_ialdnv ((3 * f)) (nI nu) dX11_taken_63 (by first | decide | assumption | omega) (by first | rfl | assumption) rfl (by omega) (by decide) hnu ?_
    refine Zw_goto 69 dX11_taken_64 (by decide) ?_
    refine Zw_ireturn dX11_taken_69 (by first | rfl | assumption) ?_
    exact h1 (by decide)
  | 4, _ =>
    refine Zw_aload_0 dX11_taken_15 ?_
    refine Zw_iload_1 dX11_taken_16 ?_
    refine Zw_V1 (k := 1) lm_X11_86 dX11_taken_17 (by decide) (by first | decide | assumption | omega) (by first | rfl | assumption) (by rfl) (Nat.le_of_ble_eq_true rfl) ?_
    refine s_isOne n hn5 hn (fun _ => ?_) (fun a0 => absurd (vp_in_nI hf (by omega)) a0)
    refine Zw_if_ne 26 dX11_taken_20 (by decide) (fun _ => ?_) (fun c => absurd c (by decide))
    refine Zw_aload_0 dX11_taken_26 ?_
    refine Zw_getr 67 lf_X11_29 dX11_taken_27 (by first | decide | assumption | omega) (by first | rfl | assumption) (by rfl) ?_
    refine Zw_iload_1 dX11_taken_30 ?_
    refine Zw_ialdnv (f) (nI 3) dX11_taken_31 (by first | decide | assumption | omega) (by first | rfl | assumption) rfl (by omega) (by decide) hkd ?_
    refine Zw_istore_3 dX11_taken_32 rfl ?_
    refine Zw_iload_3 dX11_taken_33 ?_
    refine Zw_iconst (v := (-1)) dX11_taken_34 (by decide) ?_
    refine Zw_icmp_eq 51 dX11_taken_35 (by decide) (fun c => absurd c (by decide)) (fun _ => ?_)
    refine Zw_iload_3 dX11_taken_38 ?_
    refine Zw_iload_2 dX11_taken_39 ?_
    refine Zw_icmp_eq 51 dX11_taken_40 (by decide) (fun c => absurd c (by decide)) (fun _ => ?_)
    refine Zw_iload_3 dX11_taken_43 ?_
    refine Zw_S1 (k := 0) lm_X11_418 dX11_taken_44 (by decide) (Nat.le_of_ble_eq_true rfl) ?_
    refine s_over3 ?_
    refine Zw_istore_3 dX11_taken_47 rfl ?_
    refine Zw_goto 33 dX11_taken_48 (by decide) ?_
    refine Zw_iload_3 dX11_taken_33 ?_
    refine Zw_iconst (v := (-1)) dX11_taken_34 (by decide) ?_
    refine Zw_icmp_eq 51 dX11_taken_35 (by decide) (fun c => absurd c (by decide)) (fun _ => ?_)
    refine Zw_iload_3 dX11_taken_38 ?_
    refine Zw_iload_2 dX11_taken_39 ?_
    refine Zw_icmp_eq 51 dX11_taken_40 (by decide) (fun c => absurd c (by decide)) (fun _ => ?_)
    refine Zw_iload_3 dX11_taken_43 ?_
    refine Zw_S1 (k := 0) lm_X11_418 dX11_taken_44 (by decide) (Nat.le_of_ble_eq_true rfl) ?_
    refine s_over1 ?_
    refine Zw_istore_3 dX11_taken_47 rfl ?_
    refine Zw_goto 33 dX11_taken_48 (by decide) ?_
    refine Zw_iload_3 dX11_taken_33 ?_
    refine Zw_iconst (v := (-1)) dX11_taken_34 (by decide) ?_
    refine Zw_icmp_eq 51 dX11_taken_35 (by decide) (fun c => absurd c (by decide)) (fun _ => ?_)
    refine Zw_iload_3 dX11_taken_38 ?_
    refine Zw_iload_2 dX11_taken_39 ?_
    refine Zw_icmp_eq 51 dX11_taken_40 (by decide) (fun c => absurd c (by decide)) (fun _ => ?_)
    refine Zw_iload_3 dX11_taken_43 ?_
    refine Zw_S1 (k := 0) lm_X11_418 dX11_taken_44 (by decide) (Nat.le_of_ble_eq_true rfl) ?_
    refine s_over0 ?_
    refine Zw_istore_3 dX11_taken_47 rfl ?_
    refine Zw_goto 33 dX11_taken_48 (by decide) ?_
    refine Zw_iload_3 dX11_taken_33 ?_
    refine Zw_iconst (v := (-1)) dX11_taken_34 (by decide) ?_
    refine Zw_icmp_eq 51 dX11_taken_35 (by decide) (fun _ => ?_) (fun c => absurd c (by decide))
    refine Zw_iload_3 dX11_taken_51 ?_
    refine Zw_iload_2 dX11_taken_52 ?_
    refine Zw_icmp_ne 67 dX11_taken_53 (by decide) (fun _ => ?_) (fun c => absurd c (by decide))
    refine Zw_bipush (v := (-13)) dX11_taken_67 (by decide) ?_
    refine Zw_ireturn dX11_taken_69 (by first | rfl | assumption) ?_
    exact h0 (by decide)
  | 5, _ =>
    refine Zw_aload_0 dX11_taken_15 ?_
    refine Zw_iload_1 dX11_taken_16 ?_
    refine Zw_V1 (k := 1) lm_X11_86 dX11_taken_17 (by decide) (by first | decide | assumption | omega) (by first | rfl | assumption) (by rfl) (Nat.le_of_ble_eq_true rfl) ?_
    refine s_isOne n hn5 hn (fun _ => ?_) (fun a0 => absurd (vp_in_nI hf (by omega)) a0)
    refine Zw_if_ne 26 dX11_taken_20 (by decide) (fun _ => ?_) (fun c => absurd c (by decide))
    refine Zw_aload_0 dX11_taken_26 ?_
    refine Zw_getr 67 lf_X11_29 dX11_taken_27 (by first | decide | assumption | omega) (by first | rfl | assumption) (by rfl) ?_
    refine Zw_iload_1 dX11_taken_30 ?_
    refine Zw_ialdnv (f) (nI 3) dX11_taken_31 (by first | decide | assumption | omega) (by first | rfl | assumption) rfl (by omega) (by decide) hkd ?_
    refine Zw_istore_3 dX11_taken_32 rfl ?_
    refine Zw_iload_3 dX11_taken_33 ?_
    refine Zw_iconst (v := (-1)) dX11_taken_34 (by decide) ?_
    refine Zw_icmp_eq 51 dX11_taken_35 (by decide) (fun c => absurd c (by decide)) (fun _ => ?_)
    refine Zw_iload_3 dX11_taken_38 ?_
    refine Zw_iload_2 dX11_taken_39 ?_
    refine Zw_icmp_eq 51 dX11_taken_40 (by decide) (fun c => absurd c (by decide)) (fun _ => ?_)
    refine Zw_iload_3 dX11_taken_43 ?_
    refine Zw_S1 (k := 0) lm_X11_418 dX11_taken_44 (by decide) (Nat.le_of_ble_eq_true rfl) ?_
    refine s_over3 ?_
    refine Zw_istore_3 dX11_taken_47 rfl ?_
    refine Zw_goto 33 dX11_taken_48 (by decide) ?_
    refine Zw_iload_3 dX11_taken_33 ?_
    refine Zw_iconst (v := (-1)) dX11_taken_34 (by decide) ?_
    refine Zw_icmp_eq 51 dX11_taken_35 (by decide) (fun c => absurd c (by decide)) (fun _ => ?_)
    refine Zw_iload_3 dX11_taken_38 ?_
    refine Zw_iload_2 dX11_taken_39 ?_
    refine Zw_icmp_eq 51 dX11_taken_40 (by decide) (fun c => absurd c (by decide)) (fun _ => ?_)
    refine Zw_iload_3 dX11_taken_43 ?_
    refine Zw_S1 (k := 0) lm_X11_418 dX11_taken_44 (by decide) (Nat.le_of_ble_eq_true rfl) ?_
    refine s_over1 ?_
    refine Zw_istore_3 dX11_taken_47 rfl ?_
    refine Zw_goto 33 dX11_taken_48 (by decide) ?_
    refine Zw_iload_3 dX11_taken_33 ?_
    refine Zw_iconst (v := (-1)) dX11_taken_34 (by decide) ?_
    refine Zw_icmp_eq 51 dX11_taken_35 (by decide) (fun c => absurd c (by decide)) (fun _ => ?_)
    refine Zw_iload_3 dX11_taken_38 ?_
    refine Zw_iload_2 dX11_taken_39 ?_
    refine Zw_icmp_eq 51 dX11_taken_40 (by decide) (fun c => absurd c (by decide)) (fun _ => ?_)
    refine Zw_iload_3 dX11_taken_43 ?_
    refine Zw_S1 (k := 0) lm_X11_418 dX11_taken_44 (by decide) (Nat.le_of_ble_eq_true rfl) ?_
    refine s_over0 ?_
    refine Zw_istore_3 dX11_taken_47 rfl ?_
    refine Zw_goto 33 dX11_taken_48 (by decide) ?_
    refine Zw_iload_3 dX11_taken_33 ?_
    refine Zw_iconst (v := (-1)) dX11_taken_34 (by decide) ?_
    refine Zw_icmp_eq 51 dX11_taken_35 (by decide) (fun _ => ?_) (fun c => absurd c (by decide))
    refine Zw_iload_3 dX11_taken_51 ?_
    refine Zw_iload_2 dX11_taken_52 ?_
    refine Zw_icmp_ne 67 dX11_taken_53 (by decide) (fun _ => ?_) (fun c => absurd c (by decide))
    refine Zw_bipush (v := (-13)) dX11_taken_67 (by decide) ?_
    refine Zw_ireturn dX11_taken_69 (by first | rfl | assumption) ?_
    exact h0 (by decide)
  | n + 6, hc => exact absurd hc (by omega)
set_option maxRecDepth 20000 in
theorem s_mtaken4 {f nu : Nat} {k : Int32} {Q : zQ} {μ : zMu} {τ : Int64} (n : Nat) (hn5 : n ≤ 5) (hn : μ 61 11 = nI n) (hf : f < n) (hk : vp_in k 6) (hkd : μ 67 f = nI 4) (hnu : μ 68 (3 * f) = nI nu) (h1 : q_under 4 k = true → Q (some (.int (nI nu))) μ τ) (h0 : q_under 4 k = false → Q (some (.int (-13))) μ τ) : Zc 2 yX11_taken cX11_taken 4 (some .int) [.ref 61, .int (nI f), .int k] μ τ Q := by
  refine Zc.mk 1 [.ref 61, .int (nI f), .int k, .null] rfl (by decide) (Nat.le_of_ble_eq_true rfl) ?_
  refine Zw_iload_2 dX11_taken_0 ?_
  refine Zw_i2l dX11_taken_1 ?_
  refine Zw_lconst (v := 0) dX11_taken_2 (by decide) ?_
  refine Zw_ldc2 dX11_taken_3 zw28 ?_
  refine Zw_S3 (k := 0) lm_X11_76 dX11_taken_6 (by decide) (Nat.le_of_ble_eq_true rfl) ?_
  refine s_in0 6 (by decide) (fun _ => ?_) (fun a0 => absurd hk a0)
  refine Zw_if_ne 15 dX11_taken_9 (by decide) (fun _ => ?_) (fun c => absurd c (by decide))
  obtain ⟨c, hc, rfl⟩ := vp_in_of hk (by decide)
  match c, hc with
  | 0, _ =>
    refine Zw_aload_0 dX11_taken_15 ?_
    refine Zw_iload_1 dX11_taken_16 ?_
    refine Zw_V1 (k := 1) lm_X11_86 dX11_taken_17 (by decide) (by first | decide | assumption | omega) (by first | rfl | assumption) (by rfl) (Nat.le_of_ble_eq_true rfl) ?_
    refine s_isOne n hn5 hn (fun _ => ?_) (fun a0 => absurd (vp_in_nI hf (by omega)) a0)
    refine Zw_if_ne 26 dX11_taken_20 (by decide) (fun _ => ?_) (fun c => absurd c (by decide))
    refine Zw_aload_0 dX11_taken_26 ?_
    refine Zw_getr 67 lf_X11_29 dX11_taken_27 (by first | decide | assumption | omega) (by first | rfl | assumption) (by rfl) ?_
    refine Zw_iload_1 dX11_taken_30 ?_
    refine Zw_ialdnv (f) (nI 4) dX11_taken_31 (by first | decide | assumption | omega) (by first | rfl | assumption) rfl (by omega) (by decide) hkd ?_
    refine Zw_istore_3 dX11_taken_32 rfl ?_
    refine Zw_iload_3 dX11_taken_33 ?_
    refine Zw_iconst (v := (-1)) dX11_taken_34 (by decide) ?_
    refine Zw_icmp_eq 51 dX11_taken_35 (by decide) (fun c => absurd c (by decide)) (fun _ => ?_)
    refine Zw_iload_3 dX11_taken_38 ?_
    refine Zw_iload_2 dX11_taken_39 ?_
    refine Zw_icmp_eq 51 dX11_taken_40 (by decide) (fun c => absurd c (by decide)) (fun _ => ?_)
    refine Zw_iload_3 dX11_taken_43 ?_
    refine Zw_S1 (k := 0) lm_X11_418 dX11_taken_44 (by decide) (Nat.le_of_ble_eq_true rfl) ?_
    refine s_over4 ?_
    refine Zw_istore_3 dX11_taken_47 rfl ?_
    refine Zw_goto 33 dX11_taken_48 (by decide) ?_
    refine Zw_iload_3 dX11_taken_33 ?_
    refine Zw_iconst (v := (-1)) dX11_taken_34 (by decide) ?_
    refine Zw_icmp_eq 51 dX11_taken_35 (by decide) (fun c => absurd c (by decide)) (fun _ => ?_)
    refine Zw_iload_3 dX11_taken_38 ?_
    refine Zw_iload_2 dX11_taken_39 ?_
    refine Zw_icmp_eq 51 dX11_taken_40 (by decide) (fun c => absurd c (by decide)) (fun _ => ?_)
    refine Zw_iload_3 dX11_taken_43 ?_
    refine Zw_S1 (k := 0) lm_X11_418 dX11_taken_44 (by decide) (Nat.le_of_ble_eq_true rfl) ?_
    refine s_over2 ?_
    refine Zw_istore_3 dX11_taken_47 rfl ?_
    refine Zw_goto 33 dX11_taken_48 (by decide) ?_
    refine Zw_iload_3 dX11_taken_33 ?_
    refine Zw_iconst (v := (-1)) dX11_taken_34 (by decide) ?_
    refine Zw_icmp_eq 51 dX11_taken_35 (by decide) (fun c => absurd c (by decide)) (fun _ => ?_)
    refine Zw_iload_3 dX11_taken_38 ?_
    refine Zw_iload_2 dX11_taken_39 ?_
    refine Zw_icmp_eq 51 dX11_taken_40 (by decide) (fun _ => ?_) (fun c => absurd c (by decide))
    refine Zw_iload_3 dX11_taken_51 ?_
    refine Zw_iload_2 dX11_taken_52 ?_
    refine Zw_icmp_ne 67 dX11_taken_53 (by decide) (fun c => absurd c (by decide)) (fun _ => ?_)
    refine Zw_aload_0 dX11_taken_56 ?_
    refine Zw_getr 68 lf_X11_32 dX11_taken_57 (by first | decide | assumption | omega) (by first | rfl | assumption) (by rfl) ?_
    refine Zw_iconst (v := 3) dX11_taken_60 (by decide) ?_
    refine Zw_iload_1 dX11_taken_61 ?_
    refine Zw_nmul (3) (f) dX11_taken_62 rfl rfl ?_
    refine Zw_ialdnv ((3 * f)) (nI nu) dX11_taken_63 (by first | decide | assumption | omega) (by first | rfl | assumption) rfl (by omega) (by decide) hnu ?_
    refine Zw_goto 69 dX11_taken_64 (by decide) ?_
    refine Zw_ireturn dX11_taken_69 (by first | rfl | assumption) ?_
    exact h1 (by decide)
  | 1, _ =>
    refine Zw_aload_0 dX11_taken_15 ?_
    refine Zw_iload_1 dX11_taken_16 ?_
    refine Zw_V1 (k := 1) lm_X11_86 dX11_taken_17 (by decide) (by first | decide | assumption | omega) (by first | rfl | assumption) (by rfl) (Nat.le_of_ble_eq_true rfl) ?_
    refine s_isOne n hn5 hn (fun _ => ?_) (fun a0 => absurd (vp_in_nI hf (by omega)) a0)
    refine Zw_if_ne 26 dX11_taken_20 (by decide) (fun _ => ?_) (fun c => absurd c (by decide))
    refine Zw_aload_0 dX11_taken_26 ?_
    refine Zw_getr 67 lf_X11_29 dX11_taken_27 (by first | decide | assumption | omega) (by first | rfl | assumption) (by rfl) ?_
    refine Zw_iload_1 dX11_taken_30 ?_
    refine Zw_ialdnv (f) (nI 4) dX11_taken_31 (by first | decide | assumption | omega) (by first | rfl | assumption) rfl (by omega) (by decide) hkd ?_
    refine Zw_istore_3 dX11_taken_32 rfl ?_
    refine Zw_iload_3 dX11_taken_33 ?_
    refine Zw_iconst (v := (-1)) dX11_taken_34 (by decide) ?_
    refine Zw_icmp_eq 51 dX11_taken_35 (by decide) (fun c => absurd c (by decide)) (fun _ => ?_)
    refine Zw_iload_3 dX11_taken_38 ?_
    refine Zw_iload_2 dX11_taken_39 ?_
    refine Zw_icmp_eq 51 dX11_taken_40 (by decide) (fun c => absurd c (by decide)) (fun _ => ?_)
    refine Zw_iload_3 dX11_taken_43 ?_
    refine Zw_S1 (k := 0) lm_X11_418 dX11_taken_44 (by decide) (Nat.le_of_ble_eq_true rfl) ?_
    refine s_over4 ?_
    refine Zw_istore_3 dX11_taken_47 rfl ?_
    refine Zw_goto 33 dX11_taken_48 (by decide) ?_
    refine Zw_iload_3 dX11_taken_33 ?_
    refine Zw_iconst (v := (-1)) dX11_taken_34 (by decide) ?_
    refine Zw_icmp_eq 51 dX11_taken_35 (by decide) (fun c => absurd c (by decide)) (fun _ => ?_)
    refine Zw_iload_3 dX11_taken_38 ?_
    refine Zw_iload_2 dX11_taken_39 ?_
    refine Zw_icmp_eq 51 dX11_taken_40 (by decide) (fun c => absurd c (by decide)) (fun _ => ?_)
    refine Zw_iload_3 dX11_taken_43 ?_
    refine Zw_S1 (k := 0) lm_X11_418 dX11_taken_44 (by decide) (Nat.le_of_ble_eq_true rfl) ?_
    refine s_over2 ?_
    refine Zw_istore_3 dX11_taken_47 rfl ?_
    refine Zw_goto 33 dX11_taken_48 (by decide) ?_
    refine Zw_iload_3 dX11_taken_33 ?_
    refine Zw_iconst (v := (-1)) dX11_taken_34 (by decide) ?_
    refine Zw_icmp_eq 51 dX11_taken_35 (by decide) (fun c => absurd c (by decide)) (fun _ => ?_)
    refine Zw_iload_3 dX11_taken_38 ?_
    refine Zw_iload_2 dX11_taken_39 ?_
    refine Zw_icmp_eq 51 dX11_taken_40 (by decide) (fun c => absurd c (by decide)) (fun _ => ?_)
    refine Zw_iload_3 dX11_taken_43 ?_
    refine Zw_S1 (k := 0) lm_X11_418 dX11_taken_44 (by decide) (Nat.le_of_ble_eq_true rfl) ?_
    refine s_over0 ?_
    refine Zw_istore_3 dX11_taken_47 rfl ?_
    refine Zw_goto 33 dX11_taken_48 (by decide) ?_
    refine Zw_iload_3 dX11_taken_33 ?_
    refine Zw_iconst (v := (-1)) dX11_taken_34 (by decide) ?_
    refine Zw_icmp_eq 51 dX11_taken_35 (by decide) (fun _ => ?_) (fun c => absurd c (by decide))
    refine Zw_iload_3 dX11_taken_51 ?_
    refine Zw_iload_2 dX11_taken_52 ?_
    refine Zw_icmp_ne 67 dX11_taken_53 (by decide) (fun _ => ?_) (fun c => absurd c (by decide))
    refine Zw_bipush (v := (-13)) dX11_taken_67 (by decide) ?_
    refine Zw_ireturn dX11_taken_69 (by first | rfl | assumption) ?_
    exact h0 (by decide)
  | 2, _ =>
    refine Zw_aload_0 dX11_taken_15 ?_
    refine Zw_iload_1 dX11_taken_16 ?_
    refine Zw_V1 (k := 1) lm_X11_86 dX11_taken_17 (by decide) (by first | decide | assumption | omega) (by first | rfl | assumption) (by rfl) (Nat.le_of_ble_eq_true rfl) ?_
    refine s_isOne n hn5 hn (fun _ => ?_) (fun a0 => absurd (vp_in_nI hf (by omega)) a0)
    refine Zw_if_ne 26 dX11_taken_20 (by decide) (fun _ => ?_) (fun c => absurd c (by decide))
    refine Zw_aload_0 dX11_taken_26 ?_
    refine Zw_getr 67 lf_X11_29 dX11_taken_27 (by first | decide | assumption | omega) (by first | rfl | assumption) (by rfl) ?_
    refine Zw_iload_1 dX11_taken_30 ?_
    refine Zw_ialdnv (f) (nI 4) dX11_taken_31 (by first | decide | assumption | omega) (by first | rfl | assumption) rfl (by omega) (by decide) hkd ?_
    refine Zw_istore_3 dX11_taken_32 rfl ?_
    refine Zw_iload_3 dX11_taken_33 ?_
    refine Zw_iconst (v := (-1)) dX11_taken_34 (by decide) ?_
    refine Zw_icmp_eq 51 dX11_taken_35 (by decide) (fun c => absurd c (by decide)) (fun _ => ?_)
    refine Zw_iload_3 dX11_taken_38 ?_
    refine Zw_iload_2 dX11_taken_39 ?_
    refine Zw_icmp_eq 51 dX11_taken_40 (by decide) (fun c => absurd c (by decide)) (fun _ => ?_)
    refine Zw_iload_3 dX11_taken_43 ?_
    refine Zw_S1 (k := 0) lm_X11_418 dX11_taken_44 (by decide) (Nat.le_of_ble_eq_true rfl) ?_
    refine s_over4 ?_
    refine Zw_istore_3 dX11_taken_47 rfl ?_
    refine Zw_goto 33 dX11_taken_48 (by decide) ?_
    refine Zw_iload_3 dX11_taken_33 ?_
    refine Zw_iconst (v := (-1)) dX11_taken_34 (by decide) ?_
    refine Zw_icmp_eq 51 dX11_taken_35 (by decide) (fun c => absurd c (by decide)) (fun _ => ?_)
    refine Zw_iload_3 dX11_taken_38 ?_
    refine Zw_iload_2 dX11_taken_39 ?_
    refine Zw_icmp_eq 51 dX11_taken_40 (by decide) (fun _ => ?_) (fun c => absurd c (by decide))
    refine Zw_iload_3 dX11_taken_51 ?_
    refine Zw_iload_2 dX11_taken_52 ?_
    refine Zw_icmp_ne 67 dX11_taken_53 (by decide) (fun c => absurd c (by decide)) (fun _ => ?_)
    refine Zw_aload_0 dX11_taken_56 ?_
    refine Zw_getr 68 lf_X11_32 dX11_taken_57 (by first | decide | assumption | omega) (by first | rfl | assumption) (by rfl) ?_
    refine Zw_iconst (v := 3) dX11_taken_60 (by decide) ?_
    refine Zw_iload_1 dX11_taken_61 ?_
    refine Zw_nmul (3) (f) dX11_taken_62 rfl rfl ?_
    refine Zw_ialdnv ((3 * f)) (nI nu) dX11_taken_63 (by first | decide | assumption | omega) (by first | rfl | assumption) rfl (by omega) (by decide) hnu ?_
    refine Zw_goto 69 dX11_taken_64 (by decide) ?_
    refine Zw_ireturn dX11_taken_69 (by first | rfl | assumption) ?_
    exact h1 (by decide)
  | 3, _ =>
    refine Zw_aload_0 dX11_taken_15 ?_
    refine Zw_iload_1 dX11_taken_16 ?_
    refine Zw_V1 (k := 1) lm_X11_86 dX11_taken_17 (by decide) (by first | decide | assumption | omega) (by first | rfl | assumption) (by rfl) (Nat.le_of_ble_eq_true rfl) ?_
    refine s_isOne n hn5 hn (fun _ => ?_) (fun a0 => absurd (vp_in_nI hf (by omega)) a0)
    refine Zw_if_ne 26 dX11_taken_20 (by decide) (fun _ => ?_) (fun c => absurd c (by decide))
    refine Zw_aload_0 dX11_taken_26 ?_
    refine Zw_getr 67 lf_X11_29 dX11_taken_27 (by first | decide | assumption | omega) (by first | rfl | assumption) (by rfl) ?_
    refine Zw_iload_1 dX11_taken_30 ?_
    refine Zw_ialdnv (f) (nI 4) dX11_taken_31 (by first | decide | assumption | omega) (by first | rfl | assumption) rfl (by omega) (by decide) hkd ?_
    refine Zw_istore_3 dX11_taken_32 rfl ?_
    refine Zw_iload_3 dX11_taken_33 ?_
    refine Zw_iconst (v := (-1)) dX11_taken_34 (by decide) ?_
    refine Zw_icmp_eq 51 dX11_taken_35 (by decide) (fun c => absurd c (by decide)) (fun _ => ?_)
    refine Zw_iload_3 dX11_taken_38 ?_
    refine Zw_iload_2 dX11_taken_39 ?_
    refine Zw_icmp_eq 51 dX11_taken_40 (by decide) (fun c => absurd c (by decide)) (fun _ => ?_)
    refine Zw_iload_3 dX11_taken_43 ?_
    refine Zw_S1 (k := 0) lm_X11_418 dX11_taken_44 (by decide) (Nat.le_of_ble_eq_true rfl) ?_
    refine s_over4 ?_
    refine Zw_istore_3 dX11_taken_47 rfl ?_
    refine Zw_goto 33 dX11_taken_48 (by decide) ?_
    refine Zw_iload_3 dX11_taken_33 ?_
    refine Zw_iconst (v := (-1)) dX11_taken_34 (by decide) ?_
    refine Zw_icmp_eq 51 dX11_taken_35 (by decide) (fun c => absurd c (by decide)) (fun _ => ?_)
    refine Zw_iload_3 dX11_taken_38 ?_
    refine Zw_iload_2 dX11_taken_39 ?_
    refine Zw_icmp_eq 51 dX11_taken_40 (by decide) (fun c => absurd c (by decide)) (fun _ => ?_)
    refine Zw_iload_3 dX11_taken_43 ?_
    refine Zw_S1 (k := 0) lm_X11_418 dX11_taken_44 (by decide) (Nat.le_of_ble_eq_true rfl) ?_
    refine s_over2 ?_
    refine Zw_istore_3 dX11_taken_47 rfl ?_
    refine Zw_goto 33 dX11_taken_48 (by decide) ?_
    refine Zw_iload_3 dX11_taken_33 ?_
    refine Zw_iconst (v := (-1)) dX11_taken_34 (by decide) ?_
    refine Zw_icmp_eq 51 dX11_taken_35 (by decide) (fun c => absurd c (by decide)) (fun _ => ?_)
    refine Zw_iload_3 dX11_taken_38 ?_
    refine Zw_iload_2 dX11_taken_39 ?_
    refine Zw_icmp_eq 51 dX11_taken_40 (by decide) (fun c => absurd c (by decide)) (fun _ => ?_)
    refine Zw_iload_3 dX11_taken_43 ?_
    refine Zw_S1 (k := 0) lm_X11_418 dX11_taken_44 (by decide) (Nat.le_of_ble_eq_true rfl) ?_
    refine s_over0 ?_
    refine Zw_istore_3 dX11_taken_47 rfl ?_
    refine Zw_goto 33 dX11_taken_48 (by decide) ?_
    refine Zw_iload_3 dX11_taken_33 ?_
    refine Zw_iconst (v := (-1)) dX11_taken_34 (by decide) ?_
    refine Zw_icmp_eq 51 dX11_taken_35 (by decide) (fun _ => ?_) (fun c => absurd c (by decide))
    refine Zw_iload_3 dX11_taken_51 ?_
    refine Zw_iload_2 dX11_taken_52 ?_
    refine Zw_icmp_ne 67 dX11_taken_53 (by decide) (fun _ => ?_) (fun c => absurd c (by decide))
    refine Zw_bipush (v := (-13)) dX11_taken_67 (by decide) ?_
    refine Zw_ireturn dX11_taken_69 (by first | rfl | assumption) ?_
    exact h0 (by decide)
  | 4, _ =>
    refine Zw_aload_0 dX11_taken_15 ?_
    refine Zw_iload_1 dX11_taken_16 ?_
    refine Zw_V1 (k := 1) lm_X11_86 dX11_taken_17 (by decide) (by first | decide | assumption | omega) (by first | rfl | assumption) (by rfl) (Nat.le_of_ble_eq_true rfl) ?_
    refine s_isOne n hn5 hn (fun _ => ?_) (fun a0 => absurd (vp_in_nI hf (by omega)) a0)
    refine Zw_if_ne 26 dX11_taken_20 (by decide) (fun _ => ?_) (fun c => absurd c (by decide))
    refine Zw_aload_0 dX11_taken_26 ?_
    refine Zw_getr 67 lf_X11_29 dX11_taken_27 (by first | decide | assumption | omega) (by first | rfl | assumption) (by rfl) ?_
    refine Zw_iload_1 dX11_taken_30 ?_
    refine Zw_ialdnv (f) (nI 4) dX11_taken_31 (by first | decide | assumption | omega) (by first | rfl | assumption) rfl (by omega) (by decide) hkd ?_
    refine Zw_istore_3 dX11_taken_32 rfl ?_
    refine Zw_iload_3 dX11_taken_33 ?_
    refine Zw_iconst (v := (-1)) dX11_taken_34 (by decide) ?_
    refine Zw_icmp_eq 51 dX11_taken_35 (by decide) (fun c => absurd c (by decide)) (fun _ => ?_)
    refine Zw_iload_3 dX11_taken_38 ?_
    refine Zw_iload_2 dX11_taken_39 ?_
    refine Zw_icmp_eq 51 dX11_taken_40 (by decide) (fun _ => ?_) (fun c => absurd c (by decide))
    refine Zw_iload_3 dX11_taken_51 ?_
    refine Zw_iload_2 dX11_taken_52 ?_
    refine Zw_icmp_ne 67 dX11_taken_53 (by decide) (fun c => absurd c (by decide)) (fun _ => ?_)
    refine Zw_aload_0 dX11_taken_56 ?_
    refine Zw_getr 68 lf_X11_32 dX11_taken_57 (by first | decide | assumption | omega) (by first | rfl | assumption) (by rfl) ?_
    refine Zw_iconst (v := 3) dX11_taken_60 (by decide) ?_
    refine Zw_iload_1 dX11_taken_61 ?_
    refine Zw_nmul (3) (f) dX11_taken_62 rfl rfl ?_
    refine Zw_ialdnv ((3 * f)) (nI nu) dX11_taken_63 (by first | decide | assumption | omega) (by first | rfl | assumption) rfl (by omega) (by decide) hnu ?_
    refine Zw_goto 69 dX11_taken_64 (by decide) ?_
    refine Zw_ireturn dX11_taken_69 (by first | rfl | assumption) ?_
    exact h1 (by decide)
  | 5, _ =>
    refine Zw_aload_0 dX11_taken_15 ?_
    refine Zw_iload_1 dX11_taken_16 ?_
    refine Zw_V1 (k := 1) lm_X11_86 dX11_taken_17 (by decide) (by first | decide | assumption | omega) (by first | rfl | assumption) (by rfl) (Nat.le_of_ble_eq_true rfl) ?_
    refine s_isOne n hn5 hn (fun _ => ?_) (fun a0 => absurd (vp_in_nI hf (by omega)) a0)
    refine Zw_if_ne 26 dX11_taken_20 (by decide) (fun _ => ?_) (fun c => absurd c (by decide))
    refine Zw_aload_0 dX11_taken_26 ?_
    refine Zw_getr 67 lf_X11_29 dX11_taken_27 (by first | decide | assumption | omega) (by first | rfl | assumption) (by rfl) ?_
    refine Zw_iload_1 dX11_taken_30 ?_
    refine Zw_ialdnv (f) (nI 4) dX11_taken_31 (by first | decide | assumption | omega) (by first | rfl | assumption) rfl (by omega) (by decide) hkd ?_
    refine Zw_istore_3 dX11_taken_32 rfl ?_
    refine Zw_iload_3 dX11_taken_33 ?_
    refine Zw_iconst (v := (-1)) dX11_taken_34 (by decide) ?_
    refine Zw_icmp_eq 51 dX11_taken_35 (by decide) (fun c => absurd c (by decide)) (fun _ => ?_)
    refine Zw_iload_3 dX11_taken_38 ?_
    refine Zw_iload_2 dX11_taken_39 ?_
    refine Zw_icmp_eq 51 dX11_taken_40 (by decide) (fun c => absurd c (by decide)) (fun _ => ?_)
    refine Zw_iload_3 dX11_taken_43 ?_
    refine Zw_S1 (k := 0) lm_X11_418 dX11_taken_44 (by decide) (Nat.le_of_ble_eq_true rfl) ?_
    refine s_over4 ?_
    refine Zw_istore_3 dX11_taken_47 rfl ?_
    refine Zw_goto 33 dX11_taken_48 (by decide) ?_
    refine Zw_iload_3 dX11_taken_33 ?_
    refine Zw_iconst (v := (-1)) dX11_taken_34 (by decide) ?_
    refine Zw_icmp_eq 51 dX11_taken_35 (by decide) (fun c => absurd c (by decide)) (fun _ => ?_)
    refine Zw_iload_3 dX11_taken_38 ?_
    refine Zw_iload_2 dX11_taken_39 ?_
    refine Zw_icmp_eq 51 dX11_taken_40 (by decide) (fun c => absurd c (by decide)) (fun _ => ?_)
    refine Zw_iload_3 dX11_taken_43 ?_
    refine Zw_S1 (k := 0) lm_X11_418 dX11_taken_44 (by decide) (Nat.le_of_ble_eq_true rfl) ?_
    refine s_over2 ?_
    refine Zw_istore_3 dX11_taken_47 rfl ?_
    refine Zw_goto 33 dX11_taken_48 (by decide) ?_
    refine Zw_iload_3 dX11_taken_33 ?_
    refine Zw_iconst (v := (-1)) dX11_taken_34 (by decide) ?_
    refine Zw_icmp_eq 51 dX11_taken_35 (by decide) (fun c => absurd c (by decide)) (fun _ => ?_)
    refine Zw_iload_3 dX11_taken_38 ?_
    refine Zw_iload_2 dX11_taken_39 ?_
    refine Zw_icmp_eq 51 dX11_taken_40 (by decide) (fun c => absurd c (by decide)) (fun _ => ?_)
    refine Zw_iload_3 dX11_taken_43 ?_
    refine Zw_S1 (k := 0) lm_X11_418 dX11_taken_44 (by decide) (Nat.le_of_ble_eq_true rfl) ?_
    refine s_over0 ?_
    refine Zw_istore_3 dX11_taken_47 rfl ?_
    refine Zw_goto 33 dX11_taken_48 (by decide) ?_
    refine Zw_iload_3 dX11_taken_33 ?_
    refine Zw_iconst (v := (-1)) dX11_taken_34 (by decide) ?_
    refine Zw_icmp_eq 51 dX11_taken_35 (by decide) (fun _ => ?_) (fun c => absurd c (by decide))
    refine Zw_iload_3 dX11_taken_51 ?_
    refine Zw_iload_2 dX11_taken_52 ?_
    refine Zw_icmp_ne 67 dX11_taken_53 (by decide) (fun _ => ?_) (fun c => absurd c (by decide))
    refine Zw_bipush (v := (-13)) dX11_taken_67 (by decide) ?_
    refine Zw_ireturn dX11_taken_69 (by first | rfl | assumption) ?_
    exact h0 (by decide)
  | n + 6, hc => exact absurd hc (by omega)
set_option maxRecDepth 20000 in
theorem s_mtaken5 {f nu : Nat} {k : Int32} {Q : zQ} {μ : zMu} {τ : Int64} (n : Nat) (hn5 : n ≤ 5) (hn : μ 61 11 = nI n) (hf : f < n) (hk : vp_in k 6) (hkd : μ 67 f = nI 5) (hnu : μ 68 (3 * f) = nI nu) (h1 : q_under 5 k = true → Q (some (.int (nI nu))) μ τ) (h0 : q_under 5 k = false → Q (some (.int (-13))) μ τ) : Zc 2 yX11_taken cX11_taken 4 (some .int) [.ref 61, .int (nI f), .int k] μ τ Q := by
  refine Zc.mk 1 [.ref 61, .int (nI f), .int k, .null] rfl (by decide) (Nat.le_of_ble_eq_true rfl) ?_
  refine Zw_iload_2 dX11_taken_0 ?_
  refine Zw_i2l dX11_taken_1 ?_
  refine Zw_lconst (v := 0) dX11_taken_2 (by decide) ?_
  refine Zw_ldc2 dX11_taken_3 zw28 ?_
  refine Zw_S3 (k := 0) lm_X11_76 dX11_taken_6 (by decide) (Nat.le_of_ble_eq_true rfl) ?_
  refine s_in0 6 (by decide) (fun _ => ?_) (fun a0 => absurd hk a0)
  refine Zw_if_ne 15 dX11_taken_9 (by decide) (fun _ => ?_) (fun c => absurd c (by decide))
  obtain ⟨c, hc, rfl⟩ := vp_in_of hk (by decide)
  match c, hc with
  | 0, _ =>
    refine Zw_aload_0 dX11_taken_15 ?_
    refine Zw_iload_1 dX11_taken_16 ?_
    refine Zw_V1 (k := 1) lm_X11_86 dX11_taken_17 (by decide) (by first | decide | assumption | omega) (by first | rfl | assumption) (by rfl) (Nat.le_of_ble_eq_true rfl) ?_
    refine s_isOne n hn5 hn (fun _ => ?_) (fun a0 => absurd (vp_in_nI hf (by omega)) a0)
    refine Zw_if_ne 26 dX11_taken_20 (by decide) (fun _ => ?_) (fun c => absurd c (by decide))
    refine Zw_aload_0 dX11_taken_26 ?_
    refine Zw_getr 67 lf_X11_29 dX11_taken_27 (by first | decide | assumption | omega) (by first | rfl | assumption) (by rfl) ?_
    refine Zw_iload_1 dX11_taken_30 ?_
    refine Zw_ialdnv (f) (nI 5) dX11_taken_31 (by first | decide | assumption | omega) (by first | rfl | assumption) rfl (by omega) (by decide) hkd ?_
    refine Zw_istore_3 dX11_taken_32 rfl ?_
    refine Zw_iload_3 dX11_taken_33 ?_
    refine Zw_iconst (v := (-1)) dX11_taken_34 (by decide) ?_
    refine Zw_icmp_eq 51 dX11_taken_35 (by decide) (fun c => absurd c (by decide)) (fun _ => ?_)
    refine Zw_iload_3 dX11_taken_38 ?_
    refine Zw_iload_2 dX11_taken_39 ?_
    refine Zw_icmp_eq 51 dX11_taken_40 (by decide) (fun c => absurd c (by decide)) (fun _ => ?_)
    refine Zw_iload_3 dX11_taken_43 ?_
    refine Zw_S1 (k := 0) lm_X11_418 dX11_taken_44 (by decide) (Nat.le_of_ble_eq_true rfl) ?_
    refine s_over5 ?_
    refine Zw_istore_3 dX11_taken_47 rfl ?_
    refine Zw_goto 33 dX11_taken_48 (by decide) ?_
    refine Zw_iload_3 dX11_taken_33 ?_
    refine Zw_iconst (v := (-1)) dX11_taken_34 (by decide) ?_
    refine Zw_icmp_eq 51 dX11_taken_35 (by decide) (fun c => absurd c (by decide)) (fun _ => ?_)
    refine Zw_iload_3 dX11_taken_38 ?_
    refine Zw_iload_2 dX11_taken_39 ?_
    refine Zw_icmp_eq 51 dX11_taken_40 (by decide) (fun _ => ?_) (fun c => absurd c (by decide))
    refine Zw_iload_3 dX11_taken_51 ?_
    refine Zw_iload_2 dX11_taken_52 ?_
    refine Zw_icmp_ne 67 dX11_taken_53 (by decide) (fun c => absurd c (by decide)) (fun _ => ?_)
    refine Zw_aload_0 dX11_taken_56 ?_
    refine Zw_getr 68 lf_X11_32 dX11_taken_57 (by first | decide | assumption | omega) (by first | rfl | assumption) (by rfl) ?_
    refine Zw_iconst (v := 3) dX11_taken_60 (by decide) ?_
    refine Zw_iload_1 dX11_taken_61 ?_
    refine Zw_nmul (3) (f) dX11_taken_62 rfl rfl ?_
    refine Zw_ialdnv ((3 * f)) (nI nu) dX11_taken_63 (by first | decide | assumption | omega) (by first | rfl | assumption) rfl (by omega) (by decide) hnu ?_
    refine Zw_goto 69 dX11_taken_64 (by decide) ?_
    refine Zw_ireturn dX11_taken_69 (by first | rfl | assumption) ?_
    exact h1 (by decide)
  | 1, _ =>
    refine Zw_aload_0 dX11_taken_15 ?_
    refine Zw_iload_1 dX11_taken_16 ?_
    refine Zw_V1 (k := 1) lm_X11_86 dX11_taken_17 (by decide) (by first | decide | assumption | omega) (by first | rfl | assumption) (by rfl) (Nat.le_of_ble_eq_true rfl) ?_
    refine s_isOne n hn5 hn (fun _ => ?_) (fun a0 => absurd (vp_in_nI hf (by omega)) a0)
    refine Zw_if_ne 26 dX11_taken_20 (by decide) (fun _ => ?_) (fun c => absurd c (by decide))
    refine Zw_aload_0 dX11_taken_26 ?_
    refine Zw_getr 67 lf_X11_29 dX11_taken_27 (by first | decide | assumption | omega) (by first | rfl | assumption) (by rfl) ?_
    refine Zw_iload_1 dX11_taken_30 ?_
    refine Zw_ialdnv (f) (nI 5) dX11_taken_31 (by first | decide | assumption | omega) (by first | rfl | assumption) rfl (by omega) (by decide) hkd ?_
    refine Zw_istore_3 dX11_taken_32 rfl ?_
    refine Zw_iload_3 dX11_taken_33 ?_
    refine Zw_iconst (v := (-1)) dX11_taken_34 (by decide) ?_
    refine Zw_icmp_eq 51 dX11_taken_35 (by decide) (fun c => absurd c (by decide)) (fun _ => ?_)
    refine Zw_iload_3 dX11_taken_38 ?_
    refine Zw_iload_2 dX11_taken_39 ?_
    refine Zw_icmp_eq 51 dX11_taken_40 (by decide) (fun c => absurd c (by decide)) (fun _ => ?_)
    refine Zw_iload_3 dX11_taken_43 ?_
    refine Zw_S1 (k := 0) lm_X11_418 dX11_taken_44 (by decide) (Nat.le_of_ble_eq_true rfl) ?_
    refine s_over5 ?_
    refine Zw_istore_3 dX11_taken_47 rfl ?_
    refine Zw_goto 33 dX11_taken_48 (by decide) ?_
    refine Zw_iload_3 dX11_taken_33 ?_
    refine Zw_iconst (v := (-1)) dX11_taken_34 (by decide) ?_
    refine Zw_icmp_eq 51 dX11_taken_35 (by decide) (fun c => absurd c (by decide)) (fun _ => ?_)
    refine Zw_iload_3 dX11_taken_38 ?_
    refine Zw_iload_2 dX11_taken_39 ?_
    refine Zw_icmp_eq 51 dX11_taken_40 (by decide) (fun c => absurd c (by decide)) (fun _ => ?_)
    refine Zw_iload_3 dX11_taken_43 ?_
    refine Zw_S1 (k := 0) lm_X11_418 dX11_taken_44 (by decide) (Nat.le_of_ble_eq_true rfl) ?_
    refine s_over0 ?_
    refine Zw_istore_3 dX11_taken_47 rfl ?_
    refine Zw_goto 33 dX11_taken_48 (by decide) ?_
    refine Zw_iload_3 dX11_taken_33 ?_
    refine Zw_iconst (v := (-1)) dX11_taken_34 (by decide) ?_
    refine Zw_icmp_eq 51 dX11_taken_35 (by decide) (fun _ => ?_) (fun c => absurd c (by decide))
    refine Zw_iload_3 dX11_taken_51 ?_
    refine Zw_iload_2 dX11_taken_52 ?_
    refine Zw_icmp_ne 67 dX11_taken_53 (by decide) (fun _ => ?_) (fun c => absurd c (by decide))
    refine Zw_bipush (v := (-13)) dX11_taken_67 (by decide) ?_
    refine Zw_ireturn dX11_taken_69 (by first | rfl | assumption) ?_
    exact h0 (by decide)
  | 2, _ =>
    refine Zw_aload_0 dX11_taken_15 ?_
    refine Zw_iload_1 dX11_taken_16 ?_
    refine Zw_V1 (k := 1) lm_X11_86 dX11_taken_17 (by decide) (by first | decide | assumption | omega) (by first | rfl | assumption) (by rfl) (Nat.le_of_ble_eq_true rfl) ?_
    refine s_isOne n hn5 hn (fun _ => ?_) (fun a0 => absurd (vp_in_nI hf (by omega)) a0)
    refine Zw_if_ne 26 dX11_taken_20 (by decide) (fun _ => ?_) (fun c => absurd c (by decide))
    refine Zw_aload_0 dX11_taken_26 ?_
    refine Zw_getr 67 lf_X11_29 dX11_taken_27 (by first | decide | assumption | omega) (by first | rfl | assumption) (by rfl) ?_
    refine Zw_iload_1 dX11_taken_30 ?_
    refine Zw_ialdnv (f) (nI 5) dX11_taken_31 (by first | decide | assumption | omega) (by first | rfl | assumption) rfl (by omega) (by decide) hkd ?_
    refine Zw_istore_3 dX11_taken_32 rfl ?_
    refine Zw_iload_3 dX11_taken_33 ?_
    refine Zw_iconst (v := (-1)) dX11_taken_34 (by decide) ?_
    refine Zw_icmp_eq 51 dX11_taken_35 (by decide) (fun c => absurd c (by decide)) (fun _ => ?_)
    refine Zw_iload_3 dX11_taken_38 ?_
    refine Zw_iload_2 dX11_taken_39 ?_
    refine Zw_icmp_eq 51 dX11_taken_40 (by decide) (fun c => absurd c (by decide)) (fun _ => ?_)
    refine Zw_iload_3 dX11_taken_43 ?_
    refine Zw_S1 (k := 0) lm_X11_418 dX11_taken_44 (by decide) (Nat.le_of_ble_eq_true rfl) ?_
    refine s_over5 ?_
    refine Zw_istore_3 dX11_taken_47 rfl ?_
    refine Zw_goto 33 dX11_taken_48 (by decide) ?_
    refine Zw_iload_3 dX11_taken_33 ?_
    refine Zw_iconst (v := (-1)) dX11_taken_34 (by decide) ?_
    refine Zw_icmp_eq 51 dX11_taken_35 (by decide) (fun c => absurd c (by decide)) (fun _ => ?_)
    refine Zw_iload_3 dX11_taken_38 ?_
    refine Zw_iload_2 dX11_taken_39 ?_
    refine Zw_icmp_eq 51 dX11_taken_40 (by decide) (fun c => absurd c (by decide)) (fun _ => ?_)
    refine Zw_iload_3 dX11_taken_43 ?_
    refine Zw_S1 (k := 0) lm_X11_418 dX11_taken_44 (by decide) (Nat.le_of_ble_eq_true rfl) ?_
    refine s_over0 ?_
    refine Zw_istore_3 dX11_taken_47 rfl ?_
    refine Zw_goto 33 dX11_taken_48 (by decide) ?_
    refine Zw_iload_3 dX11_taken_33 ?_
    refine Zw_iconst (v := (-1)) dX11_taken_34 (by decide) ?_
    refine Zw_icmp_eq 51 dX11_taken_35 (by decide) (fun _ => ?_) (fun c => absurd c (by decide))
    refine Zw_iload_3 dX11_taken_51 ?_
    refine Zw_iload_2 dX11_taken_52 ?_
    refine Zw_icmp_ne 67 dX11_taken_53 (by decide) (fun _ => ?_) (fun c => absurd c (by decide))
    refine Zw_bipush (v := (-13)) dX11_taken_67 (by decide) ?_
    refine Zw_ireturn dX11_taken_69 (by first | rfl | assumption) ?_
    exact h0 (by decide)
  | 3, _ =>
    refine Zw_aload_0 dX11_taken_15 ?_
    refine Zw_iload_1 dX11_taken_16 ?_
    refine Zw_V1 (k := 1) lm_X11_86 dX11_taken_17 (by decide) (by first | decide | assumption | omega) (by first | rfl | assumption) (by rfl) (Nat.le_of_ble_eq_true rfl) ?_
    refine s_isOne n hn5 hn (fun _ => ?_) (fun a0 => absurd (vp_in_nI hf (by omega)) a0)
    refine Zw_if_ne 26 dX11_taken_20 (by decide) (fun _ => ?_) (fun c => absurd c (by decide))
    refine Zw_aload_0 dX11_taken_26 ?_
    refine Zw_getr 67 lf_X11_29 dX11_taken_27 (by first | decide | assumption | omega) (by first | rfl | assumption) (by rfl) ?_
    refine Zw_iload_1 dX11_taken_30 ?_
    refine Zw_ialdnv (f) (nI 5) dX11_taken_31 (by first | decide | assumption | omega) (by first | rfl | assumption) rfl (by omega) (by decide) hkd ?_
    refine Zw_istore_3 dX11_taken_32 rfl ?_
    refine Zw_iload_3 dX11_taken_33 ?_
    refine Zw_iconst (v := (-1)) dX11_taken_34 (by decide) ?_
    refine Zw_icmp_eq 51 dX11_taken_35 (by decide) (fun c => absurd c (by decide)) (fun _ => ?_)
    refine Zw_iload_3 dX11_taken_38 ?_
    refine Zw_iload_2 dX11_taken_39 ?_
    refine Zw_icmp_eq 51 dX11_taken_40 (by decide) (fun c => absurd c (by decide)) (fun _ => ?_)
    refine Zw_iload_3 dX11_taken_43 ?_
    refine Zw_S1 (k := 0) lm_X11_418 dX11_taken_44 (by decide) (Nat.le_of_ble_eq_true rfl) ?_
    refine s_over5 ?_
    refine Zw_istore_3 dX11_taken_47 rfl ?_
    refine Zw_goto 33 dX11_taken_48 (by decide) ?_
    refine Zw_iload_3 dX11_taken_33 ?_
    refine Zw_iconst (v := (-1)) dX11_taken_34 (by decide) ?_
    refine Zw_icmp_eq 51 dX11_taken_35 (by decide) (fun c => absurd c (by decide)) (fun _ => ?_)
    refine Zw_iload_3 dX11_taken_38 ?_
    refine Zw_iload_2 dX11_taken_39 ?_
    refine Zw_icmp_eq 51 dX11_taken_40 (by decide) (fun c => absurd c (by decide)) (fun _ => ?_)
    refine Zw_iload_3 dX11_taken_43 ?_
    refine Zw_S1 (k := 0) lm_X11_418 dX11_taken_44 (by decide) (Nat.le_of_ble_eq_true rfl) ?_
    refine s_over0 ?_
    refine Zw_istore_3 dX11_taken_47 rfl ?_
    refine Zw_goto 33 dX11_taken_48 (by decide) ?_
    refine Zw_iload_3 dX11_taken_33 ?_
    refine Zw_iconst (v := (-1)) dX11_taken_34 (by decide) ?_
    refine Zw_icmp_eq 51 dX11_taken_35 (by decide) (fun _ => ?_) (fun c => absurd c (by decide))
    refine Zw_iload_3 dX11_taken_51 ?_
    refine Zw_iload_2 dX11_taken_52 ?_
    refine Zw_icmp_ne 67 dX11_taken_53 (by decide) (fun _ => ?_) (fun c => absurd c (by decide))
    refine Zw_bipush (v := (-13)) dX11_taken_67 (by decide) ?_
    refine Zw_ireturn dX11_taken_69 (by first | rfl | assumption) ?_
    exact h0 (by decide)
  | 4, _ =>
    refine Zw_aload_0 dX11_taken_15 ?_
    refine Zw_iload_1 dX11_taken_16 ?_
    refine Zw_V1 (k := 1) lm_X11_86 dX11_taken_17 (by decide) (by first | decide | assumption | omega) (by first | rfl | assumption) (by rfl) (Nat.le_of_ble_eq_true rfl) ?_
    refine s_isOne n hn5 hn (fun _ => ?_) (fun a0 => absurd (vp_in_nI hf (by omega)) a0)
    refine Zw_if_ne 26 dX11_taken_20 (by decide) (fun _ => ?_) (fun c => absurd c (by decide))
    refine Zw_aload_0 dX11_taken_26 ?_
    refine Zw_getr 67 lf_X11_29 dX11_taken_27 (by first | decide | assumption | omega) (by first | rfl | assumption) (by rfl) ?_
    refine Zw_iload_1 dX11_taken_30 ?_
    refine Zw_ialdnv (f) (nI 5) dX11_taken_31 (by first | decide | assumption | omega) (by first | rfl | assumption) rfl (by omega) (by decide) hkd ?_
    refine Zw_istore_3 dX11_taken_32 rfl ?_
    refine Zw_iload_3 dX11_taken_33 ?_
    refine Zw_iconst (v := (-1)) dX11_taken_34 (by decide) ?_
    refine Zw_icmp_eq 51 dX11_taken_35 (by decide) (fun c => absurd c (by decide)) (fun _ => ?_)
    refine Zw_iload_3 dX11_taken_38 ?_
    refine Zw_iload_2 dX11_taken_39 ?_
    refine Zw_icmp_eq 51 dX11_taken_40 (by decide) (fun c => absurd c (by decide)) (fun _ => ?_)
    refine Zw_iload_3 dX11_taken_43 ?_
    refine Zw_S1 (k := 0) lm_X11_418 dX11_taken_44 (by decide) (Nat.le_of_ble_eq_true rfl) ?_
    refine s_over5 ?_
    refine Zw_istore_3 dX11_taken_47 rfl ?_
    refine Zw_goto 33 dX11_taken_48 (by decide) ?_
    refine Zw_iload_3 dX11_taken_33 ?_
    refine Zw_iconst (v := (-1)) dX11_taken_34 (by decide) ?_
    refine Zw_icmp_eq 51 dX11_taken_35 (by decide) (fun c => absurd c (by decide)) (fun _ => ?_)
    refine Zw_iload_3 dX11_taken_38 ?_
    refine Zw_iload_2 dX11_taken_39 ?_
    refine Zw_icmp_eq 51 dX11_taken_40 (by decide) (fun c => absurd c (by decide)) (fun _ => ?_)
    refine Zw_iload_3 dX11_taken_43 ?_
    refine Zw_S1 (k := 0) lm_X11_418 dX11_taken_44 (by decide) (Nat.le_of_ble_eq_true rfl) ?_
    refine s_over0 ?_
    refine Zw_istore_3 dX11_taken_47 rfl ?_
    refine Zw_goto 33 dX11_taken_48 (by decide) ?_
    refine Zw_iload_3 dX11_taken_33 ?_
    refine Zw_iconst (v := (-1)) dX11_taken_34 (by decide) ?_
    refine Zw_icmp_eq 51 dX11_taken_35 (by decide) (fun _ => ?_) (fun c => absurd c (by decide))
    refine Zw_iload_3 dX11_taken_51 ?_
    refine Zw_iload_2 dX11_taken_52 ?_
    refine Zw_icmp_ne 67 dX11_taken_53 (by decide) (fun _ => ?_) (fun c => absurd c (by decide))
    refine Zw_bipush (v := (-13)) dX11_taken_67 (by decide) ?_
    refine Zw_ireturn dX11_taken_69 (by first | rfl | assumption) ?_
    exact h0 (by decide)
  | 5, _ =>
    refine Zw_aload_0 dX11_taken_15 ?_
    refine Zw_iload_1 dX11_taken_16 ?_
    refine Zw_V1 (k := 1) lm_X11_86 dX11_taken_17 (by decide) (by first | decide | assumption | omega) (by first | rfl | assumption) (by rfl) (Nat.le_of_ble_eq_true rfl) ?_
    refine s_isOne n hn5 hn (fun _ => ?_) (fun a0 => absurd (vp_in_nI hf (by omega)) a0)
    refine Zw_if_ne 26 dX11_taken_20 (by decide) (fun _ => ?_) (fun c => absurd c (by decide))
    refine Zw_aload_0 dX11_taken_26 ?_
    refine Zw_getr 67 lf_X11_29 dX11_taken_27 (by first | decide | assumption | omega) (by first | rfl | assumption) (by rfl) ?_
    refine Zw_iload_1 dX11_taken_30 ?_
    refine Zw_ialdnv (f) (nI 5) dX11_taken_31 (by first | decide | assumption | omega) (by first | rfl | assumption) rfl (by omega) (by decide) hkd ?_
    refine Zw_istore_3 dX11_taken_32 rfl ?_
    refine Zw_iload_3 dX11_taken_33 ?_
    refine Zw_iconst (v := (-1)) dX11_taken_34 (by decide) ?_
    refine Zw_icmp_eq 51 dX11_taken_35 (by decide) (fun c => absurd c (by decide)) (fun _ => ?_)
    refine Zw_iload_3 dX11_taken_38 ?_
    refine Zw_iload_2 dX11_taken_39 ?_
    refine Zw_icmp_eq 51 dX11_taken_40 (by decide) (fun _ => ?_) (fun c => absurd c (by decide))
    refine Zw_iload_3 dX11_taken_51 ?_
    refine Zw_iload_2 dX11_taken_52 ?_
    refine Zw_icmp_ne 67 dX11_taken_53 (by decide) (fun c => absurd c (by decide)) (fun _ => ?_)
    refine Zw_aload_0 dX11_taken_56 ?_
    refine Zw_getr 68 lf_X11_32 dX11_taken_57 (by first | decide | assumption | omega) (by first | rfl | assumption) (by rfl) ?_
    refine Zw_iconst (v := 3) dX11_taken_60 (by decide) ?_
    refine Zw_iload_1 dX11_taken_61 ?_
    refine Zw_nmul (3) (f) dX11_taken_62 rfl rfl ?_
    refine Zw_ialdnv ((3 * f)) (nI nu) dX11_taken_63 (by first | decide | assumption | omega) (by first | rfl | assumption) rfl (by omega) (by decide) hnu ?_
    refine Zw_goto 69 dX11_taken_64 (by decide) ?_
    refine Zw_ireturn dX11_taken_69 (by first | rfl | assumption) ?_
    exact h1 (by decide)
  | n + 6, hc => exact absurd hc (by omega)
