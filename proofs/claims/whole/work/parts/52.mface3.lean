theorem nar_b1 : vp_nar .boolean 1 = 1 := by decide +kernel
theorem nar_b0 : vp_nar .boolean 0 = 0 := by decide +kernel
theorem ge0 {x : Int32} (h : ¬ x < 0) : 0 ≤ x.toInt := by
  have h2 : ¬ x.toInt < (0 : Int32).toInt := fun e => h (Int32.lt_iff_toInt_lt.mpr e)
  rw [show (0 : Int32).toInt = 0 from by decide] at h2
  omega
theorem nlt_i {x y : Int32} (h : ¬ x < y) : y.toInt ≤ x.toInt := by
  have h2 : ¬ x.toInt < y.toInt := fun e => h (Int32.lt_iff_toInt_lt.mpr e)
  omega
theorem le40n {m : Int32} (h : m.toInt < 0) : m ≤ 40 := Int32.le_iff_toInt_le.mpr (by rw [show (40 : Int32).toInt = 40 from by decide]; omega)
theorem in_c : (-1 : Int64).toInt = -1 ∧ (2 : Int64).toInt = 2 ∧ (0 : Int32).toInt = 0 := by decide
set_option maxRecDepth 20000 in
theorem s_msheetB {s so m : Int32} {Q : zQ} {μ : zMu} {τ : Int64} (hbad : ¬ (vp_in s 4 ∧ -1 ≤ so.toInt ∧ so.toInt < 3)) (h : Q (some (.int (-2))) μ τ) : Zc 2 yX11_sheet cX11_sheet 5 (some .int) [.ref 61, .int s, .int so, .int m] μ τ Q := by
  refine Zc.mk 1 [.ref 61, .int s, .int so, .int m, .null] rfl (by decide) (Nat.le_of_ble_eq_true rfl) ?_
  refine Zw_iload_1 dX11_sheet_0 ?_
  refine Zw_S1 (k := 1) lm_X11_383 dX11_sheet_1 (by decide) (Nat.le_of_ble_eq_true rfl) ?_
  refine s_isSheet (fun b1 => ?_) (fun b1 => ?_)
  · refine Zw_if_eq 31 dX11_sheet_4 (by decide) (fun c => absurd c (by decide)) (fun _ => ?_)
    refine Zw_iload_2 dX11_sheet_7 ?_
    refine Zw_i2l dX11_sheet_8 ?_
    refine Zw_ldc2 dX11_sheet_9 zw26 ?_
    refine Zw_ldc2 dX11_sheet_12 zw19 ?_
    refine Zw_S3 (k := 0) lm_X11_76 dX11_sheet_15 (by decide) (Nat.le_of_ble_eq_true rfl) ?_
    refine s_in (fun a1 a2 => ?_) (fun a0 => ?_)
    · refine Zw_if_eq 31 dX11_sheet_18 (by decide) (fun c => absurd c (by decide)) (fun _ => ?_)
      exact absurd ⟨b1, by rw [z32, in_c.1] at a1; exact a1, by rw [z32, in_c.2.1] at a2; omega⟩ hbad
    · refine Zw_if_eq 31 dX11_sheet_18 (by decide) (fun _ => ?_) (fun c => absurd c (by decide))
      refine Zw_bipush (v := (-2)) dX11_sheet_31 (by decide) ?_
      refine Zw_ireturn dX11_sheet_33 (by first | rfl | assumption) ?_
      exact h
  · refine Zw_if_eq 31 dX11_sheet_4 (by decide) (fun _ => ?_) (fun c => absurd c (by decide))
    refine Zw_bipush (v := (-2)) dX11_sheet_31 (by decide) ?_
    refine Zw_ireturn dX11_sheet_33 (by first | rfl | assumption) ?_
    exact h
set_option maxRecDepth 20000 in
theorem s_msheetG {a : Nat} {so m : Int32} {Q : zQ} {μ : zMu} {τ : Int64} (ha : a < 4) (h1 : 0 ≤ so.toInt) (h2 : so.toInt < 3) (hm : 40 < m.toInt) (h : Q (some (.int (-2))) μ τ) : Zc 2 yX11_sheet cX11_sheet 5 (some .int) [.ref 61, .int (nI a), .int so, .int m] μ τ Q := by
  refine Zc.mk 1 [.ref 61, .int (nI a), .int so, .int m, .null] rfl (by decide) (Nat.le_of_ble_eq_true rfl) ?_
  refine Zw_iload_1 dX11_sheet_0 ?_
  refine Zw_S1 (k := 1) lm_X11_383 dX11_sheet_1 (by decide) (Nat.le_of_ble_eq_true rfl) ?_
  refine s_isSheet (fun _ => ?_) (fun a0 => absurd (vp_in_nI ha (by omega)) a0)
  refine Zw_if_eq 31 dX11_sheet_4 (by decide) (fun c => absurd c (by decide)) (fun _ => ?_)
  refine Zw_iload_2 dX11_sheet_7 ?_
  refine Zw_i2l dX11_sheet_8 ?_
  refine Zw_ldc2 dX11_sheet_9 zw26 ?_
  refine Zw_ldc2 dX11_sheet_12 zw19 ?_
  refine Zw_S3 (k := 0) lm_X11_76 dX11_sheet_15 (by decide) (Nat.le_of_ble_eq_true rfl) ?_
  refine s_in (fun _ _ => ?_) (fun a0 => absurd ⟨by rw [z32, in_c.1]; omega, by rw [z32, in_c.2.1]; omega⟩ a0)
  refine Zw_if_eq 31 dX11_sheet_18 (by decide) (fun c => absurd c (by decide)) (fun _ => ?_)
  refine Zw_iload_2 dX11_sheet_21 ?_
  refine Zw_if_lt 34 dX11_sheet_22 (by decide) (fun c22 => absurd c22 (fun e => absurd (Int32.lt_iff_toInt_lt.mp e) (by rw [in_c.2.2]; omega))) (fun c22 => ?_)
  refine Zw_iload_3 dX11_sheet_25 ?_
  refine Zw_bipush (v := 40) dX11_sheet_26 (by decide) ?_
  refine Zw_icmp_le 34 dX11_sheet_28 (by decide) (fun c28 => absurd c28 (fun e => absurd (Int32.le_iff_toInt_le.mp e) (by rw [show (40 : Int32).toInt = 40 from by decide]; omega))) (fun c28 => ?_)
  refine Zw_bipush (v := (-2)) dX11_sheet_31 (by decide) ?_
  refine Zw_ireturn dX11_sheet_33 (by first | rfl | assumption) ?_
  exact h
set_option maxRecDepth 20000 in
theorem s_msheetN {a : Nat} {so m : Int32} {Q : zQ} {μ : zMu} {τ : Int64} (ha : a < 4) (h1 : 0 ≤ so.toInt) (h2 : so.toInt < 3) (hm : m.toInt < 0) (h : Q (some (.int (-14))) μ τ) : Zc 2 yX11_sheet cX11_sheet 5 (some .int) [.ref 61, .int (nI a), .int so, .int m] μ τ Q := by
  refine Zc.mk 1 [.ref 61, .int (nI a), .int so, .int m, .null] rfl (by decide) (Nat.le_of_ble_eq_true rfl) ?_
  refine Zw_iload_1 dX11_sheet_0 ?_
  refine Zw_S1 (k := 1) lm_X11_383 dX11_sheet_1 (by decide) (Nat.le_of_ble_eq_true rfl) ?_
  refine s_isSheet (fun _ => ?_) (fun a0 => absurd (vp_in_nI ha (by omega)) a0)
  refine Zw_if_eq 31 dX11_sheet_4 (by decide) (fun c => absurd c (by decide)) (fun _ => ?_)
  refine Zw_iload_2 dX11_sheet_7 ?_
  refine Zw_i2l dX11_sheet_8 ?_
  refine Zw_ldc2 dX11_sheet_9 zw26 ?_
  refine Zw_ldc2 dX11_sheet_12 zw19 ?_
  refine Zw_S3 (k := 0) lm_X11_76 dX11_sheet_15 (by decide) (Nat.le_of_ble_eq_true rfl) ?_
  refine s_in (fun _ _ => ?_) (fun a0 => absurd ⟨by rw [z32, in_c.1]; omega, by rw [z32, in_c.2.1]; omega⟩ a0)
  refine Zw_if_eq 31 dX11_sheet_18 (by decide) (fun c => absurd c (by decide)) (fun _ => ?_)
  refine Zw_iload_2 dX11_sheet_21 ?_
  refine Zw_if_lt 34 dX11_sheet_22 (by decide) (fun c22 => absurd c22 (fun e => absurd (Int32.lt_iff_toInt_lt.mp e) (by rw [in_c.2.2]; omega))) (fun c22 => ?_)
  refine Zw_iload_3 dX11_sheet_25 ?_
  refine Zw_bipush (v := 40) dX11_sheet_26 (by decide) ?_
  refine Zw_icmp_le 34 dX11_sheet_28 (by decide) (fun c28 => ?_) (fun c28 => absurd c28 (fun e => e (le40n hm)))
  refine Zw_iload_2 dX11_sheet_34 ?_
  refine Zw_if_lt 45 dX11_sheet_35 (by decide) (fun c35 => absurd c35 (fun e => absurd (Int32.lt_iff_toInt_lt.mp e) (by rw [in_c.2.2]; omega))) (fun c35 => ?_)
  refine Zw_iload_3 dX11_sheet_38 ?_
  refine Zw_if_ge 45 dX11_sheet_39 (by decide) (fun c39 => absurd c39 (fun e => absurd (Int32.le_iff_toInt_le.mp e) (by rw [in_c.2.2]; omega))) (fun c39 => ?_)
  refine Zw_bipush (v := (-14)) dX11_sheet_42 (by decide) ?_
  refine Zw_ireturn dX11_sheet_44 (by first | rfl | assumption) ?_
  exact h
set_option maxRecDepth 20000 in
theorem s_msheetM {a : Nat} {m : Int32} {Q : zQ} {μ : zMu} {τ : Int64} (ha : a < 4) (h : Q (some (.int 1)) (zup (zup (zup μ 74 a 0) 75 a (-1)) 76 a m) τ) : Zc 2 yX11_sheet cX11_sheet 5 (some .int) [.ref 61, .int (nI a), .int (-1), .int m] μ τ Q := by
  refine Zc.mk 1 [.ref 61, .int (nI a), .int (-1), .int m, .null] rfl (by decide) (Nat.le_of_ble_eq_true rfl) ?_
  refine Zw_iload_1 dX11_sheet_0 ?_
  refine Zw_S1 (k := 1) lm_X11_383 dX11_sheet_1 (by decide) (Nat.le_of_ble_eq_true rfl) ?_
  refine s_isSheet (fun _ => ?_) (fun a0 => absurd (vp_in_nI ha (by omega)) a0)
  refine Zw_if_eq 31 dX11_sheet_4 (by decide) (fun c => absurd c (by decide)) (fun _ => ?_)
  refine Zw_iload_2 dX11_sheet_7 ?_
  refine Zw_i2l dX11_sheet_8 ?_
  refine Zw_ldc2 dX11_sheet_9 zw26 ?_
  refine Zw_ldc2 dX11_sheet_12 zw19 ?_
  refine Zw_S3 (k := 0) lm_X11_76 dX11_sheet_15 (by decide) (Nat.le_of_ble_eq_true rfl) ?_
  refine s_in (fun _ _ => ?_) (fun a0 => absurd ⟨by decide, by decide⟩ a0)
  refine Zw_if_eq 31 dX11_sheet_18 (by decide) (fun c => absurd c (by decide)) (fun _ => ?_)
  refine Zw_iload_2 dX11_sheet_21 ?_
  refine Zw_if_lt 34 dX11_sheet_22 (by decide) (fun _ => ?_) (fun c => absurd c (by decide))
  refine Zw_iload_2 dX11_sheet_34 ?_
  refine Zw_if_lt 45 dX11_sheet_35 (by decide) (fun _ => ?_) (fun c => absurd c (by decide))
  refine Zw_aload_0 dX11_sheet_45 ?_
  refine Zw_getr 74 lf_X11_53 dX11_sheet_46 (by first | decide | assumption | omega) (by first | rfl | assumption) (by rfl) ?_
  refine Zw_iload_1 dX11_sheet_49 ?_
  refine Zw_iload_2 dX11_sheet_50 ?_
  refine Zw_if_lt 58 dX11_sheet_51 (by decide) (fun _ => ?_) (fun c => absurd c (by decide))
  refine Zw_iconst (v := 0) dX11_sheet_58 (by decide) ?_
  refine Zw_zastn (a) dX11_sheet_59 (by first | decide | assumption | omega) (by first | rfl | assumption) rfl (by omega) (by decide) ?_
  refine Zw_aload_0 dX11_sheet_60 ?_
  refine Zw_getr 75 lf_X11_57 dX11_sheet_61 (by first | decide | assumption | omega) (by first | rfl | assumption) (by rfl) ?_
  refine Zw_iload_1 dX11_sheet_64 ?_
  refine Zw_iload_2 dX11_sheet_65 ?_
  refine Zw_iastn (a) dX11_sheet_66 (by first | decide | assumption | omega) (by first | rfl | assumption) rfl (by omega) (by decide) ?_
  refine Zw_aload_0 dX11_sheet_67 ?_
  refine Zw_getr 76 lf_X11_60 dX11_sheet_68 (by first | decide | assumption | omega) (by first | rfl | assumption) (by rfl) ?_
  refine Zw_iload_1 dX11_sheet_71 ?_
  refine Zw_iload_3 dX11_sheet_72 ?_
  refine Zw_iastn (a) dX11_sheet_73 (by first | decide | assumption | omega) (by first | rfl | assumption) rfl (by omega) (by decide) ?_
  refine Zw_iconst (v := 0) dX11_sheet_74 (by decide) ?_
  refine Zw_istore_4 dX11_sheet_75 rfl ?_
  refine Zw_iload_4 dX11_sheet_77 ?_
  refine Zw_iload_3 dX11_sheet_79 ?_
  refine Zw_icmp_ge 106 dX11_sheet_80 (by decide) (fun c80 => ?_) (fun c80 => ?_)
  · refine Zw_iconst (v := 1) dX11_sheet_106 (by decide) ?_
    refine Zw_ireturn dX11_sheet_107 (by first | rfl | assumption) ?_
    rw [nar_b0]
    exact h
  · refine Zw_iload_2 dX11_sheet_83 ?_
    refine Zw_if_lt 106 dX11_sheet_84 (by decide) (fun _ => ?_) (fun c => absurd c (by decide))
    refine Zw_iconst (v := 1) dX11_sheet_106 (by decide) ?_
    refine Zw_ireturn dX11_sheet_107 (by first | rfl | assumption) ?_
    rw [nar_b0]
    exact h
set_option maxRecDepth 20000 in
theorem l_msheet {Q : zQ} {μ0 : zMu} {τ : Int64} {a k : Nat} {so : Int32} (ha : a < 4) (hk : k ≤ 40) (h1 : 0 ≤ so.toInt) (h : ∀ μ2, zOff [77] μ0 μ2 → (∀ j, j < k → μ2 77 (40 * a + j) = 0) → (∀ q, (q < 40 * a ∨ 40 * a + 40 ≤ q) → μ2 77 q = μ0 77 q) → Q (some (.int 1)) μ2 τ) : ∀ m i μ, k - i < m → i ≤ k → zOff [77] μ0 μ → (∀ j, j < i → μ 77 (40 * a + j) = 0) → (∀ q, (q < 40 * a ∨ 40 * a + 40 ≤ q) → μ 77 q = μ0 77 q) → Zw 2 RX11 cX11_sheet 5 (some .int) Q 77 [.ref 61, .int (nI a), .int so, .int (nI k), .int (nI i)] [] μ τ
  | 0, i, _, hm, _, _, _, _ => absurd hm (by omega)
  | m + 1, i, μ, hm, hi, hO, hV, hU => by
    refine Zw_iload_4 dX11_sheet_77 ?_
    refine Zw_iload_3 dX11_sheet_79 ?_
    refine Zw_nicmp_ge (i) (k) 106 dX11_sheet_80 (by decide) rfl rfl (by omega) (by omega) (fun c80 => ?_) (fun c80 => ?_)
    · refine Zw_iconst (v := 1) dX11_sheet_106 (by decide) ?_
      refine Zw_ireturn dX11_sheet_107 (by first | rfl | assumption) ?_
      exact h _ hO (fun j hj => hV j (by omega)) hU
    · refine Zw_iload_2 dX11_sheet_83 ?_
      refine Zw_if_lt 106 dX11_sheet_84 (by decide) (fun c84 => absurd c84 (fun e => absurd (Int32.lt_iff_toInt_lt.mp e) (by rw [in_c.2.2]; omega))) (fun c84 => ?_)
      refine Zw_aload_0 dX11_sheet_87 ?_
      refine Zw_getr 77 lf_X11_63 dX11_sheet_88 (by first | decide | assumption | omega) (by first | rfl | assumption) (by rfl) ?_
      refine Zw_bipush (v := 40) dX11_sheet_91 (by decide) ?_
      refine Zw_iload_1 dX11_sheet_93 ?_
      refine Zw_nmul (40) (a) dX11_sheet_94 rfl rfl ?_
      refine Zw_iload_4 dX11_sheet_95 ?_
      refine Zw_nadd ((40 * a)) (i) dX11_sheet_97 rfl rfl ?_
      refine Zw_iconst (v := 0) dX11_sheet_98 (by decide) ?_
      refine Zw_iastn (((40 * a) + i)) dX11_sheet_99 (by first | decide | assumption | omega) (by first | rfl | assumption) rfl (by omega) (by decide) ?_
      refine Zw_iinc_4 dX11_sheet_100 rfl (zincn _) ?_
      refine Zw_goto 77 dX11_sheet_103 (by decide) ?_
      exact l_msheet ha hk h1 h m (i + 1) _ (by omega) (by omega) (hO.up (by simp)) (fun j hj => by rw [zup_at]; by_cases e : j = i <;> simp [e]; exact hV j (by omega)) (fun q hq => by rw [zup_at, if_neg (by omega)]; exact hU q hq)
set_option maxRecDepth 20000 in
theorem s_msheet {a k : Nat} {so : Int32} {Q : zQ} {μ : zMu} {τ : Int64} (ha : a < 4) (hk : k ≤ 40) (h1 : 0 ≤ so.toInt) (h2 : so.toInt < 3) (h : ∀ μ2, zOff [77] (zup (zup (zup μ 74 a 1) 75 a so) 76 a (nI k)) μ2 → (∀ j, j < k → μ2 77 (40 * a + j) = 0) → (∀ q, (q < 40 * a ∨ 40 * a + 40 ≤ q) → μ2 77 q = μ 77 q) → Q (some (.int 1)) μ2 τ) : Zc 2 yX11_sheet cX11_sheet 5 (some .int) [.ref 61, .int (nI a), .int so, .int (nI k)] μ τ Q := by
  refine Zc.mk 1 [.ref 61, .int (nI a), .int so, .int (nI k), .null] rfl (by decide) (Nat.le_of_ble_eq_true rfl) ?_
  refine Zw_iload_1 dX11_sheet_0 ?_
  refine Zw_S1 (k := 1) lm_X11_383 dX11_sheet_1 (by decide) (Nat.le_of_ble_eq_true rfl) ?_
  refine s_isSheet (fun _ => ?_) (fun a0 => absurd (vp_in_nI ha (by omega)) a0)
  refine Zw_if_eq 31 dX11_sheet_4 (by decide) (fun c => absurd c (by decide)) (fun _ => ?_)
  refine Zw_iload_2 dX11_sheet_7 ?_
  refine Zw_i2l dX11_sheet_8 ?_
  refine Zw_ldc2 dX11_sheet_9 zw26 ?_
  refine Zw_ldc2 dX11_sheet_12 zw19 ?_
  refine Zw_S3 (k := 0) lm_X11_76 dX11_sheet_15 (by decide) (Nat.le_of_ble_eq_true rfl) ?_
  refine s_in (fun _ _ => ?_) (fun a0 => absurd ⟨by rw [z32, in_c.1]; omega, by rw [z32, in_c.2.1]; omega⟩ a0)
  refine Zw_if_eq 31 dX11_sheet_18 (by decide) (fun c => absurd c (by decide)) (fun _ => ?_)
  refine Zw_iload_2 dX11_sheet_21 ?_
  refine Zw_if_lt 34 dX11_sheet_22 (by decide) (fun c22 => absurd c22 (fun e => absurd (Int32.lt_iff_toInt_lt.mp e) (by rw [in_c.2.2]; omega))) (fun c22 => ?_)
  refine Zw_iload_3 dX11_sheet_25 ?_
  refine Zw_bipush (v := 40) dX11_sheet_26 (by decide) ?_
  refine Zw_icmp_le 34 dX11_sheet_28 (by decide) (fun c28 => ?_) (fun c28 => absurd (nI_le (b := 40) hk (by decide)) c28)
  refine Zw_iload_2 dX11_sheet_34 ?_
  refine Zw_if_lt 45 dX11_sheet_35 (by decide) (fun c35 => absurd c35 (fun e => absurd (Int32.lt_iff_toInt_lt.mp e) (by rw [in_c.2.2]; omega))) (fun c35 => ?_)
  refine Zw_iload_3 dX11_sheet_38 ?_
  refine Zw_if_ge 45 dX11_sheet_39 (by decide) (fun c39 => ?_) (fun c39 => absurd (nI_pos' (n := k) (by omega)) c39)
  refine Zw_aload_0 dX11_sheet_45 ?_
  refine Zw_getr 74 lf_X11_53 dX11_sheet_46 (by first | decide | assumption | omega) (by first | rfl | assumption) (by rfl) ?_
  refine Zw_iload_1 dX11_sheet_49 ?_
  refine Zw_iload_2 dX11_sheet_50 ?_
  refine Zw_if_lt 58 dX11_sheet_51 (by decide) (fun c51 => absurd c51 (fun e => absurd (Int32.lt_iff_toInt_lt.mp e) (by rw [in_c.2.2]; omega))) (fun c51 => ?_)
  refine Zw_iconst (v := 1) dX11_sheet_54 (by decide) ?_
  refine Zw_goto 59 dX11_sheet_55 (by decide) ?_
  refine Zw_zastn (a) dX11_sheet_59 (by first | decide | assumption | omega) (by first | rfl | assumption) rfl (by omega) (by decide) ?_
  refine Zw_aload_0 dX11_sheet_60 ?_
  refine Zw_getr 75 lf_X11_57 dX11_sheet_61 (by first | decide | assumption | omega) (by first | rfl | assumption) (by rfl) ?_
  refine Zw_iload_1 dX11_sheet_64 ?_
  refine Zw_iload_2 dX11_sheet_65 ?_
  refine Zw_iastn (a) dX11_sheet_66 (by first | decide | assumption | omega) (by first | rfl | assumption) rfl (by omega) (by decide) ?_
  refine Zw_aload_0 dX11_sheet_67 ?_
  refine Zw_getr 76 lf_X11_60 dX11_sheet_68 (by first | decide | assumption | omega) (by first | rfl | assumption) (by rfl) ?_
  refine Zw_iload_1 dX11_sheet_71 ?_
  refine Zw_iload_3 dX11_sheet_72 ?_
  refine Zw_iastn (a) dX11_sheet_73 (by first | decide | assumption | omega) (by first | rfl | assumption) rfl (by omega) (by decide) ?_
  refine Zw_iconst (v := 0) dX11_sheet_74 (by decide) ?_
  refine Zw_istore_4 dX11_sheet_75 rfl ?_
  rw [nar_b1]
  exact l_msheet ha hk h1 (fun μ2 o v u => h μ2 o v (fun q hq => by rw [u q hq]; rfl)) (k + 1) 0 _ (by omega) (by omega) zOff.rf (fun j hj => absurd hj (by omega)) (fun q hq => rfl)
set_option maxRecDepth 20000 in
theorem s_mcellB {s x v : Int32} {Q : zQ} {μ : zMu} {τ : Int64} (hbad : ¬ vp_in s 4) (h : Q (some (.int (-2))) μ τ) : Zc 2 yX11_cell cX11_cell 4 (some .int) [.ref 61, .int s, .int x, .int v] μ τ Q := by
  refine Zc.mk 0 [.ref 61, .int s, .int x, .int v] rfl (by decide) (Nat.le_of_ble_eq_true rfl) ?_
  refine Zw_iload_1 dX11_cell_0 ?_
  refine Zw_S1 (k := 1) lm_X11_383 dX11_cell_1 (by decide) (Nat.le_of_ble_eq_true rfl) ?_
  refine s_isSheet (fun a1 => absurd a1 hbad) (fun _ => ?_)
  refine Zw_if_ne 10 dX11_cell_4 (by decide) (fun c => absurd c (by decide)) (fun _ => ?_)
  refine Zw_bipush (v := (-2)) dX11_cell_7 (by decide) ?_
  refine Zw_ireturn dX11_cell_9 (by first | rfl | assumption) ?_
  exact h
set_option maxRecDepth 20000 in
theorem s_mcellN {a : Nat} {x v : Int32} {Q : zQ} {μ : zMu} {τ : Int64} (ha : a < 4) (hno : μ 74 a = 0) (h : Q (some (.int (-11))) μ τ) : Zc 2 yX11_cell cX11_cell 4 (some .int) [.ref 61, .int (nI a), .int x, .int v] μ τ Q := by
  refine Zc.mk 0 [.ref 61, .int (nI a), .int x, .int v] rfl (by decide) (Nat.le_of_ble_eq_true rfl) ?_
  refine Zw_iload_1 dX11_cell_0 ?_
  refine Zw_S1 (k := 1) lm_X11_383 dX11_cell_1 (by decide) (Nat.le_of_ble_eq_true rfl) ?_
  refine s_isSheet (fun _ => ?_) (fun a0 => absurd (vp_in_nI ha (by omega)) a0)
  refine Zw_if_ne 10 dX11_cell_4 (by decide) (fun _ => ?_) (fun c => absurd c (by decide))
  refine Zw_aload_0 dX11_cell_10 ?_
  refine Zw_getr 74 lf_X11_53 dX11_cell_11 (by first | decide | assumption | omega) (by first | rfl | assumption) (by rfl) ?_
  refine Zw_iload_1 dX11_cell_14 ?_
  refine Zw_zaldnv (a) (0) dX11_cell_15 (by first | decide | assumption | omega) (by first | rfl | assumption) rfl (by omega) (by decide) hno ?_
  refine Zw_if_ne 22 dX11_cell_16 (by decide) (fun c => absurd c (by decide)) (fun _ => ?_)
  refine Zw_bipush (v := (-11)) dX11_cell_19 (by decide) ?_
  refine Zw_ireturn dX11_cell_21 (by first | rfl | assumption) ?_
  exact h
set_option maxRecDepth 20000 in
theorem s_mcellO {a k : Nat} {x v : Int32} {Q : zQ} {μ : zMu} {τ : Int64} (ha : a < 4) (hth : μ 74 a = 1) (hsz : μ 76 a = nI k) (hk : k ≤ 40) (hout : ¬ vp_in x k) (h : Q (some (.int (-12))) μ τ) : Zc 2 yX11_cell cX11_cell 4 (some .int) [.ref 61, .int (nI a), .int x, .int v] μ τ Q := by
  refine Zc.mk 0 [.ref 61, .int (nI a), .int x, .int v] rfl (by decide) (Nat.le_of_ble_eq_true rfl) ?_
  refine Zw_iload_1 dX11_cell_0 ?_
  refine Zw_S1 (k := 1) lm_X11_383 dX11_cell_1 (by decide) (Nat.le_of_ble_eq_true rfl) ?_
  refine s_isSheet (fun _ => ?_) (fun a0 => absurd (vp_in_nI ha (by omega)) a0)
  refine Zw_if_ne 10 dX11_cell_4 (by decide) (fun _ => ?_) (fun c => absurd c (by decide))
  refine Zw_aload_0 dX11_cell_10 ?_
  refine Zw_getr 74 lf_X11_53 dX11_cell_11 (by first | decide | assumption | omega) (by first | rfl | assumption) (by rfl) ?_
  refine Zw_iload_1 dX11_cell_14 ?_
  refine Zw_zaldnv (a) (1) dX11_cell_15 (by first | decide | assumption | omega) (by first | rfl | assumption) rfl (by omega) (by decide) hth ?_
  refine Zw_if_ne 22 dX11_cell_16 (by decide) (fun _ => ?_) (fun c => absurd c (by decide))
  refine Zw_iload_2 dX11_cell_22 ?_
  refine Zw_i2l dX11_cell_23 ?_
  refine Zw_lconst (v := 0) dX11_cell_24 (by decide) ?_
  refine Zw_aload_0 dX11_cell_25 ?_
  refine Zw_getr 76 lf_X11_60 dX11_cell_26 (by first | decide | assumption | omega) (by first | rfl | assumption) (by rfl) ?_
  refine Zw_iload_1 dX11_cell_29 ?_
  refine Zw_ialdnv (a) (nI k) dX11_cell_30 (by first | decide | assumption | omega) (by first | rfl | assumption) rfl (by omega) (by decide) hsz ?_
  refine Zw_iconst (v := 1) dX11_cell_31 (by decide) ?_
  refine Zw_isub dX11_cell_32 ?_
  refine Zw_i2l dX11_cell_33 ?_
  refine Zw_S3 (k := 0) lm_X11_76 dX11_cell_34 (by decide) (Nat.le_of_ble_eq_true rfl) ?_
  refine s_in0 k (in_m1 k hk) (fun a1 => absurd a1 hout) (fun _ => ?_)
  refine Zw_if_ne 43 dX11_cell_37 (by decide) (fun c => absurd c (by decide)) (fun _ => ?_)
  refine Zw_bipush (v := (-12)) dX11_cell_40 (by decide) ?_
  refine Zw_ireturn dX11_cell_42 (by first | rfl | assumption) ?_
  exact h
set_option maxRecDepth 20000 in
theorem s_mcell {a k j : Nat} {so v : Int32} {Q : zQ} {μ : zMu} {τ : Int64} (ha : a < 4) (hth : μ 74 a = 1) (hso : μ 75 a = so) (hsz : μ 76 a = nI k) (hk : k ≤ 40) (hj : j < k) (h : Q (some (.int 1)) (zup μ 77 (40 * a + j) (q_cut so v)) τ) : Zc 2 yX11_cell cX11_cell 4 (some .int) [.ref 61, .int (nI a), .int (nI j), .int v] μ τ Q := by
  refine Zc.mk 0 [.ref 61, .int (nI a), .int (nI j), .int v] rfl (by decide) (Nat.le_of_ble_eq_true rfl) ?_
  refine Zw_iload_1 dX11_cell_0 ?_
  refine Zw_S1 (k := 1) lm_X11_383 dX11_cell_1 (by decide) (Nat.le_of_ble_eq_true rfl) ?_
  refine s_isSheet (fun _ => ?_) (fun a0 => absurd (vp_in_nI ha (by omega)) a0)
  refine Zw_if_ne 10 dX11_cell_4 (by decide) (fun _ => ?_) (fun c => absurd c (by decide))
  refine Zw_aload_0 dX11_cell_10 ?_
  refine Zw_getr 74 lf_X11_53 dX11_cell_11 (by first | decide | assumption | omega) (by first | rfl | assumption) (by rfl) ?_
  refine Zw_iload_1 dX11_cell_14 ?_
  refine Zw_zaldnv (a) (1) dX11_cell_15 (by first | decide | assumption | omega) (by first | rfl | assumption) rfl (by omega) (by decide) hth ?_
  refine Zw_if_ne 22 dX11_cell_16 (by decide) (fun _ => ?_) (fun c => absurd c (by decide))
  refine Zw_iload_2 dX11_cell_22 ?_
  refine Zw_i2l dX11_cell_23 ?_
  refine Zw_lconst (v := 0) dX11_cell_24 (by decide) ?_
  refine Zw_aload_0 dX11_cell_25 ?_
  refine Zw_getr 76 lf_X11_60 dX11_cell_26 (by first | decide | assumption | omega) (by first | rfl | assumption) (by rfl) ?_
  refine Zw_iload_1 dX11_cell_29 ?_
  refine Zw_ialdnv (a) (nI k) dX11_cell_30 (by first | decide | assumption | omega) (by first | rfl | assumption) rfl (by omega) (by decide) hsz ?_
  refine Zw_iconst (v := 1) dX11_cell_31 (by decide) ?_
  refine Zw_isub dX11_cell_32 ?_
  refine Zw_i2l dX11_cell_33 ?_
  refine Zw_S3 (k := 0) lm_X11_76 dX11_cell_34 (by decide) (Nat.le_of_ble_eq_true rfl) ?_
  refine s_in0 k (in_m1 k hk) (fun _ => ?_) (fun a0 => absurd (vp_in_nI hj (by omega)) a0)
  refine Zw_if_ne 43 dX11_cell_37 (by decide) (fun _ => ?_) (fun c => absurd c (by decide))
  refine Zw_aload_0 dX11_cell_43 ?_
  refine Zw_getr 77 lf_X11_63 dX11_cell_44 (by first | decide | assumption | omega) (by first | rfl | assumption) (by rfl) ?_
  refine Zw_bipush (v := 40) dX11_cell_47 (by decide) ?_
  refine Zw_iload_1 dX11_cell_49 ?_
  refine Zw_nmul (40) (a) dX11_cell_50 rfl rfl ?_
  refine Zw_iload_2 dX11_cell_51 ?_
  refine Zw_nadd ((40 * a)) (j) dX11_cell_52 rfl rfl ?_
  refine Zw_aload_0 dX11_cell_53 ?_
  refine Zw_getr 75 lf_X11_57 dX11_cell_54 (by first | decide | assumption | omega) (by first | rfl | assumption) (by rfl) ?_
  refine Zw_iload_1 dX11_cell_57 ?_
  refine Zw_ialdnv (a) (so) dX11_cell_58 (by first | decide | assumption | omega) (by first | rfl | assumption) rfl (by omega) (by decide) hso ?_
  refine Zw_if_ne 67 dX11_cell_59 (by decide) (fun c59 => ?_) (fun c59 => ?_)
  · refine Zw_aload_0 dX11_cell_67 ?_
    refine Zw_getr 75 lf_X11_57 dX11_cell_68 (by first | decide | assumption | omega) (by first | rfl | assumption) (by rfl) ?_
    refine Zw_iload_1 dX11_cell_71 ?_
    refine Zw_ialdnv (a) (so) dX11_cell_72 (by first | decide | assumption | omega) (by first | rfl | assumption) rfl (by omega) (by decide) hso ?_
    refine Zw_iconst (v := 1) dX11_cell_73 (by decide) ?_
    refine Zw_icmp_ne 82 dX11_cell_74 (by decide) (fun c74 => ?_) (fun c74 => ?_)
    · refine Zw_iload_3 dX11_cell_82 ?_
      refine Zw_iastn (((40 * a) + j)) dX11_cell_83 (by first | decide | assumption | omega) (by first | rfl | assumption) rfl (by omega) (by decide) ?_
      refine Zw_iconst (v := 1) dX11_cell_84 (by decide) ?_
      refine Zw_ireturn dX11_cell_85 (by first | rfl | assumption) ?_
      rw [q_cut, if_neg c59, if_neg c74] at h
      exact h
    · refine Zw_iload_3 dX11_cell_77 ?_
      refine Zw_i2s dX11_cell_78 ?_
      refine Zw_goto 83 dX11_cell_79 (by decide) ?_
      refine Zw_iastn (((40 * a) + j)) dX11_cell_83 (by first | decide | assumption | omega) (by first | rfl | assumption) rfl (by omega) (by decide) ?_
      refine Zw_iconst (v := 1) dX11_cell_84 (by decide) ?_
      refine Zw_ireturn dX11_cell_85 (by first | rfl | assumption) ?_
      rw [q_cut, if_neg c59, if_pos c74] at h
      exact h
  · refine Zw_iload_3 dX11_cell_62 ?_
    refine Zw_i2b dX11_cell_63 ?_
    refine Zw_goto 83 dX11_cell_64 (by decide) ?_
    refine Zw_iastn (((40 * a) + j)) dX11_cell_83 (by first | decide | assumption | omega) (by first | rfl | assumption) rfl (by omega) (by decide) ?_
    refine Zw_iconst (v := 1) dX11_cell_84 (by decide) ?_
    refine Zw_ireturn dX11_cell_85 (by first | rfl | assumption) ?_
    rw [q_cut, if_pos c59] at h
    exact h
set_option maxRecDepth 20000 in
theorem s_mcopyB {s i o j n : Int32} {Q : zQ} {μ : zMu} {τ : Int64} (hbad : ¬ (vp_in s 4 ∧ vp_in o 4)) (h : Q (some (.int (-2))) μ τ) : Zc 2 yX11_copy cX11_copy 9 (some .int) [.ref 61, .int s, .int i, .int o, .int j, .int n] μ τ Q := by
  refine Zc.mk 3 [.ref 61, .int s, .int i, .int o, .int j, .int n, .null, .null, .null] rfl (by decide) (Nat.le_of_ble_eq_true rfl) ?_
  refine Zw_iload_1 dX11_copy_0 ?_
  refine Zw_S1 (k := 1) lm_X11_383 dX11_copy_1 (by decide) (Nat.le_of_ble_eq_true rfl) ?_
  refine s_isSheet (fun b1 => ?_) (fun b1 => ?_)
  · refine Zw_if_eq 14 dX11_copy_4 (by decide) (fun c => absurd c (by decide)) (fun _ => ?_)
    refine Zw_iload_3 dX11_copy_7 ?_
    refine Zw_S1 (k := 1) lm_X11_383 dX11_copy_8 (by decide) (Nat.le_of_ble_eq_true rfl) ?_
    refine s_isSheet (fun b2 => ?_) (fun b2 => ?_)
    · refine Zw_if_ne 17 dX11_copy_11 (by decide) (fun _ => ?_) (fun c => absurd c (by decide))
      exact absurd ⟨b1, b2⟩ hbad
    · refine Zw_if_ne 17 dX11_copy_11 (by decide) (fun c => absurd c (by decide)) (fun _ => ?_)
      refine Zw_bipush (v := (-2)) dX11_copy_14 (by decide) ?_
      refine Zw_ireturn dX11_copy_16 (by first | rfl | assumption) ?_
      exact h
  · refine Zw_if_eq 14 dX11_copy_4 (by decide) (fun _ => ?_) (fun c => absurd c (by decide))
    refine Zw_bipush (v := (-2)) dX11_copy_14 (by decide) ?_
    refine Zw_ireturn dX11_copy_16 (by first | rfl | assumption) ?_
    exact h
set_option maxRecDepth 20000 in
theorem s_mcopyN {a b : Nat} {i j n : Int32} {Q : zQ} {μ : zMu} {τ : Int64} (ha : a < 4) (hb : b < 4) (hno : μ 74 a = 0 ∨ μ 74 b = 0) (h : Q (some (.int (-11))) μ τ) : Zc 2 yX11_copy cX11_copy 9 (some .int) [.ref 61, .int (nI a), .int i, .int (nI b), .int j, .int n] μ τ Q := by
  refine Zc.mk 3 [.ref 61, .int (nI a), .int i, .int (nI b), .int j, .int n, .null, .null, .null] rfl (by decide) (Nat.le_of_ble_eq_true rfl) ?_
  refine Zw_iload_1 dX11_copy_0 ?_
  refine Zw_S1 (k := 1) lm_X11_383 dX11_copy_1 (by decide) (Nat.le_of_ble_eq_true rfl) ?_
  refine s_isSheet (fun _ => ?_) (fun a0 => absurd (vp_in_nI ha (by omega)) a0)
  refine Zw_if_eq 14 dX11_copy_4 (by decide) (fun c => absurd c (by decide)) (fun _ => ?_)
  refine Zw_iload_3 dX11_copy_7 ?_
  refine Zw_S1 (k := 1) lm_X11_383 dX11_copy_8 (by decide) (Nat.le_of_ble_eq_true rfl) ?_
  refine s_isSheet (fun _ => ?_) (fun a0 => absurd (vp_in_nI hb (by omega)) a0)
  refine Zw_if_ne 17 dX11_copy_11 (by decide) (fun _ => ?_) (fun c => absurd c (by decide))
  refine Zw_aload_0 dX11_copy_17 ?_
  refine Zw_getr 74 lf_X11_53 dX11_copy_18 (by first | decide | assumption | omega) (by first | rfl | assumption) (by rfl) ?_
  refine Zw_iload_1 dX11_copy_21 ?_
  refine Zw_zaldn (a) dX11_copy_22 (by first | decide | assumption | omega) (by first | rfl | assumption) rfl (by omega) (by decide) ?_
  refine Zw_if_eq 35 dX11_copy_23 (by decide) (fun c23 => ?_) (fun c23 => ?_)
  · refine Zw_bipush (v := (-11)) dX11_copy_35 (by decide) ?_
    refine Zw_ireturn dX11_copy_37 (by first | rfl | assumption) ?_
    exact h
  · refine Zw_aload_0 dX11_copy_26 ?_
    refine Zw_getr 74 lf_X11_53 dX11_copy_27 (by first | decide | assumption | omega) (by first | rfl | assumption) (by rfl) ?_
    refine Zw_iload_3 dX11_copy_30 ?_
    refine Zw_zaldn (b) dX11_copy_31 (by first | decide | assumption | omega) (by first | rfl | assumption) rfl (by omega) (by decide) ?_
    refine Zw_if_ne 38 dX11_copy_32 (by decide) (fun c32 => ?_) (fun c32 => ?_)
    · exact hno.elim (fun e => absurd e c23) (fun e => absurd e c32)
    · refine Zw_bipush (v := (-11)) dX11_copy_35 (by decide) ?_
      refine Zw_ireturn dX11_copy_37 (by first | rfl | assumption) ?_
      exact h
set_option maxRecDepth 20000 in
theorem s_mcopyU {a b : Nat} {i j n : Int32} {Q : zQ} {μ : zMu} {τ : Int64} (ha : a < 4) (hb : b < 4) (ht1 : μ 74 a = 1) (ht2 : μ 74 b = 1) (hun : ¬ μ 75 a = μ 75 b) (h : Q (some (.int (-13))) μ τ) : Zc 2 yX11_copy cX11_copy 9 (some .int) [.ref 61, .int (nI a), .int i, .int (nI b), .int j, .int n] μ τ Q := by
  refine Zc.mk 3 [.ref 61, .int (nI a), .int i, .int (nI b), .int j, .int n, .null, .null, .null] rfl (by decide) (Nat.le_of_ble_eq_true rfl) ?_
  refine Zw_iload_1 dX11_copy_0 ?_
  refine Zw_S1 (k := 1) lm_X11_383 dX11_copy_1 (by decide) (Nat.le_of_ble_eq_true rfl) ?_
  refine s_isSheet (fun _ => ?_) (fun a0 => absurd (vp_in_nI ha (by omega)) a0)
  refine Zw_if_eq 14 dX11_copy_4 (by decide) (fun c => absurd c (by decide)) (fun _ => ?_)
  refine Zw_iload_3 dX11_copy_7 ?_
  refine Zw_S1 (k := 1) lm_X11_383 dX11_copy_8 (by decide) (Nat.le_of_ble_eq_true rfl) ?_
  refine s_isSheet (fun _ => ?_) (fun a0 => absurd (vp_in_nI hb (by omega)) a0)
  refine Zw_if_ne 17 dX11_copy_11 (by decide) (fun _ => ?_) (fun c => absurd c (by decide))
  refine Zw_aload_0 dX11_copy_17 ?_
  refine Zw_getr 74 lf_X11_53 dX11_copy_18 (by first | decide | assumption | omega) (by first | rfl | assumption) (by rfl) ?_
  refine Zw_iload_1 dX11_copy_21 ?_
  refine Zw_zaldnv (a) (1) dX11_copy_22 (by first | decide | assumption | omega) (by first | rfl | assumption) rfl (by omega) (by decide) ht1 ?_
  refine Zw_if_eq 35 dX11_copy_23 (by decide) (fun c => absurd c (by decide)) (fun _ => ?_)
  refine Zw_aload_0 dX11_copy_26 ?_
  refine Zw_getr 74 lf_X11_53 dX11_copy_27 (by first | decide | assumption | omega) (by first | rfl | assumption) (by rfl) ?_
  refine Zw_iload_3 dX11_copy_30 ?_
  refine Zw_zaldnv (b) (1) dX11_copy_31 (by first | decide | assumption | omega) (by first | rfl | assumption) rfl (by omega) (by decide) ht2 ?_
  refine Zw_if_ne 38 dX11_copy_32 (by decide) (fun _ => ?_) (fun c => absurd c (by decide))
  refine Zw_aload_0 dX11_copy_38 ?_
  refine Zw_getr 75 lf_X11_57 dX11_copy_39 (by first | decide | assumption | omega) (by first | rfl | assumption) (by rfl) ?_
  refine Zw_iload_1 dX11_copy_42 ?_
  refine Zw_ialdn (a) dX11_copy_43 (by first | decide | assumption | omega) (by first | rfl | assumption) rfl (by omega) (by decide) ?_
  refine Zw_aload_0 dX11_copy_44 ?_
  refine Zw_getr 75 lf_X11_57 dX11_copy_45 (by first | decide | assumption | omega) (by first | rfl | assumption) (by rfl) ?_
  refine Zw_iload_3 dX11_copy_48 ?_
  refine Zw_ialdn (b) dX11_copy_49 (by first | decide | assumption | omega) (by first | rfl | assumption) rfl (by omega) (by decide) ?_
  refine Zw_icmp_eq 56 dX11_copy_50 (by decide) (fun c50 => absurd c50 hun) (fun c50 => ?_)
  refine Zw_bipush (v := (-13)) dX11_copy_53 (by decide) ?_
  refine Zw_ireturn dX11_copy_55 (by first | rfl | assumption) ?_
  exact h
theorem cp_sub {k : Nat} {n : Int32} (hk : k ≤ 40) (hn : 0 ≤ n.toInt) : (nI k - n).toInt = (k : Int) - n.toInt := by
  have h2 := n.toInt_lt
  rw [Int32.toInt_sub, nI_toInt (by omega)]
  exact Int.bmod_eq_of_le (by omega) (by omega)
theorem cp_le {k : Nat} {n x : Int32} (hk : k ≤ 40) (hn : 0 ≤ n.toInt) (h : ¬ nI k - n < x) : x.toInt + n.toInt ≤ k := by
  have := nlt_i h
  rw [cp_sub hk hn] at this
  omega
set_option maxRecDepth 20000 in
theorem s_mcopyO {a b ka kb : Nat} {i j n : Int32} {Q : zQ} {μ : zMu} {τ : Int64} (ha : a < 4) (hb : b < 4) (ht1 : μ 74 a = 1) (ht2 : μ 74 b = 1) (hun : μ 75 a = μ 75 b) (hsa : μ 76 a = nI ka) (hsb : μ 76 b = nI kb) (hka : ka ≤ 40) (hkb : kb ≤ 40) (hout : ¬ (0 ≤ i.toInt ∧ 0 ≤ j.toInt ∧ 0 ≤ n.toInt ∧ i.toInt + n.toInt ≤ ka ∧ j.toInt + n.toInt ≤ kb)) (h : Q (some (.int (-12))) μ τ) : Zc 2 yX11_copy cX11_copy 9 (some .int) [.ref 61, .int (nI a), .int i, .int (nI b), .int j, .int n] μ τ Q := by
  refine Zc.mk 3 [.ref 61, .int (nI a), .int i, .int (nI b), .int j, .int n, .null, .null, .null] rfl (by decide) (Nat.le_of_ble_eq_true rfl) ?_
  refine Zw_iload_1 dX11_copy_0 ?_
  refine Zw_S1 (k := 1) lm_X11_383 dX11_copy_1 (by decide) (Nat.le_of_ble_eq_true rfl) ?_
  refine s_isSheet (fun _ => ?_) (fun a0 => absurd (vp_in_nI ha (by omega)) a0)
  refine Zw_if_eq 14 dX11_copy_4 (by decide) (fun c => absurd c (by decide)) (fun _ => ?_)
  refine Zw_iload_3 dX11_copy_7 ?_
  refine Zw_S1 (k := 1) lm_X11_383 dX11_copy_8 (by decide) (Nat.le_of_ble_eq_true rfl) ?_
  refine s_isSheet (fun _ => ?_) (fun a0 => absurd (vp_in_nI hb (by omega)) a0)
  refine Zw_if_ne 17 dX11_copy_11 (by decide) (fun _ => ?_) (fun c => absurd c (by decide))
  refine Zw_aload_0 dX11_copy_17 ?_
  refine Zw_getr 74 lf_X11_53 dX11_copy_18 (by first | decide | assumption | omega) (by first | rfl | assumption) (by rfl) ?_
  refine Zw_iload_1 dX11_copy_21 ?_
  refine Zw_zaldnv (a) (1) dX11_copy_22 (by first | decide | assumption | omega) (by first | rfl | assumption) rfl (by omega) (by decide) ht1 ?_
  refine Zw_if_eq 35 dX11_copy_23 (by decide) (fun c => absurd c (by decide)) (fun _ => ?_)
  refine Zw_aload_0 dX11_copy_26 ?_
  refine Zw_getr 74 lf_X11_53 dX11_copy_27 (by first | decide | assumption | omega) (by first | rfl | assumption) (by rfl) ?_
  refine Zw_iload_3 dX11_copy_30 ?_
  refine Zw_zaldnv (b) (1) dX11_copy_31 (by first | decide | assumption | omega) (by first | rfl | assumption) rfl (by omega) (by decide) ht2 ?_
  refine Zw_if_ne 38 dX11_copy_32 (by decide) (fun _ => ?_) (fun c => absurd c (by decide))
  refine Zw_aload_0 dX11_copy_38 ?_
  refine Zw_getr 75 lf_X11_57 dX11_copy_39 (by first | decide | assumption | omega) (by first | rfl | assumption) (by rfl) ?_
  refine Zw_iload_1 dX11_copy_42 ?_
  refine Zw_ialdn (a) dX11_copy_43 (by first | decide | assumption | omega) (by first | rfl | assumption) rfl (by omega) (by decide) ?_
  refine Zw_aload_0 dX11_copy_44 ?_
  refine Zw_getr 75 lf_X11_57 dX11_copy_45 (by first | decide | assumption | omega) (by first | rfl | assumption) (by rfl) ?_
  refine Zw_iload_3 dX11_copy_48 ?_
  refine Zw_ialdn (b) dX11_copy_49 (by first | decide | assumption | omega) (by first | rfl | assumption) rfl (by omega) (by decide) ?_
  refine Zw_icmp_eq 56 dX11_copy_50 (by decide) (fun c50 => ?_) (fun c50 => absurd hun c50)
  refine Zw_iload_5 dX11_copy_56 ?_
  refine Zw_if_lt 97 dX11_copy_58 (by decide) (fun c58 => ?_) (fun c58 => ?_)
  · refine Zw_bipush (v := (-12)) dX11_copy_97 (by decide) ?_
    refine Zw_ireturn dX11_copy_99 (by first | rfl | assumption) ?_
    exact h
  · refine Zw_iload_2 dX11_copy_61 ?_
    refine Zw_if_lt 97 dX11_copy_62 (by decide) (fun c62 => ?_) (fun c62 => ?_)
    · refine Zw_bipush (v := (-12)) dX11_copy_97 (by decide) ?_
      refine Zw_ireturn dX11_copy_99 (by first | rfl | assumption) ?_
      exact h
    · refine Zw_iload_4 dX11_copy_65 ?_
      refine Zw_if_lt 97 dX11_copy_67 (by decide) (fun c67 => ?_) (fun c67 => ?_)
      · refine Zw_bipush (v := (-12)) dX11_copy_97 (by decide) ?_
        refine Zw_ireturn dX11_copy_99 (by first | rfl | assumption) ?_
        exact h
      · refine Zw_iload_2 dX11_copy_70 ?_
        refine Zw_aload_0 dX11_copy_71 ?_
        refine Zw_getr 76 lf_X11_60 dX11_copy_72 (by first | decide | assumption | omega) (by first | rfl | assumption) (by rfl) ?_
        refine Zw_iload_1 dX11_copy_75 ?_
        refine Zw_ialdnv (a) (nI ka) dX11_copy_76 (by first | decide | assumption | omega) (by first | rfl | assumption) rfl (by omega) (by decide) hsa ?_
        refine Zw_iload_5 dX11_copy_77 ?_
        refine Zw_isub dX11_copy_79 ?_
        refine Zw_icmp_gt 97 dX11_copy_80 (by decide) (fun c80 => ?_) (fun c80 => ?_)
        · refine Zw_bipush (v := (-12)) dX11_copy_97 (by decide) ?_
          refine Zw_ireturn dX11_copy_99 (by first | rfl | assumption) ?_
          exact h
        · refine Zw_iload_4 dX11_copy_83 ?_
          refine Zw_aload_0 dX11_copy_85 ?_
          refine Zw_getr 76 lf_X11_60 dX11_copy_86 (by first | decide | assumption | omega) (by first | rfl | assumption) (by rfl) ?_
          refine Zw_iload_3 dX11_copy_89 ?_
          refine Zw_ialdnv (b) (nI kb) dX11_copy_90 (by first | decide | assumption | omega) (by first | rfl | assumption) rfl (by omega) (by decide) hsb ?_
          refine Zw_iload_5 dX11_copy_91 ?_
          refine Zw_isub dX11_copy_93 ?_
          refine Zw_icmp_le 100 dX11_copy_94 (by decide) (fun c94 => ?_) (fun c94 => ?_)
          · exfalso
            refine hout ⟨?_, ?_, ?_, ?_, ?_⟩
            · exact ge0 c62
            · exact ge0 c67
            · exact ge0 c58
            · exact cp_le hka (ge0 c58) c80
            · exact cp_le hkb (ge0 c58) (fun e => absurd (Int32.lt_iff_toInt_lt.mp e) (by have := Int32.le_iff_toInt_le.mp c94; omega))
          · refine Zw_bipush (v := (-12)) dX11_copy_97 (by decide) ?_
            refine Zw_ireturn dX11_copy_99 (by first | rfl | assumption) ?_
            exact h
set_option maxRecDepth 20000 in
theorem l_cpU {Q : zQ} {μ0 : zMu} {τ : Int64} {a b ii jj nn : Nat} (ha : a < 4) (hb : b < 4) (hi : ii + nn ≤ 40) (hj : jj + nn ≤ 40) (hs : a = b ∧ ii < jj) (h : ∀ μ2, zOff [77] μ0 μ2 → (∀ q, q < nn → μ2 77 (40 * b + jj + q) = μ0 77 (40 * a + ii + q)) → (∀ x, (x < 40 * b + jj ∨ 40 * b + jj + nn ≤ x) → μ2 77 x = μ0 77 x) → Q (some (.int (nI nn))) μ2 τ) : ∀ m k μ, nn - k < m → k ≤ nn → zOff [77] μ0 μ → (∀ q, nn - k ≤ q → q < nn → μ 77 (40 * b + jj + q) = μ0 77 (40 * a + ii + q)) → (∀ x, (x < 40 * b + jj + (nn - k) ∨ 40 * b + jj + nn ≤ x) → μ 77 x = μ0 77 x) → Zw 2 RX11 cX11_copy 9 (some .int) Q 121 [.ref 61, .int (nI a), .int (nI ii), .int (nI b), .int (nI jj), .int (nI nn), .int 1, .int (nI k), .null] [] μ τ
  | 0, k, _, hm, _, _, _, _ => absurd hm (by omega)
  | m + 1, k, μ, hm, hk, hO, hV, hU => by
    refine Zw_iload_7 dX11_copy_121 ?_
    refine Zw_iload_5 dX11_copy_123 ?_
    refine Zw_nicmp_ge (k) (nn) 182 dX11_copy_125 (by decide) rfl rfl (by omega) (by omega) (fun c125 => ?_) (fun c125 => ?_)
    · refine Zw_iload_5 dX11_copy_182 ?_
      refine Zw_ireturn dX11_copy_184 (by first | rfl | assumption) ?_
      exact h _ hO (fun q hq => hV q (by omega) (by omega)) (fun x hx => hU x (by omega))
    · refine Zw_iload_6 dX11_copy_128 ?_
      refine Zw_if_eq 143 dX11_copy_130 (by decide) (fun c => absurd c (by decide)) (fun _ => ?_)
      refine Zw_iload_5 dX11_copy_133 ?_
      refine Zw_iconst (v := 1) dX11_copy_135 (by decide) ?_
      refine Zw_nsub (nn) (1) dX11_copy_136 rfl rfl (by omega) ?_
      refine Zw_iload_7 dX11_copy_137 ?_
      refine Zw_nsub ((nn - 1)) (k) dX11_copy_139 rfl rfl (by omega) ?_
      refine Zw_goto 145 dX11_copy_140 (by decide) ?_
      refine Zw_istore_8 dX11_copy_145 rfl ?_
      refine Zw_aload_0 dX11_copy_147 ?_
      refine Zw_getr 77 lf_X11_63 dX11_copy_148 (by first | decide | assumption | omega) (by first | rfl | assumption) (by rfl) ?_
      refine Zw_bipush (v := 40) dX11_copy_151 (by decide) ?_
      refine Zw_iload_3 dX11_copy_153 ?_
      refine Zw_nmul (40) (b) dX11_copy_154 rfl rfl ?_
      refine Zw_iload_4 dX11_copy_155 ?_
      refine Zw_nadd ((40 * b)) (jj) dX11_copy_157 rfl rfl ?_
      refine Zw_iload_8 dX11_copy_158 ?_
      refine Zw_nadd (((40 * b) + jj)) (((nn - 1) - k)) dX11_copy_160 rfl rfl ?_
      refine Zw_aload_0 dX11_copy_161 ?_
      refine Zw_getr 77 lf_X11_63 dX11_copy_162 (by first | decide | assumption | omega) (by first | rfl | assumption) (by rfl) ?_
      refine Zw_bipush (v := 40) dX11_copy_165 (by decide) ?_
      refine Zw_iload_1 dX11_copy_167 ?_
      refine Zw_nmul (40) (a) dX11_copy_168 rfl rfl ?_
      refine Zw_iload_2 dX11_copy_169 ?_
      refine Zw_nadd ((40 * a)) (ii) dX11_copy_170 rfl rfl ?_
      refine Zw_iload_8 dX11_copy_171 ?_
      refine Zw_nadd (((40 * a) + ii)) (((nn - 1) - k)) dX11_copy_173 rfl rfl ?_
      refine Zw_ialdn ((((40 * a) + ii) + ((nn - 1) - k))) dX11_copy_174 (by first | decide | assumption | omega) (by first | rfl | assumption) rfl (by omega) (by decide) ?_
      refine Zw_iastn ((((40 * b) + jj) + ((nn - 1) - k))) dX11_copy_175 (by first | decide | assumption | omega) (by first | rfl | assumption) rfl (by omega) (by decide) ?_
      refine Zw_iinc_7 dX11_copy_176 rfl (zincn _) ?_
      refine Zw_goto 121 dX11_copy_179 (by decide) ?_
      refine Zw_drop (L' := [.ref 61, .int (nI a), .int (nI ii), .int (nI b), .int (nI jj), .int (nI nn), .int 1, .int (nI (k + 1)), .null]) ⟨Or.inr rfl, Or.inr rfl, Or.inr rfl, Or.inr rfl, Or.inr rfl, Or.inr rfl, Or.inr rfl, Or.inr rfl, Or.inl rfl, trivial⟩ (Nat.le_of_ble_eq_true rfl) ?_
      refine l_cpU ha hb hi hj hs h m (k + 1) _ (by omega) (by omega) (hO.up (by simp)) (fun q hq1 hq2 => ?_) (fun x hx => ?_)
      · rw [zup_at]
        by_cases e : q = (nn - 1 - k)
        · subst e
          rw [if_pos ⟨rfl, rfl⟩]
          exact hU _ (by omega)
        · rw [if_neg (by omega)]
          exact hV q (by omega) (by omega)
      · rw [zup_at, if_neg (by omega)]
        exact hU x (by omega)
set_option maxRecDepth 20000 in
theorem l_cpD {Q : zQ} {μ0 : zMu} {τ : Int64} {a b ii jj nn : Nat} (ha : a < 4) (hb : b < 4) (hi : ii + nn ≤ 40) (hj : jj + nn ≤ 40) (hs : a ≠ b ∨ jj ≤ ii) (h : ∀ μ2, zOff [77] μ0 μ2 → (∀ q, q < nn → μ2 77 (40 * b + jj + q) = μ0 77 (40 * a + ii + q)) → (∀ x, (x < 40 * b + jj ∨ 40 * b + jj + nn ≤ x) → μ2 77 x = μ0 77 x) → Q (some (.int (nI nn))) μ2 τ) : ∀ m k μ, nn - k < m → k ≤ nn → zOff [77] μ0 μ → (∀ q, 0 ≤ q → q < k → μ 77 (40 * b + jj + q) = μ0 77 (40 * a + ii + q)) → (∀ x, (x < 40 * b + jj ∨ 40 * b + jj + k ≤ x) → μ 77 x = μ0 77 x) → Zw 2 RX11 cX11_copy 9 (some .int) Q 121 [.ref 61, .int (nI a), .int (nI ii), .int (nI b), .int (nI jj), .int (nI nn), .int 0, .int (nI k), .null] [] μ τ
  | 0, k, _, hm, _, _, _, _ => absurd hm (by omega)
  | m + 1, k, μ, hm, hk, hO, hV, hU => by
    refine Zw_iload_7 dX11_copy_121 ?_
    refine Zw_iload_5 dX11_copy_123 ?_
    refine Zw_nicmp_ge (k) (nn) 182 dX11_copy_125 (by decide) rfl rfl (by omega) (by omega) (fun c125 => ?_) (fun c125 => ?_)
    · refine Zw_iload_5 dX11_copy_182 ?_
      refine Zw_ireturn dX11_copy_184 (by first | rfl | assumption) ?_
      exact h _ hO (fun q hq => hV q (by omega) (by omega)) (fun x hx => hU x (by omega))
    · refine Zw_iload_6 dX11_copy_128 ?_
      refine Zw_if_eq 143 dX11_copy_130 (by decide) (fun _ => ?_) (fun c => absurd c (by decide))
      refine Zw_iload_7 dX11_copy_143 ?_
      refine Zw_istore_8 dX11_copy_145 rfl ?_
      refine Zw_aload_0 dX11_copy_147 ?_
      refine Zw_getr 77 lf_X11_63 dX11_copy_148 (by first | decide | assumption | omega) (by first | rfl | assumption) (by rfl) ?_
      refine Zw_bipush (v := 40) dX11_copy_151 (by decide) ?_
      refine Zw_iload_3 dX11_copy_153 ?_
      refine Zw_nmul (40) (b) dX11_copy_154 rfl rfl ?_
      refine Zw_iload_4 dX11_copy_155 ?_
      refine Zw_nadd ((40 * b)) (jj) dX11_copy_157 rfl rfl ?_
      refine Zw_iload_8 dX11_copy_158 ?_
      refine Zw_nadd (((40 * b) + jj)) (k) dX11_copy_160 rfl rfl ?_
      refine Zw_aload_0 dX11_copy_161 ?_
      refine Zw_getr 77 lf_X11_63 dX11_copy_162 (by first | decide | assumption | omega) (by first | rfl | assumption) (by rfl) ?_
      refine Zw_bipush (v := 40) dX11_copy_165 (by decide) ?_
      refine Zw_iload_1 dX11_copy_167 ?_
      refine Zw_nmul (40) (a) dX11_copy_168 rfl rfl ?_
      refine Zw_iload_2 dX11_copy_169 ?_
      refine Zw_nadd ((40 * a)) (ii) dX11_copy_170 rfl rfl ?_
      refine Zw_iload_8 dX11_copy_171 ?_
      refine Zw_nadd (((40 * a) + ii)) (k) dX11_copy_173 rfl rfl ?_
      refine Zw_ialdn ((((40 * a) + ii) + k)) dX11_copy_174 (by first | decide | assumption | omega) (by first | rfl | assumption) rfl (by omega) (by decide) ?_
      refine Zw_iastn ((((40 * b) + jj) + k)) dX11_copy_175 (by first | decide | assumption | omega) (by first | rfl | assumption) rfl (by omega) (by decide) ?_
      refine Zw_iinc_7 dX11_copy_176 rfl (zincn _) ?_
      refine Zw_goto 121 dX11_copy_179 (by decide) ?_
      refine Zw_drop (L' := [.ref 61, .int (nI a), .int (nI ii), .int (nI b), .int (nI jj), .int (nI nn), .int 0, .int (nI (k + 1)), .null]) ⟨Or.inr rfl, Or.inr rfl, Or.inr rfl, Or.inr rfl, Or.inr rfl, Or.inr rfl, Or.inr rfl, Or.inr rfl, Or.inl rfl, trivial⟩ (Nat.le_of_ble_eq_true rfl) ?_
      refine l_cpD ha hb hi hj hs h m (k + 1) _ (by omega) (by omega) (hO.up (by simp)) (fun q hq1 hq2 => ?_) (fun x hx => ?_)
      · rw [zup_at]
        by_cases e : q = k
        · subst e
          rw [if_pos ⟨rfl, rfl⟩]
          exact hU _ (by omega)
        · rw [if_neg (by omega)]
          exact hV q (by omega) (by omega)
      · rw [zup_at, if_neg (by omega)]
        exact hU x (by omega)
set_option maxRecDepth 20000 in
theorem s_mcopy {a b ii jj nn ka kb : Nat} {Q : zQ} {μ : zMu} {τ : Int64} (ha : a < 4) (hb : b < 4) (ht1 : μ 74 a = 1) (ht2 : μ 74 b = 1) (hun : μ 75 a = μ 75 b) (hsa : μ 76 a = nI ka) (hsb : μ 76 b = nI kb) (hka : ka ≤ 40) (hkb : kb ≤ 40) (hi : ii + nn ≤ ka) (hj : jj + nn ≤ kb) (h : ∀ μ2, zOff [77] μ μ2 → (∀ q, q < nn → μ2 77 (40 * b + jj + q) = μ 77 (40 * a + ii + q)) → (∀ x, (x < 40 * b + jj ∨ 40 * b + jj + nn ≤ x) → μ2 77 x = μ 77 x) → Q (some (.int (nI nn))) μ2 τ) : Zc 2 yX11_copy cX11_copy 9 (some .int) [.ref 61, .int (nI a), .int (nI ii), .int (nI b), .int (nI jj), .int (nI nn)] μ τ Q := by
  refine Zc.mk 3 [.ref 61, .int (nI a), .int (nI ii), .int (nI b), .int (nI jj), .int (nI nn), .null, .null, .null] rfl (by decide) (Nat.le_of_ble_eq_true rfl) ?_
  refine Zw_iload_1 dX11_copy_0 ?_
  refine Zw_S1 (k := 1) lm_X11_383 dX11_copy_1 (by decide) (Nat.le_of_ble_eq_true rfl) ?_
  refine s_isSheet (fun _ => ?_) (fun a0 => absurd (vp_in_nI ha (by omega)) a0)
  refine Zw_if_eq 14 dX11_copy_4 (by decide) (fun c => absurd c (by decide)) (fun _ => ?_)
  refine Zw_iload_3 dX11_copy_7 ?_
  refine Zw_S1 (k := 1) lm_X11_383 dX11_copy_8 (by decide) (Nat.le_of_ble_eq_true rfl) ?_
  refine s_isSheet (fun _ => ?_) (fun a0 => absurd (vp_in_nI hb (by omega)) a0)
  refine Zw_if_ne 17 dX11_copy_11 (by decide) (fun _ => ?_) (fun c => absurd c (by decide))
  refine Zw_aload_0 dX11_copy_17 ?_
  refine Zw_getr 74 lf_X11_53 dX11_copy_18 (by first | decide | assumption | omega) (by first | rfl | assumption) (by rfl) ?_
  refine Zw_iload_1 dX11_copy_21 ?_
  refine Zw_zaldnv (a) (1) dX11_copy_22 (by first | decide | assumption | omega) (by first | rfl | assumption) rfl (by omega) (by decide) ht1 ?_
  refine Zw_if_eq 35 dX11_copy_23 (by decide) (fun c => absurd c (by decide)) (fun _ => ?_)
  refine Zw_aload_0 dX11_copy_26 ?_
  refine Zw_getr 74 lf_X11_53 dX11_copy_27 (by first | decide | assumption | omega) (by first | rfl | assumption) (by rfl) ?_
  refine Zw_iload_3 dX11_copy_30 ?_
  refine Zw_zaldnv (b) (1) dX11_copy_31 (by first | decide | assumption | omega) (by first | rfl | assumption) rfl (by omega) (by decide) ht2 ?_
  refine Zw_if_ne 38 dX11_copy_32 (by decide) (fun _ => ?_) (fun c => absurd c (by decide))
  refine Zw_aload_0 dX11_copy_38 ?_
  refine Zw_getr 75 lf_X11_57 dX11_copy_39 (by first | decide | assumption | omega) (by first | rfl | assumption) (by rfl) ?_
  refine Zw_iload_1 dX11_copy_42 ?_
  refine Zw_ialdn (a) dX11_copy_43 (by first | decide | assumption | omega) (by first | rfl | assumption) rfl (by omega) (by decide) ?_
  refine Zw_aload_0 dX11_copy_44 ?_
  refine Zw_getr 75 lf_X11_57 dX11_copy_45 (by first | decide | assumption | omega) (by first | rfl | assumption) (by rfl) ?_
  refine Zw_iload_3 dX11_copy_48 ?_
  refine Zw_ialdn (b) dX11_copy_49 (by first | decide | assumption | omega) (by first | rfl | assumption) rfl (by omega) (by decide) ?_
  refine Zw_icmp_eq 56 dX11_copy_50 (by decide) (fun c50 => ?_) (fun c50 => absurd hun c50)
  refine Zw_iload_5 dX11_copy_56 ?_
  refine Zw_if_lt 97 dX11_copy_58 (by decide) (fun c58 => absurd c58 (nI_pos (by omega))) (fun c58 => ?_)
  refine Zw_iload_2 dX11_copy_61 ?_
  refine Zw_if_lt 97 dX11_copy_62 (by decide) (fun c62 => absurd c62 (nI_pos (by omega))) (fun c62 => ?_)
  refine Zw_iload_4 dX11_copy_65 ?_
  refine Zw_if_lt 97 dX11_copy_67 (by decide) (fun c67 => absurd c67 (nI_pos (by omega))) (fun c67 => ?_)
  refine Zw_iload_2 dX11_copy_70 ?_
  refine Zw_aload_0 dX11_copy_71 ?_
  refine Zw_getr 76 lf_X11_60 dX11_copy_72 (by first | decide | assumption | omega) (by first | rfl | assumption) (by rfl) ?_
  refine Zw_iload_1 dX11_copy_75 ?_
  refine Zw_ialdnv (a) (nI ka) dX11_copy_76 (by first | decide | assumption | omega) (by first | rfl | assumption) rfl (by omega) (by decide) hsa ?_
  refine Zw_iload_5 dX11_copy_77 ?_
  refine Zw_nsub (ka) (nn) dX11_copy_79 rfl rfl (by omega) ?_
  refine Zw_nicmp_gt (ii) ((ka - nn)) 97 dX11_copy_80 (by decide) rfl rfl (by omega) (by omega) (fun c80 => ?_) (fun c80 => ?_)
  · refine Zw_bipush (v := (-12)) dX11_copy_97 (by decide) ?_
    refine Zw_ireturn dX11_copy_99 (by first | rfl | assumption) ?_
    exfalso
    omega
  · refine Zw_iload_4 dX11_copy_83 ?_
    refine Zw_aload_0 dX11_copy_85 ?_
    refine Zw_getr 76 lf_X11_60 dX11_copy_86 (by first | decide | assumption | omega) (by first | rfl | assumption) (by rfl) ?_
    refine Zw_iload_3 dX11_copy_89 ?_
    refine Zw_ialdnv (b) (nI kb) dX11_copy_90 (by first | decide | assumption | omega) (by first | rfl | assumption) rfl (by omega) (by decide) hsb ?_
    refine Zw_iload_5 dX11_copy_91 ?_
    refine Zw_nsub (kb) (nn) dX11_copy_93 rfl rfl (by omega) ?_
    refine Zw_nicmp_le (jj) ((kb - nn)) 100 dX11_copy_94 (by decide) rfl rfl (by omega) (by omega) (fun c94 => ?_) (fun c94 => ?_)
    · refine Zw_iload_1 dX11_copy_100 ?_
      refine Zw_iload_3 dX11_copy_101 ?_
      refine Zw_nicmp_ne (a) (b) 115 dX11_copy_102 (by decide) rfl rfl (by omega) (by omega) (fun c102 => ?_) (fun c102 => ?_)
      · refine Zw_iconst (v := 0) dX11_copy_115 (by decide) ?_
        refine Zw_istore_6 dX11_copy_116 rfl ?_
        refine Zw_iconst (v := 0) dX11_copy_118 (by decide) ?_
        refine Zw_istore_7 dX11_copy_119 rfl ?_
        exact l_cpD ha hb (by omega) (by omega) (Or.inl c102) h (nn + 1) 0 _ (by omega) (by omega) zOff.rf (fun q h1 h2 => absurd h2 (by omega)) (fun x hx => rfl)
      · refine Zw_iload_2 dX11_copy_105 ?_
        refine Zw_iload_4 dX11_copy_106 ?_
        refine Zw_nicmp_ge (ii) (jj) 115 dX11_copy_108 (by decide) rfl rfl (by omega) (by omega) (fun c108 => ?_) (fun c108 => ?_)
        · refine Zw_iconst (v := 0) dX11_copy_115 (by decide) ?_
          refine Zw_istore_6 dX11_copy_116 rfl ?_
          refine Zw_iconst (v := 0) dX11_copy_118 (by decide) ?_
          refine Zw_istore_7 dX11_copy_119 rfl ?_
          exact l_cpD ha hb (by omega) (by omega) (Or.inr c108) h (nn + 1) 0 _ (by omega) (by omega) zOff.rf (fun q h1 h2 => absurd h2 (by omega)) (fun x hx => rfl)
        · refine Zw_iconst (v := 1) dX11_copy_111 (by decide) ?_
          refine Zw_goto 116 dX11_copy_112 (by decide) ?_
          refine Zw_istore_6 dX11_copy_116 rfl ?_
          refine Zw_iconst (v := 0) dX11_copy_118 (by decide) ?_
          refine Zw_istore_7 dX11_copy_119 rfl ?_
          exact l_cpU ha hb (by omega) (by omega) ⟨c102, c108⟩ h (nn + 1) 0 _ (by omega) (by omega) zOff.rf (fun q h1 h2 => absurd h1 (by omega)) (fun x hx => rfl)
    · refine Zw_bipush (v := (-12)) dX11_copy_97 (by decide) ?_
      refine Zw_ireturn dX11_copy_99 (by first | rfl | assumption) ?_
      exfalso
      omega
