set_option maxRecDepth 20000 in
theorem s_atom2 {fr n pos : Nat} {b nm : Nat → Int32} {Q : zQ} {μ : zMu} {τ : Int64} (hI : mI fr n 2 b nm μ τ pos) (hF : ∀ f v μ2 τ2, dA b nm n 3 pos = .inl f → mX μ μ2 f → Q (some (.int v)) μ2 τ2) (hD : ∀ v c q μ2 τ2, dA b nm n 3 pos = .inr (v, c, q) → mOff μ μ2 → mI fr n 2 b nm μ2 τ2 q → Q (some (.int v)) μ2 τ2) : Zc 22 yX11_atom2 cX11_atom2 2 (some .int) [.ref 61] μ τ Q := by
  refine Zc.mk 1 [.ref 61, .null] rfl (by decide) (Nat.le_of_ble_eq_true rfl) ?_
  have hkd := m_kd_of b n pos
  have hkl := m_kd_lt b n (k_pl b n pos)
  have hsn := k_sgn_ne (b (k_pl b n pos))
  refine Zw_iconst (v := 0) dX11_atom2_0 (by decide) ?_
  refine Zw_istore_1 dX11_atom2_1 rfl ?_
  refine Zw_aload_0 dX11_atom2_2 ?_
  refine Zw_bipush (v := 45) dX11_atom2_3 (by decide) ?_
  refine Zw_V1 (k := 0) lm_X11_199 dX11_atom2_5 (by decide) (by first | decide | assumption | omega) (by first | rfl | assumption) (by rfl) (Nat.le_of_ble_eq_true rfl) ?_
  refine s_sign (tk := 7) hI.2.2.2.2.1 hI.2.2.2.2.2 (by decide) (by decide) (fun k7 => ?_) (fun k7 => ?_)
  · refine Zw_if_eq 37 dX11_atom2_8 (by decide) (fun c => absurd c (by decide)) (fun _ => ?_)
    refine Zw_aload_0 dX11_atom2_11 ?_
    refine Zw_V0 (k := 2) lm_X11_202 dX11_atom2_12 (by decide) (by first | decide | assumption | omega) (by first | rfl | assumption) (by rfl) (Nat.le_of_ble_eq_true rfl) ?_
    refine s_opens (by decide) hI (by omega) (by omega) (fun μa τa oa Ia => ?_)
    refine Zw_if_eq 161 dX11_atom2_15 (by decide) (fun c => absurd c (by decide)) (fun _ => ?_)
    refine Zw_aload_0 dX11_atom2_18 ?_
    refine Zw_V0 (k := 16) lm_X11_250 dX11_atom2_19 (by decide) (by first | decide | assumption | omega) (by first | rfl | assumption) (by rfl) (Nat.le_of_ble_eq_true rfl) ?_
    refine s_atom3 Ia (fun f1 v1 μ1 τ1 e1 x1 => ?_) (fun v1 c1 q1 μ1 τ1 e1 o1 I1 => ?_)
    · refine Zw_ineg dX11_atom2_22 ?_
      refine Zw_istore_1 dX11_atom2_23 rfl ?_
      refine Zw_aload_0 dX11_atom2_24 ?_
      refine Zw_dup dX11_atom2_25 rfl ?_
      refine Zw_geti lf_X11_168 dX11_atom2_26 (by first | decide | assumption | omega) (by first | rfl | assumption) (by rfl) ?_
      refine Zw_iconst (v := 1) dX11_atom2_29 (by decide) ?_
      refine Zw_isub dX11_atom2_30 ?_
      refine Zw_put lp_X11_168 dX11_atom2_31 (by first | decide | assumption | omega) (by first | rfl | assumption) (by rfl) (by first | rfl | assumption) (by first | rfl | assumption) ?_
      refine Zw_goto 161 dX11_atom2_34 (by decide) ?_
      refine Zw_iload_1 dX11_atom2_161 ?_
      refine Zw_ireturn dX11_atom2_162 (by first | rfl | assumption) ?_
      exact hF _ _ _ _ (by rw [dA_s, d_atom, if_pos k7, if_pos rfl, e1]; rfl) (mX.dec (mX.tr oa x1))
    · refine Zw_ineg dX11_atom2_22 ?_
      refine Zw_istore_1 dX11_atom2_23 rfl ?_
      refine Zw_aload_0 dX11_atom2_24 ?_
      refine Zw_dup dX11_atom2_25 rfl ?_
      refine Zw_geti lf_X11_168 dX11_atom2_26 (by first | decide | assumption | omega) (by first | rfl | assumption) (by rfl) ?_
      refine Zw_iconst (v := 1) dX11_atom2_29 (by decide) ?_
      refine Zw_isub dX11_atom2_30 ?_
      refine Zw_put lp_X11_168 dX11_atom2_31 (by first | decide | assumption | omega) (by first | rfl | assumption) (by rfl) (by first | rfl | assumption) (by first | rfl | assumption) ?_
      refine Zw_goto 161 dX11_atom2_34 (by decide) ?_
      refine Zw_iload_1 dX11_atom2_161 ?_
      refine Zw_ireturn dX11_atom2_162 (by first | rfl | assumption) ?_
      exact hD _ _ _ _ _ (by rw [dA_s, d_atom, if_pos k7, if_pos rfl, e1]; rfl) ((oa.tr o1).up (by omega)) (mI.lv I1 (by rw [I1.2.2.2.1]; exact nI_pred 2))
  · refine Zw_if_eq 37 dX11_atom2_8 (by decide) (fun _ => ?_) (fun c => absurd c (by decide))
    refine Zw_aload_0 dX11_atom2_37 ?_
    refine Zw_bipush (v := 40) dX11_atom2_38 (by decide) ?_
    refine Zw_V1 (k := 0) lm_X11_199 dX11_atom2_40 (by decide) (by first | decide | assumption | omega) (by first | rfl | assumption) (by rfl) (Nat.le_of_ble_eq_true rfl) ?_
    refine s_sign (tk := 10) hI.2.2.2.2.1 hI.2.2.2.2.2 (by decide) (by decide) (fun k10 => ?_) (fun k10 => ?_)
    · refine Zw_if_eq 95 dX11_atom2_43 (by decide) (fun c => absurd c (by decide)) (fun _ => ?_)
      refine Zw_aload_0 dX11_atom2_46 ?_
      refine Zw_V0 (k := 2) lm_X11_202 dX11_atom2_47 (by decide) (by first | decide | assumption | omega) (by first | rfl | assumption) (by rfl) (Nat.le_of_ble_eq_true rfl) ?_
      refine s_opens (by decide) hI (by omega) (by omega) (fun μa τa oa Ia => ?_)
      refine Zw_if_eq 161 dX11_atom2_50 (by decide) (fun c => absurd c (by decide)) (fun _ => ?_)
      refine Zw_aload_0 dX11_atom2_53 ?_
      refine Zw_V0 (k := 21) lm_X11_265 dX11_atom2_54 (by decide) (by first | decide | assumption | omega) (by first | rfl | assumption) (by rfl) (Nat.le_of_ble_eq_true rfl) ?_
      refine s_either3 Ia (fun f1 v1 μ1 τ1 e1 x1 => ?_) (fun v1 c1 q1 μ1 τ1 e1 o1 I1 => ?_)
      · refine Zw_istore_1 dX11_atom2_57 rfl ?_
        refine Zw_aload_0 dX11_atom2_58 ?_
        refine Zw_bipush (v := 41) dX11_atom2_59 (by decide) ?_
        refine Zw_V1 (k := 0) lm_X11_199 dX11_atom2_61 (by decide) (by first | decide | assumption | omega) (by first | rfl | assumption) (by rfl) (Nat.le_of_ble_eq_true rfl) ?_
        refine s_signB x1.2.1 ?_
        refine Zw_if_ne 71 dX11_atom2_64 (by decide) (fun c => absurd c (by decide)) (fun _ => ?_)
        refine Zw_aload_0 dX11_atom2_67 ?_
        refine Zw_V0 (k := 0) lm_X11_171 dX11_atom2_68 (by decide) (by first | decide | assumption | omega) (by first | rfl | assumption) (by rfl) (Nat.le_of_ble_eq_true rfl) ?_
        refine s_failB x1.2.1 ?_
        refine Zw_aload_0 dX11_atom2_71 ?_
        refine Zw_dup dX11_atom2_72 rfl ?_
        refine Zw_geti lf_X11_168 dX11_atom2_73 (by first | decide | assumption | omega) (by first | rfl | assumption) (by rfl) ?_
        refine Zw_iconst (v := 1) dX11_atom2_76 (by decide) ?_
        refine Zw_isub dX11_atom2_77 ?_
        refine Zw_put lp_X11_168 dX11_atom2_78 (by first | decide | assumption | omega) (by first | rfl | assumption) (by rfl) (by first | rfl | assumption) (by first | rfl | assumption) ?_
        refine Zw_aload_0 dX11_atom2_81 ?_
        refine Zw_getv (1) lf_X11_158 dX11_atom2_82 (by first | decide | assumption | omega) (by first | rfl | assumption) (by rfl) x1.2.1 ?_
        refine Zw_if_ne 161 dX11_atom2_85 (by decide) (fun _ => ?_) (fun c => absurd c (by decide))
        refine Zw_iload_1 dX11_atom2_161 ?_
        refine Zw_ireturn dX11_atom2_162 (by first | rfl | assumption) ?_
        exact hF _ _ _ _ (by rw [dA_s, d_atom, if_neg (by omega), if_pos k10, if_pos rfl, e1, d_clo]) (mX.dec (mX.tr oa x1))
      · refine Zw_istore_1 dX11_atom2_57 rfl ?_
        refine Zw_aload_0 dX11_atom2_58 ?_
        refine Zw_bipush (v := 41) dX11_atom2_59 (by decide) ?_
        refine Zw_V1 (k := 0) lm_X11_199 dX11_atom2_61 (by decide) (by first | decide | assumption | omega) (by first | rfl | assumption) (by rfl) (Nat.le_of_ble_eq_true rfl) ?_
        refine s_sign (tk := 11) I1.2.2.2.2.1 I1.2.2.2.2.2 (by decide) (by decide) (fun k11 => ?_) (fun k11 => ?_)
        · refine Zw_if_ne 71 dX11_atom2_64 (by decide) (fun _ => ?_) (fun c => absurd c (by decide))
          refine Zw_aload_0 dX11_atom2_71 ?_
          refine Zw_dup dX11_atom2_72 rfl ?_
          refine Zw_geti lf_X11_168 dX11_atom2_73 (by first | decide | assumption | omega) (by first | rfl | assumption) (by rfl) ?_
          refine Zw_iconst (v := 1) dX11_atom2_76 (by decide) ?_
          refine Zw_isub dX11_atom2_77 ?_
          refine Zw_put lp_X11_168 dX11_atom2_78 (by first | decide | assumption | omega) (by first | rfl | assumption) (by rfl) (by first | rfl | assumption) (by first | rfl | assumption) ?_
          refine Zw_aload_0 dX11_atom2_81 ?_
          refine Zw_getv (0) lf_X11_158 dX11_atom2_82 (by first | decide | assumption | omega) (by first | rfl | assumption) (by rfl) I1.2.2.2.2.1 ?_
          refine Zw_if_ne 161 dX11_atom2_85 (by decide) (fun c => absurd c (by decide)) (fun _ => ?_)
          refine Zw_aload_0 dX11_atom2_88 ?_
          refine Zw_V0 (k := 1) lm_X11_174 dX11_atom2_89 (by decide) (by first | decide | assumption | omega) (by first | rfl | assumption) (by rfl) (Nat.le_of_ble_eq_true rfl) ?_
          refine s_nx (mI.lv (l' := 2) I1 (by rw [I1.2.2.2.1]; exact nI_pred 2)) (by omega) (by omega) (fun μ2 τ2 o2 I2 => ?_)
          refine Zw_goto 161 dX11_atom2_92 (by decide) ?_
          refine Zw_iload_1 dX11_atom2_161 ?_
          refine Zw_ireturn dX11_atom2_162 (by first | rfl | assumption) ?_
          exact hD _ _ _ _ _ (by rw [dA_s, d_atom, if_neg (by omega), if_pos k10, if_pos rfl, e1, d_clo]; exact if_pos k11) (((oa.tr o1).up (by omega)).tr o2) I2
        · refine Zw_if_ne 71 dX11_atom2_64 (by decide) (fun c => absurd c (by decide)) (fun _ => ?_)
          refine Zw_aload_0 dX11_atom2_67 ?_
          refine Zw_V0 (k := 0) lm_X11_171 dX11_atom2_68 (by decide) (by first | decide | assumption | omega) (by first | rfl | assumption) (by rfl) (Nat.le_of_ble_eq_true rfl) ?_
          refine s_fail0 I1.2.2.2.2.1 I1.2.2.2.2.2.1 ?_
          refine Zw_aload_0 dX11_atom2_71 ?_
          refine Zw_dup dX11_atom2_72 rfl ?_
          refine Zw_geti lf_X11_168 dX11_atom2_73 (by first | decide | assumption | omega) (by first | rfl | assumption) (by rfl) ?_
          refine Zw_iconst (v := 1) dX11_atom2_76 (by decide) ?_
          refine Zw_isub dX11_atom2_77 ?_
          refine Zw_put lp_X11_168 dX11_atom2_78 (by first | decide | assumption | omega) (by first | rfl | assumption) (by rfl) (by first | rfl | assumption) (by first | rfl | assumption) ?_
          refine Zw_aload_0 dX11_atom2_81 ?_
          refine Zw_getv (1) lf_X11_158 dX11_atom2_82 (by first | decide | assumption | omega) (by first | rfl | assumption) (by rfl) rfl ?_
          refine Zw_if_ne 161 dX11_atom2_85 (by decide) (fun _ => ?_) (fun c => absurd c (by decide))
          refine Zw_iload_1 dX11_atom2_161 ?_
          refine Zw_ireturn dX11_atom2_162 (by first | rfl | assumption) ?_
          exact hF _ _ _ _ (by rw [dA_s, d_atom, if_neg (by omega), if_pos k10, if_pos rfl, e1, d_clo]; exact if_neg k11) (mX.dec (mX.tr (oa.tr o1) mX.of))
    · refine Zw_if_eq 95 dX11_atom2_43 (by decide) (fun _ => ?_) (fun c => absurd c (by decide))
      refine Zw_aload_0 dX11_atom2_95 ?_
      refine Zw_getv (0) lf_X11_158 dX11_atom2_96 (by first | decide | assumption | omega) (by first | rfl | assumption) (by rfl) hI.2.2.2.2.1 ?_
      refine Zw_if_ne 123 dX11_atom2_99 (by decide) (fun c => absurd c (by decide)) (fun _ => ?_)
      refine Zw_aload_0 dX11_atom2_102 ?_
      refine Zw_getv (nI (m_kd b n (k_pl b n pos))) lf_X11_143 dX11_atom2_103 (by first | decide | assumption | omega) (by first | rfl | assumption) (by rfl) hI.2.2.2.2.2.2.1 ?_
      refine Zw_iconst (v := 2) dX11_atom2_106 (by decide) ?_
      refine Zw_nicmp_ne ((m_kd b n (k_pl b n pos))) (2) 123 dX11_atom2_107 (by decide) rfl rfl (by omega) (by omega) (fun c107 => ?_) (fun c107 => ?_)
      · refine Zw_aload_0 dX11_atom2_123 ?_
        refine Zw_getv (0) lf_X11_158 dX11_atom2_124 (by first | decide | assumption | omega) (by first | rfl | assumption) (by rfl) hI.2.2.2.2.1 ?_
        refine Zw_if_ne 157 dX11_atom2_127 (by decide) (fun c => absurd c (by decide)) (fun _ => ?_)
        refine Zw_aload_0 dX11_atom2_130 ?_
        refine Zw_getv (nI (m_kd b n (k_pl b n pos))) lf_X11_143 dX11_atom2_131 (by first | decide | assumption | omega) (by first | rfl | assumption) (by rfl) hI.2.2.2.2.2.2.1 ?_
        refine Zw_iconst (v := 1) dX11_atom2_134 (by decide) ?_
        refine Zw_nicmp_ne ((m_kd b n (k_pl b n pos))) (1) 157 dX11_atom2_135 (by decide) rfl rfl (by omega) (by omega) (fun c135 => ?_) (fun c135 => ?_)
        · refine Zw_aload_0 dX11_atom2_157 ?_
          refine Zw_V0 (k := 0) lm_X11_171 dX11_atom2_158 (by decide) (by first | decide | assumption | omega) (by first | rfl | assumption) (by rfl) (Nat.le_of_ble_eq_true rfl) ?_
          refine s_fail0 hI.2.2.2.2.1 hI.2.2.2.2.2.1 ?_
          refine Zw_iload_1 dX11_atom2_161 ?_
          refine Zw_ireturn dX11_atom2_162 (by first | rfl | assumption) ?_
          exact hF _ _ _ _ (by rw [dA_s, d_atom, if_neg (by omega), if_neg (by omega), if_neg (by omega), if_neg (by omega)]) mX.of
        · refine Zw_aload_0 dX11_atom2_138 ?_
          refine Zw_V0 (k := 3) lm_X11_206 dX11_atom2_139 (by decide) (by first | decide | assumption | omega) (by first | rfl | assumption) (by rfl) (Nat.le_of_ble_eq_true rfl) ?_
          refine s_name hI (fun h17 => ?_) (fun j hj6 h17 hj => ?_)
          · refine Zw_istore_1 dX11_atom2_142 rfl ?_
            refine Zw_aload_0 dX11_atom2_143 ?_
            refine Zw_getv (1) lf_X11_158 dX11_atom2_144 (by first | decide | assumption | omega) (by first | rfl | assumption) (by rfl) rfl ?_
            refine Zw_if_ne 161 dX11_atom2_147 (by decide) (fun _ => ?_) (fun c => absurd c (by decide))
            refine Zw_iload_1 dX11_atom2_161 ?_
            refine Zw_ireturn dX11_atom2_162 (by first | rfl | assumption) ?_
            exact hF _ _ _ _ (by rw [dA_s, d_atom, if_neg (by omega), if_neg (by omega), if_neg (by omega), if_neg (by omega)]) mX.of
          · refine Zw_istore_1 dX11_atom2_142 rfl ?_
            refine Zw_aload_0 dX11_atom2_143 ?_
            refine Zw_getv (0) lf_X11_158 dX11_atom2_144 (by first | decide | assumption | omega) (by first | rfl | assumption) (by rfl) hI.2.2.2.2.1 ?_
            refine Zw_if_ne 161 dX11_atom2_147 (by decide) (fun c => absurd c (by decide)) (fun _ => ?_)
            refine Zw_aload_0 dX11_atom2_150 ?_
            refine Zw_V0 (k := 1) lm_X11_174 dX11_atom2_151 (by decide) (by first | decide | assumption | omega) (by first | rfl | assumption) (by rfl) (Nat.le_of_ble_eq_true rfl) ?_
            refine s_nx hI (by omega) (by omega) (fun μ2 τ2 o2 I2 => ?_)
            refine Zw_goto 161 dX11_atom2_154 (by decide) ?_
            refine Zw_iload_1 dX11_atom2_161 ?_
            refine Zw_ireturn dX11_atom2_162 (by first | rfl | assumption) ?_
            exact hD _ _ _ _ _ (by rw [dA_s, d_atom, if_neg (by omega), if_neg (by omega), if_neg (by omega), if_pos h17, hj, nI_cl j hj6]) o2 I2
      · refine Zw_aload_0 dX11_atom2_110 ?_
        refine Zw_getl lf_X11_154 dX11_atom2_111 (by first | decide | assumption | omega) (by first | rfl | assumption) (by rfl) ?_
        refine Zw_l2i dX11_atom2_114 ?_
        refine Zw_istore_1 dX11_atom2_115 rfl ?_
        refine Zw_aload_0 dX11_atom2_116 ?_
        refine Zw_V0 (k := 1) lm_X11_174 dX11_atom2_117 (by decide) (by first | decide | assumption | omega) (by first | rfl | assumption) (by rfl) (Nat.le_of_ble_eq_true rfl) ?_
        have h16 : k_tok b n pos = 16 := by omega
        have hv : k_val b n pos = τ.toInt32 := (hI.2.2.2.2.2.2.2.2.1 (by omega)).symm
        refine s_nx hI (by omega) (by omega) (fun μ2 τ2 o2 I2 => ?_)
        refine Zw_goto 161 dX11_atom2_120 (by decide) ?_
        refine Zw_iload_1 dX11_atom2_161 ?_
        refine Zw_ireturn dX11_atom2_162 (by first | rfl | assumption) ?_
        exact hD _ _ _ _ _ (by rw [dA_s, d_atom, if_neg (by omega), if_neg (by omega), if_pos h16, hv]) o2 I2
set_option maxRecDepth 20000 in
theorem l_term2 {Q : zQ} {fr n : Nat} {b nm : Nat → Int32} {μ0 : zMu} {R : dR} (hF : ∀ f v μ2 τ2, R = .inl f → mX μ0 μ2 f → Q (some (.int v)) μ2 τ2) (hD : ∀ v c q μ2 τ2, R = .inr (v, c, q) → mOff μ0 μ2 → mI fr n 2 b nm μ2 τ2 q → Q (some (.int v)) μ2 τ2) : ∀ m v c q μ τ, 161 ≤ m + q → mOff μ0 μ → mI fr n 2 b nm μ τ q → d_loop b n t_mul (dA b nm n 3) m v c q = R → Zw 23 RX11 cX11_term2 2 (some .int) Q 5 [.ref 61, .int v] [] μ τ
  | 0, v, c, q, μ, τ, hm, hO, hI, hR => absurd hm (by have := hI.2.1; have := hI.1.2.1; omega)
  | m + 1, v, c, q, μ, τ, hm, hO, hI, hR => by
    have hqn := hI.2.1
    refine Zw_aload_0 dX11_term2_5 ?_
    refine Zw_bipush (v := 42) dX11_term2_6 (by decide) ?_
    refine Zw_V1 (k := 0) lm_X11_199 dX11_term2_8 (by decide) (by first | decide | assumption | omega) (by first | rfl | assumption) (by rfl) (Nat.le_of_ble_eq_true rfl) ?_
    refine s_sign (tk := 8) hI.2.2.2.2.1 hI.2.2.2.2.2 (by decide) (by decide) (fun k8 => ?_) (fun k8 => ?_)
    have ht : t_mul (k_tok b n q) = true := decide_eq_true k8
    rotate_left
    have ht : ¬ t_mul (k_tok b n q) = true := fun e => k8 (of_decide_eq_true e)
    rotate_right
    · refine Zw_if_eq 28 dX11_term2_11 (by decide) (fun c => absurd c (by decide)) (fun _ => ?_)
      refine Zw_aload_0 dX11_term2_14 ?_
      refine Zw_V0 (k := 1) lm_X11_174 dX11_term2_15 (by decide) (by first | decide | assumption | omega) (by first | rfl | assumption) (by rfl) (Nat.le_of_ble_eq_true rfl) ?_
      refine s_nx hI (by omega) (by omega) (fun μ2 τ2 o2 I2 => ?_)
      have hup := k_nx_up (b := b) (n := n) (i := q) (by omega)
      refine Zw_iload_1 dX11_term2_18 ?_
      refine Zw_aload_0 dX11_term2_19 ?_
      refine Zw_V0 (k := 22) lm_X11_268 dX11_term2_20 (by decide) (by first | decide | assumption | omega) (by first | rfl | assumption) (by rfl) (Nat.le_of_ble_eq_true rfl) ?_
      refine s_atom2 I2 (fun f1 v1 μ1 τ1 e1 x1 => ?_) (fun v1 c1 q1 μ1 τ1 e1 o1 I1 => ?_)
      · refine Zw_imul dX11_term2_23 ?_
        refine Zw_istore_1 dX11_term2_24 rfl ?_
        refine Zw_goto 5 dX11_term2_25 (by decide) ?_
        refine Zw_aload_0 dX11_term2_5 ?_
        refine Zw_bipush (v := 42) dX11_term2_6 (by decide) ?_
        refine Zw_V1 (k := 0) lm_X11_199 dX11_term2_8 (by decide) (by first | decide | assumption | omega) (by first | rfl | assumption) (by rfl) (Nat.le_of_ble_eq_true rfl) ?_
        refine s_signB x1.2.1 ?_
        refine Zw_if_eq 28 dX11_term2_11 (by decide) (fun _ => ?_) (fun c => absurd c (by decide))
        refine Zw_iload_1 dX11_term2_28 ?_
        refine Zw_ireturn dX11_term2_29 (by first | rfl | assumption) ?_
        rw [d_loop_s, if_pos ht, e1] at hR
        exact hF _ _ _ _ hR.symm (mX.tr (hO.tr o2) x1)
      · refine Zw_imul dX11_term2_23 ?_
        refine Zw_istore_1 dX11_term2_24 rfl ?_
        refine Zw_goto 5 dX11_term2_25 (by decide) ?_
        rw [← qj8]
        refine Zw_drop (L' := [.ref 61, .int (q_joined (nI 8) v v1)]) ⟨Or.inr rfl, Or.inr rfl, trivial⟩ (Nat.le_of_ble_eq_true rfl) ?_
        rw [d_loop_s, if_pos ht, e1] at hR
        rw [k8, d_jn] at hR
        have hup1 := dA_up b nm n 3 _ _ _ _ hup.2 e1
        exact l_term2 hF hD m _ _ q1 μ1 τ1 (by omega) ((hO.tr o2).tr o1) I1 hR
    · refine Zw_if_eq 28 dX11_term2_11 (by decide) (fun _ => ?_) (fun c => absurd c (by decide))
      refine Zw_iload_1 dX11_term2_28 ?_
      refine Zw_ireturn dX11_term2_29 (by first | rfl | assumption) ?_
      rw [d_loop_s, if_neg ht] at hR
      exact hD _ _ _ _ _ hR.symm hO hI
set_option maxRecDepth 20000 in
theorem s_term2 {fr n pos : Nat} {b nm : Nat → Int32} {Q : zQ} {μ : zMu} {τ : Int64} (hI : mI fr n 2 b nm μ τ pos) (hF : ∀ f v μ2 τ2, dT b nm n 3 pos = .inl f → mX μ μ2 f → Q (some (.int v)) μ2 τ2) (hD : ∀ v c q μ2 τ2, dT b nm n 3 pos = .inr (v, c, q) → mOff μ μ2 → mI fr n 2 b nm μ2 τ2 q → Q (some (.int v)) μ2 τ2) : Zc 23 yX11_term2 cX11_term2 2 (some .int) [.ref 61] μ τ Q := by
  refine Zc.mk 1 [.ref 61, .null] rfl (by decide) (Nat.le_of_ble_eq_true rfl) ?_
  refine Zw_aload_0 dX11_term2_0 ?_
  refine Zw_V0 (k := 22) lm_X11_268 dX11_term2_1 (by decide) (by first | decide | assumption | omega) (by first | rfl | assumption) (by rfl) (Nat.le_of_ble_eq_true rfl) ?_
  refine s_atom2 hI (fun f0 v0 μ0 τ0 e0 x0 => ?_) (fun v0 c0 q0 μ0 τ0 e0 o0 I0 => ?_)
  · refine Zw_istore_1 dX11_term2_4 rfl ?_
    refine Zw_aload_0 dX11_term2_5 ?_
    refine Zw_bipush (v := 42) dX11_term2_6 (by decide) ?_
    refine Zw_V1 (k := 0) lm_X11_199 dX11_term2_8 (by decide) (by first | decide | assumption | omega) (by first | rfl | assumption) (by rfl) (Nat.le_of_ble_eq_true rfl) ?_
    refine s_signB x0.2.1 ?_
    refine Zw_if_eq 28 dX11_term2_11 (by decide) (fun _ => ?_) (fun c => absurd c (by decide))
    refine Zw_iload_1 dX11_term2_28 ?_
    refine Zw_ireturn dX11_term2_29 (by first | rfl | assumption) ?_
    exact hF _ _ _ _ (by unfold dT; unfold d_bin; rw [e0]) x0
  · refine Zw_istore_1 dX11_term2_4 rfl ?_
    exact l_term2 (μ0 := μ) (R := dT b nm n 3 pos) hF hD 161 v0 c0 q0 μ0 τ0 (by omega) o0 I0 (by unfold dT; unfold d_bin; rw [e0])
set_option maxRecDepth 20000 in
theorem l_added2 {Q : zQ} {fr n : Nat} {b nm : Nat → Int32} {μ0 : zMu} {R : dR} (hF : ∀ f v μ2 τ2, R = .inl f → mX μ0 μ2 f → Q (some (.int v)) μ2 τ2) (hD : ∀ v c q μ2 τ2, R = .inr (v, c, q) → mOff μ0 μ2 → mI fr n 2 b nm μ2 τ2 q → Q (some (.int v)) μ2 τ2) : ∀ m v c q μ τ, 161 ≤ m + q → mOff μ0 μ → mI fr n 2 b nm μ τ q → d_loop b n t_add (dT b nm n 3) m v c q = R → Zw 24 RX11 cX11_added2 4 (some .int) Q 5 [.ref 61, .int v, .null, .null] [] μ τ
  | 0, v, c, q, μ, τ, hm, hO, hI, hR => absurd hm (by have := hI.2.1; have := hI.1.2.1; omega)
  | m + 1, v, c, q, μ, τ, hm, hO, hI, hR => by
    have hqn := hI.2.1
    refine Zw_aload_0 dX11_added2_5 ?_
    refine Zw_bipush (v := 43) dX11_added2_6 (by decide) ?_
    refine Zw_V1 (k := 0) lm_X11_199 dX11_added2_8 (by decide) (by first | decide | assumption | omega) (by first | rfl | assumption) (by rfl) (Nat.le_of_ble_eq_true rfl) ?_
    refine s_sign (tk := 6) hI.2.2.2.2.1 hI.2.2.2.2.2 (by decide) (by decide) (fun k6 => ?_) (fun k6 => ?_)
    · refine Zw_if_ne 23 dX11_added2_11 (by decide) (fun _ => ?_) (fun c => absurd c (by decide))
      have ht : t_add (k_tok b n q) = true := decide_eq_true (Or.inl k6)
      have hw : τ = (43 : Int32).toInt64 := m_wo hI.2.2.2.2.2 k6 (by decide) (by decide)
      refine Zw_aload_0 dX11_added2_23 ?_
      refine Zw_getl lf_X11_154 dX11_added2_24 (by first | decide | assumption | omega) (by first | rfl | assumption) (by rfl) ?_
      refine Zw_ldc2 dX11_added2_27 zw17 ?_
      refine Zw_lcmp dX11_added2_30 ?_
      refine Zw_if_ne 38 dX11_added2_31 (by decide) (fun c31 => absurd c31 (fun e => e ((lg_e _ _).mpr hw))) (fun c31 => ?_)
      refine Zw_iconst (v := 1) dX11_added2_34 (by decide) ?_
      refine Zw_goto 39 dX11_added2_35 (by decide) ?_
      refine Zw_istore_2 dX11_added2_39 rfl ?_
      refine Zw_aload_0 dX11_added2_40 ?_
      refine Zw_V0 (k := 1) lm_X11_174 dX11_added2_41 (by decide) (by first | decide | assumption | omega) (by first | rfl | assumption) (by rfl) (Nat.le_of_ble_eq_true rfl) ?_
      refine s_nx hI (by omega) (by omega) (fun μ2 τ2 o2 I2 => ?_)
      have hup := k_nx_up (b := b) (n := n) (i := q) (by omega)
      refine Zw_aload_0 dX11_added2_44 ?_
      refine Zw_V0 (k := 23) lm_X11_271 dX11_added2_45 (by decide) (by first | decide | assumption | omega) (by first | rfl | assumption) (by rfl) (Nat.le_of_ble_eq_true rfl) ?_
      refine s_term2 I2 (fun f1 v1 μ1 τ1 e1 x1 => ?_) (fun v1 c1 q1 μ1 τ1 e1 o1 I1 => ?_)
      · refine Zw_istore_3 dX11_added2_48 rfl ?_
        refine Zw_iload_2 dX11_added2_49 ?_
        refine Zw_if_eq 59 dX11_added2_50 (by decide) (fun c => absurd c (by decide)) (fun _ => ?_)
        refine Zw_iload_1 dX11_added2_53 ?_
        refine Zw_iload_3 dX11_added2_54 ?_
        refine Zw_iadd dX11_added2_55 ?_
        refine Zw_goto 62 dX11_added2_56 (by decide) ?_
        refine Zw_istore_1 dX11_added2_62 rfl ?_
        refine Zw_goto 5 dX11_added2_63 (by decide) ?_
        refine Zw_aload_0 dX11_added2_5 ?_
        refine Zw_bipush (v := 43) dX11_added2_6 (by decide) ?_
        refine Zw_V1 (k := 0) lm_X11_199 dX11_added2_8 (by decide) (by first | decide | assumption | omega) (by first | rfl | assumption) (by rfl) (Nat.le_of_ble_eq_true rfl) ?_
        refine s_signB x1.2.1 ?_
        refine Zw_if_ne 23 dX11_added2_11 (by decide) (fun c => absurd c (by decide)) (fun _ => ?_)
        refine Zw_aload_0 dX11_added2_14 ?_
        refine Zw_bipush (v := 45) dX11_added2_15 (by decide) ?_
        refine Zw_V1 (k := 0) lm_X11_199 dX11_added2_17 (by decide) (by first | decide | assumption | omega) (by first | rfl | assumption) (by rfl) (Nat.le_of_ble_eq_true rfl) ?_
        refine s_signB x1.2.1 ?_
        refine Zw_if_eq 66 dX11_added2_20 (by decide) (fun _ => ?_) (fun c => absurd c (by decide))
        refine Zw_iload_1 dX11_added2_66 ?_
        refine Zw_ireturn dX11_added2_67 (by first | rfl | assumption) ?_
        rw [d_loop_s, if_pos ht, e1] at hR
        exact hF _ _ _ _ hR.symm (mX.tr (hO.tr o2) x1)
      · refine Zw_istore_3 dX11_added2_48 rfl ?_
        refine Zw_iload_2 dX11_added2_49 ?_
        refine Zw_if_eq 59 dX11_added2_50 (by decide) (fun c => absurd c (by decide)) (fun _ => ?_)
        refine Zw_iload_1 dX11_added2_53 ?_
        refine Zw_iload_3 dX11_added2_54 ?_
        refine Zw_iadd dX11_added2_55 ?_
        refine Zw_goto 62 dX11_added2_56 (by decide) ?_
        refine Zw_istore_1 dX11_added2_62 rfl ?_
        refine Zw_goto 5 dX11_added2_63 (by decide) ?_
        rw [← qj6]
        refine Zw_drop (L' := [.ref 61, .int (q_joined (nI 6) v v1), .null, .null]) ⟨Or.inr rfl, Or.inr rfl, Or.inl rfl, Or.inl rfl, trivial⟩ (Nat.le_of_ble_eq_true rfl) ?_
        rw [d_loop_s, if_pos ht, e1] at hR
        rw [k6, d_jn] at hR
        have hup1 := dT_up b nm n 3 _ _ _ _ hup.2 e1
        exact l_added2 hF hD m _ _ q1 μ1 τ1 (by omega) ((hO.tr o2).tr o1) I1 hR
    · refine Zw_if_ne 23 dX11_added2_11 (by decide) (fun c => absurd c (by decide)) (fun _ => ?_)
      refine Zw_aload_0 dX11_added2_14 ?_
      refine Zw_bipush (v := 45) dX11_added2_15 (by decide) ?_
      refine Zw_V1 (k := 0) lm_X11_199 dX11_added2_17 (by decide) (by first | decide | assumption | omega) (by first | rfl | assumption) (by rfl) (Nat.le_of_ble_eq_true rfl) ?_
      refine s_sign (tk := 7) hI.2.2.2.2.1 hI.2.2.2.2.2 (by decide) (by decide) (fun k7 => ?_) (fun k7 => ?_)
      · refine Zw_if_eq 66 dX11_added2_20 (by decide) (fun c => absurd c (by decide)) (fun _ => ?_)
        have ht : t_add (k_tok b n q) = true := decide_eq_true (Or.inr k7)
        have hw : τ = (45 : Int32).toInt64 := m_wo hI.2.2.2.2.2 k7 (by decide) (by decide)
        refine Zw_aload_0 dX11_added2_23 ?_
        refine Zw_getl lf_X11_154 dX11_added2_24 (by first | decide | assumption | omega) (by first | rfl | assumption) (by rfl) ?_
        refine Zw_ldc2 dX11_added2_27 zw17 ?_
        refine Zw_lcmp dX11_added2_30 ?_
        refine Zw_if_ne 38 dX11_added2_31 (by decide) (fun c31 => ?_) (fun c31 => absurd c31 (fun e => absurd (hw.symm.trans ((lg_e _ _).mp e)) (by decide)))
        refine Zw_iconst (v := 0) dX11_added2_38 (by decide) ?_
        refine Zw_istore_2 dX11_added2_39 rfl ?_
        refine Zw_aload_0 dX11_added2_40 ?_
        refine Zw_V0 (k := 1) lm_X11_174 dX11_added2_41 (by decide) (by first | decide | assumption | omega) (by first | rfl | assumption) (by rfl) (Nat.le_of_ble_eq_true rfl) ?_
        refine s_nx hI (by omega) (by omega) (fun μ2 τ2 o2 I2 => ?_)
        have hup := k_nx_up (b := b) (n := n) (i := q) (by omega)
        refine Zw_aload_0 dX11_added2_44 ?_
        refine Zw_V0 (k := 23) lm_X11_271 dX11_added2_45 (by decide) (by first | decide | assumption | omega) (by first | rfl | assumption) (by rfl) (Nat.le_of_ble_eq_true rfl) ?_
        refine s_term2 I2 (fun f1 v1 μ1 τ1 e1 x1 => ?_) (fun v1 c1 q1 μ1 τ1 e1 o1 I1 => ?_)
        · refine Zw_istore_3 dX11_added2_48 rfl ?_
          refine Zw_iload_2 dX11_added2_49 ?_
          refine Zw_if_eq 59 dX11_added2_50 (by decide) (fun _ => ?_) (fun c => absurd c (by decide))
          refine Zw_iload_1 dX11_added2_59 ?_
          refine Zw_iload_3 dX11_added2_60 ?_
          refine Zw_isub dX11_added2_61 ?_
          refine Zw_istore_1 dX11_added2_62 rfl ?_
          refine Zw_goto 5 dX11_added2_63 (by decide) ?_
          refine Zw_aload_0 dX11_added2_5 ?_
          refine Zw_bipush (v := 43) dX11_added2_6 (by decide) ?_
          refine Zw_V1 (k := 0) lm_X11_199 dX11_added2_8 (by decide) (by first | decide | assumption | omega) (by first | rfl | assumption) (by rfl) (Nat.le_of_ble_eq_true rfl) ?_
          refine s_signB x1.2.1 ?_
          refine Zw_if_ne 23 dX11_added2_11 (by decide) (fun c => absurd c (by decide)) (fun _ => ?_)
          refine Zw_aload_0 dX11_added2_14 ?_
          refine Zw_bipush (v := 45) dX11_added2_15 (by decide) ?_
          refine Zw_V1 (k := 0) lm_X11_199 dX11_added2_17 (by decide) (by first | decide | assumption | omega) (by first | rfl | assumption) (by rfl) (Nat.le_of_ble_eq_true rfl) ?_
          refine s_signB x1.2.1 ?_
          refine Zw_if_eq 66 dX11_added2_20 (by decide) (fun _ => ?_) (fun c => absurd c (by decide))
          refine Zw_iload_1 dX11_added2_66 ?_
          refine Zw_ireturn dX11_added2_67 (by first | rfl | assumption) ?_
          rw [d_loop_s, if_pos ht, e1] at hR
          exact hF _ _ _ _ hR.symm (mX.tr (hO.tr o2) x1)
        · refine Zw_istore_3 dX11_added2_48 rfl ?_
          refine Zw_iload_2 dX11_added2_49 ?_
          refine Zw_if_eq 59 dX11_added2_50 (by decide) (fun _ => ?_) (fun c => absurd c (by decide))
          refine Zw_iload_1 dX11_added2_59 ?_
          refine Zw_iload_3 dX11_added2_60 ?_
          refine Zw_isub dX11_added2_61 ?_
          refine Zw_istore_1 dX11_added2_62 rfl ?_
          refine Zw_goto 5 dX11_added2_63 (by decide) ?_
          rw [← qj7]
          refine Zw_drop (L' := [.ref 61, .int (q_joined (nI 7) v v1), .null, .null]) ⟨Or.inr rfl, Or.inr rfl, Or.inl rfl, Or.inl rfl, trivial⟩ (Nat.le_of_ble_eq_true rfl) ?_
          rw [d_loop_s, if_pos ht, e1] at hR
          rw [k7, d_jn] at hR
          have hup1 := dT_up b nm n 3 _ _ _ _ hup.2 e1
          exact l_added2 hF hD m _ _ q1 μ1 τ1 (by omega) ((hO.tr o2).tr o1) I1 hR
      · refine Zw_if_eq 66 dX11_added2_20 (by decide) (fun _ => ?_) (fun c => absurd c (by decide))
        have ht : ¬ t_add (k_tok b n q) = true := fun e => (of_decide_eq_true e).elim k6 k7
        refine Zw_iload_1 dX11_added2_66 ?_
        refine Zw_ireturn dX11_added2_67 (by first | rfl | assumption) ?_
        rw [d_loop_s, if_neg ht] at hR
        exact hD _ _ _ _ _ hR.symm hO hI
set_option maxRecDepth 20000 in
theorem s_added2 {fr n pos : Nat} {b nm : Nat → Int32} {Q : zQ} {μ : zMu} {τ : Int64} (hI : mI fr n 2 b nm μ τ pos) (hF : ∀ f v μ2 τ2, dP b nm n 3 pos = .inl f → mX μ μ2 f → Q (some (.int v)) μ2 τ2) (hD : ∀ v c q μ2 τ2, dP b nm n 3 pos = .inr (v, c, q) → mOff μ μ2 → mI fr n 2 b nm μ2 τ2 q → Q (some (.int v)) μ2 τ2) : Zc 24 yX11_added2 cX11_added2 4 (some .int) [.ref 61] μ τ Q := by
  refine Zc.mk 3 [.ref 61, .null, .null, .null] rfl (by decide) (Nat.le_of_ble_eq_true rfl) ?_
  refine Zw_aload_0 dX11_added2_0 ?_
  refine Zw_V0 (k := 23) lm_X11_271 dX11_added2_1 (by decide) (by first | decide | assumption | omega) (by first | rfl | assumption) (by rfl) (Nat.le_of_ble_eq_true rfl) ?_
  refine s_term2 hI (fun f0 v0 μ0 τ0 e0 x0 => ?_) (fun v0 c0 q0 μ0 τ0 e0 o0 I0 => ?_)
  · refine Zw_istore_1 dX11_added2_4 rfl ?_
    refine Zw_aload_0 dX11_added2_5 ?_
    refine Zw_bipush (v := 43) dX11_added2_6 (by decide) ?_
    refine Zw_V1 (k := 0) lm_X11_199 dX11_added2_8 (by decide) (by first | decide | assumption | omega) (by first | rfl | assumption) (by rfl) (Nat.le_of_ble_eq_true rfl) ?_
    refine s_signB x0.2.1 ?_
    refine Zw_if_ne 23 dX11_added2_11 (by decide) (fun c => absurd c (by decide)) (fun _ => ?_)
    refine Zw_aload_0 dX11_added2_14 ?_
    refine Zw_bipush (v := 45) dX11_added2_15 (by decide) ?_
    refine Zw_V1 (k := 0) lm_X11_199 dX11_added2_17 (by decide) (by first | decide | assumption | omega) (by first | rfl | assumption) (by rfl) (Nat.le_of_ble_eq_true rfl) ?_
    refine s_signB x0.2.1 ?_
    refine Zw_if_eq 66 dX11_added2_20 (by decide) (fun _ => ?_) (fun c => absurd c (by decide))
    refine Zw_iload_1 dX11_added2_66 ?_
    refine Zw_ireturn dX11_added2_67 (by first | rfl | assumption) ?_
    exact hF _ _ _ _ (by unfold dP; unfold d_bin; rw [e0]) x0
  · refine Zw_istore_1 dX11_added2_4 rfl ?_
    exact l_added2 (μ0 := μ) (R := dP b nm n 3 pos) hF hD 161 v0 c0 q0 μ0 τ0 (by omega) o0 I0 (by unfold dP; unfold d_bin; rw [e0])
set_option maxRecDepth 20000 in
theorem s_not2 {fr n pos : Nat} {b nm : Nat → Int32} {Q : zQ} {μ : zMu} {τ : Int64} (hI : mI fr n 2 b nm μ τ pos) (hF : ∀ f v μ2 τ2, dN b nm n 3 pos = .inl f → mX μ μ2 f → Q (some (.int v)) μ2 τ2) (hD : ∀ v c q μ2 τ2, dN b nm n 3 pos = .inr (v, c, q) → mOff μ μ2 → mI fr n 2 b nm μ2 τ2 q → Q (some (.int v)) μ2 τ2) : Zc 25 yX11_not2 cX11_not2 4 (some .int) [.ref 61] μ τ Q := by
  refine Zc.mk 3 [.ref 61, .null, .null, .null] rfl (by decide) (Nat.le_of_ble_eq_true rfl) ?_
  refine Zw_aload_0 dX11_not2_0 ?_
  refine Zw_bipush (v := 110) dX11_not2_1 (by decide) ?_
  refine Zw_bipush (v := 111) dX11_not2_3 (by decide) ?_
  refine Zw_bipush (v := 116) dX11_not2_5 (by decide) ?_
  refine Zw_iconst (v := 0) dX11_not2_7 (by decide) ?_
  refine Zw_iconst (v := 0) dX11_not2_8 (by decide) ?_
  refine Zw_iconst (v := 0) dX11_not2_9 (by decide) ?_
  refine Zw_iconst (v := 0) dX11_not2_10 (by decide) ?_
  refine Zw_iconst (v := 0) dX11_not2_11 (by decide) ?_
  refine Zw_V8 (k := 2) lm_X11_177 dX11_not2_12 (by decide) (by first | decide | assumption | omega) (by first | rfl | assumption) (by rfl) (Nat.le_of_ble_eq_true rfl) ?_
  refine s_word (w := 5) hI.1 hI.2.1 hI.2.2.2.2.1 hI.2.2.2.2.2 (by decide) (by decide +kernel) (fun k3 => ?_) (fun k3 => ?_)
  all_goals rw [mw_tok (by decide), show k_wt 5 = 3 from rfl] at k3
  · refine Zw_if_eq 52 dX11_not2_15 (by decide) (fun c => absurd c (by decide)) (fun _ => ?_)
    refine Zw_aload_0 dX11_not2_18 ?_
    refine Zw_V0 (k := 2) lm_X11_202 dX11_not2_19 (by decide) (by first | decide | assumption | omega) (by first | rfl | assumption) (by rfl) (Nat.le_of_ble_eq_true rfl) ?_
    refine s_opens (by decide) hI (by omega) (by omega) (fun μa τa oa Ia => ?_)
    refine Zw_if_ne 27 dX11_not2_22 (by decide) (fun _ => ?_) (fun c => absurd c (by decide))
    refine Zw_aload_0 dX11_not2_27 ?_
    refine Zw_V0 (k := 19) lm_X11_259 dX11_not2_28 (by decide) (by first | decide | assumption | omega) (by first | rfl | assumption) (by rfl) (Nat.le_of_ble_eq_true rfl) ?_
    refine s_not3 Ia (fun f1 v1 μ1 τ1 e1 x1 => ?_) (fun v1 c1 q1 μ1 τ1 e1 o1 I1 => ?_)
    · refine Zw_istore_1 dX11_not2_31 rfl ?_
      refine Zw_aload_0 dX11_not2_32 ?_
      refine Zw_dup dX11_not2_33 rfl ?_
      refine Zw_geti lf_X11_168 dX11_not2_34 (by first | decide | assumption | omega) (by first | rfl | assumption) (by rfl) ?_
      refine Zw_iconst (v := 1) dX11_not2_37 (by decide) ?_
      refine Zw_isub dX11_not2_38 ?_
      refine Zw_put lp_X11_168 dX11_not2_39 (by first | decide | assumption | omega) (by first | rfl | assumption) (by rfl) (by first | rfl | assumption) (by first | rfl | assumption) ?_
      refine Zw_iload_1 dX11_not2_42 ?_
      refine Zw_if_ne 50 dX11_not2_43 (by decide) (fun c43 => ?_) (fun c43 => ?_)
      · refine Zw_iconst (v := 0) dX11_not2_50 (by decide) ?_
        refine Zw_ireturn dX11_not2_51 (by first | rfl | assumption) ?_
        exact hF _ _ _ _ (by rw [dN_s, d_not, if_pos k3, if_pos rfl, e1]; rfl) (mX.dec (mX.tr oa x1))
      · refine Zw_iconst (v := 1) dX11_not2_46 (by decide) ?_
        refine Zw_goto 51 dX11_not2_47 (by decide) ?_
        refine Zw_ireturn dX11_not2_51 (by first | rfl | assumption) ?_
        exact hF _ _ _ _ (by rw [dN_s, d_not, if_pos k3, if_pos rfl, e1]; rfl) (mX.dec (mX.tr oa x1))
    · refine Zw_istore_1 dX11_not2_31 rfl ?_
      refine Zw_aload_0 dX11_not2_32 ?_
      refine Zw_dup dX11_not2_33 rfl ?_
      refine Zw_geti lf_X11_168 dX11_not2_34 (by first | decide | assumption | omega) (by first | rfl | assumption) (by rfl) ?_
      refine Zw_iconst (v := 1) dX11_not2_37 (by decide) ?_
      refine Zw_isub dX11_not2_38 ?_
      refine Zw_put lp_X11_168 dX11_not2_39 (by first | decide | assumption | omega) (by first | rfl | assumption) (by rfl) (by first | rfl | assumption) (by first | rfl | assumption) ?_
      refine Zw_iload_1 dX11_not2_42 ?_
      refine Zw_if_ne 50 dX11_not2_43 (by decide) (fun c43 => ?_) (fun c43 => ?_)
      · refine Zw_iconst (v := 0) dX11_not2_50 (by decide) ?_
        refine Zw_ireturn dX11_not2_51 (by first | rfl | assumption) ?_
        exact hD _ _ _ _ _ (by rw [dN_s, d_not, if_pos k3, if_pos rfl, e1]; show d_nt (.inr (v1, c1, q1)) = _; unfold d_nt; dsimp only; rw [if_neg c43]) ((oa.tr o1).up (by omega)) (mI.lv I1 (by rw [I1.2.2.2.1]; exact nI_pred 2))
      · refine Zw_iconst (v := 1) dX11_not2_46 (by decide) ?_
        refine Zw_goto 51 dX11_not2_47 (by decide) ?_
        refine Zw_ireturn dX11_not2_51 (by first | rfl | assumption) ?_
        exact hD _ _ _ _ _ (by rw [dN_s, d_not, if_pos k3, if_pos rfl, e1]; show d_nt (.inr (v1, c1, q1)) = _; unfold d_nt; dsimp only; rw [if_pos c43]) ((oa.tr o1).up (by omega)) (mI.lv I1 (by rw [I1.2.2.2.1]; exact nI_pred 2))
  · refine Zw_if_eq 52 dX11_not2_15 (by decide) (fun _ => ?_) (fun c => absurd c (by decide))
    refine Zw_aload_0 dX11_not2_52 ?_
    refine Zw_V0 (k := 24) lm_X11_274 dX11_not2_53 (by decide) (by first | decide | assumption | omega) (by first | rfl | assumption) (by rfl) (Nat.le_of_ble_eq_true rfl) ?_
    refine s_added2 hI (fun f1 v1 μ1 τ1 e1 x1 => ?_) (fun v1 c1 q1 μ1 τ1 e1 o1 I1 => ?_)
    · refine Zw_istore_1 dX11_not2_56 rfl ?_
      refine Zw_aload_0 dX11_not2_57 ?_
      refine Zw_bipush (v := 60) dX11_not2_58 (by decide) ?_
      refine Zw_V1 (k := 0) lm_X11_199 dX11_not2_60 (by decide) (by first | decide | assumption | omega) (by first | rfl | assumption) (by rfl) (Nat.le_of_ble_eq_true rfl) ?_
      refine s_signB x1.2.1 ?_
      refine Zw_if_ne 77 dX11_not2_63 (by decide) (fun c => absurd c (by decide)) (fun _ => ?_)
      refine Zw_aload_0 dX11_not2_66 ?_
      refine Zw_bipush (v := 61) dX11_not2_67 (by decide) ?_
      refine Zw_V1 (k := 0) lm_X11_199 dX11_not2_69 (by decide) (by first | decide | assumption | omega) (by first | rfl | assumption) (by rfl) (Nat.le_of_ble_eq_true rfl) ?_
      refine s_signB x1.2.1 ?_
      refine Zw_if_ne 77 dX11_not2_72 (by decide) (fun c => absurd c (by decide)) (fun _ => ?_)
      refine Zw_iload_1 dX11_not2_75 ?_
      refine Zw_ireturn dX11_not2_76 (by first | rfl | assumption) ?_
      exact hF _ _ _ _ (by rw [dN_s, d_not, if_neg k3, e1]; rfl) x1
    · refine Zw_istore_1 dX11_not2_56 rfl ?_
      refine Zw_aload_0 dX11_not2_57 ?_
      refine Zw_bipush (v := 60) dX11_not2_58 (by decide) ?_
      refine Zw_V1 (k := 0) lm_X11_199 dX11_not2_60 (by decide) (by first | decide | assumption | omega) (by first | rfl | assumption) (by rfl) (Nat.le_of_ble_eq_true rfl) ?_
      refine s_sign (tk := 4) I1.2.2.2.2.1 I1.2.2.2.2.2 (by decide) (by decide) (fun k4 => ?_) (fun k4 => ?_)
      · refine Zw_if_ne 77 dX11_not2_63 (by decide) (fun _ => ?_) (fun c => absurd c (by decide))
        have hw : τ1 = (60 : Int32).toInt64 := m_wo I1.2.2.2.2.2 k4 (by decide) (by decide)
        refine Zw_aload_0 dX11_not2_77 ?_
        refine Zw_getl lf_X11_154 dX11_not2_78 (by first | decide | assumption | omega) (by first | rfl | assumption) (by rfl) ?_
        refine Zw_ldc2 dX11_not2_81 zw18 ?_
        refine Zw_lcmp dX11_not2_84 ?_
        refine Zw_if_ne 92 dX11_not2_85 (by decide) (fun c85 => absurd c85 (fun e => e ((lg_e _ _).mpr hw))) (fun c85 => ?_)
        refine Zw_iconst (v := 1) dX11_not2_88 (by decide) ?_
        refine Zw_goto 93 dX11_not2_89 (by decide) ?_
        refine Zw_istore_2 dX11_not2_93 rfl ?_
        refine Zw_aload_0 dX11_not2_94 ?_
        refine Zw_V0 (k := 1) lm_X11_174 dX11_not2_95 (by decide) (by first | decide | assumption | omega) (by first | rfl | assumption) (by rfl) (Nat.le_of_ble_eq_true rfl) ?_
        refine s_nx I1 (by omega) (by omega) (fun μ2 τ2 o2 I2 => ?_)
        refine Zw_aload_0 dX11_not2_98 ?_
        refine Zw_V0 (k := 24) lm_X11_274 dX11_not2_99 (by decide) (by first | decide | assumption | omega) (by first | rfl | assumption) (by rfl) (Nat.le_of_ble_eq_true rfl) ?_
        refine s_added2 I2 (fun f3 v3 μ3 τ3 e3 x3 => ?_) (fun v3 c3 q3 μ3 τ3 e3 o3 I3 => ?_)
        · refine Zw_istore_3 dX11_not2_102 rfl ?_
          refine Zw_iload_2 dX11_not2_103 ?_
          refine Zw_if_eq 115 dX11_not2_104 (by decide) (fun c => absurd c (by decide)) (fun _ => ?_)
          refine Zw_iload_1 dX11_not2_107 ?_
          refine Zw_iload_3 dX11_not2_108 ?_
          refine Zw_icmp_ge 124 dX11_not2_109 (by decide) (fun c109 => ?_) (fun c109 => ?_)
          · refine Zw_iconst (v := 0) dX11_not2_124 (by decide) ?_
            refine Zw_ireturn dX11_not2_125 (by first | rfl | assumption) ?_
            exact hF _ _ _ _ (by rw [dN_s, d_not, if_neg k3, e1]; show d_cmp b n _ (.inr (v1, c1, q1)) = _; unfold d_cmp; dsimp only; rw [if_pos (by omega), e3, k4, d_jn]) (mX.tr (o1.tr o2) x3)
          · refine Zw_goto 120 dX11_not2_112 (by decide) ?_
            refine Zw_iconst (v := 1) dX11_not2_120 (by decide) ?_
            refine Zw_goto 125 dX11_not2_121 (by decide) ?_
            refine Zw_ireturn dX11_not2_125 (by first | rfl | assumption) ?_
            exact hF _ _ _ _ (by rw [dN_s, d_not, if_neg k3, e1]; show d_cmp b n _ (.inr (v1, c1, q1)) = _; unfold d_cmp; dsimp only; rw [if_pos (by omega), e3, k4, d_jn]) (mX.tr (o1.tr o2) x3)
        · refine Zw_istore_3 dX11_not2_102 rfl ?_
          refine Zw_iload_2 dX11_not2_103 ?_
          refine Zw_if_eq 115 dX11_not2_104 (by decide) (fun c => absurd c (by decide)) (fun _ => ?_)
          refine Zw_iload_1 dX11_not2_107 ?_
          refine Zw_iload_3 dX11_not2_108 ?_
          refine Zw_icmp_ge 124 dX11_not2_109 (by decide) (fun c109 => ?_) (fun c109 => ?_)
          · refine Zw_iconst (v := 0) dX11_not2_124 (by decide) ?_
            refine Zw_ireturn dX11_not2_125 (by first | rfl | assumption) ?_
            exact hD _ _ _ _ _ (by rw [dN_s, d_not, if_neg k3, e1]; show d_cmp b n _ (.inr (v1, c1, q1)) = _; unfold d_cmp; dsimp only; rw [if_pos (by omega), e3, k4, d_jn, qj4, if_neg (Int32.not_lt.mpr c109)]) ((o1.tr o2).tr o3) I3
          · refine Zw_goto 120 dX11_not2_112 (by decide) ?_
            refine Zw_iconst (v := 1) dX11_not2_120 (by decide) ?_
            refine Zw_goto 125 dX11_not2_121 (by decide) ?_
            refine Zw_ireturn dX11_not2_125 (by first | rfl | assumption) ?_
            exact hD _ _ _ _ _ (by rw [dN_s, d_not, if_neg k3, e1]; show d_cmp b n _ (.inr (v1, c1, q1)) = _; unfold d_cmp; dsimp only; rw [if_pos (by omega), e3, k4, d_jn, qj4, if_pos (Int32.not_le.mp c109)]) ((o1.tr o2).tr o3) I3
      · refine Zw_if_ne 77 dX11_not2_63 (by decide) (fun c => absurd c (by decide)) (fun _ => ?_)
        refine Zw_aload_0 dX11_not2_66 ?_
        refine Zw_bipush (v := 61) dX11_not2_67 (by decide) ?_
        refine Zw_V1 (k := 0) lm_X11_199 dX11_not2_69 (by decide) (by first | decide | assumption | omega) (by first | rfl | assumption) (by rfl) (Nat.le_of_ble_eq_true rfl) ?_
        refine s_sign (tk := 5) I1.2.2.2.2.1 I1.2.2.2.2.2 (by decide) (by decide) (fun k5 => ?_) (fun k5 => ?_)
        · refine Zw_if_ne 77 dX11_not2_72 (by decide) (fun _ => ?_) (fun c => absurd c (by decide))
          have hw : τ1 = (61 : Int32).toInt64 := m_wo I1.2.2.2.2.2 k5 (by decide) (by decide)
          refine Zw_aload_0 dX11_not2_77 ?_
          refine Zw_getl lf_X11_154 dX11_not2_78 (by first | decide | assumption | omega) (by first | rfl | assumption) (by rfl) ?_
          refine Zw_ldc2 dX11_not2_81 zw18 ?_
          refine Zw_lcmp dX11_not2_84 ?_
          refine Zw_if_ne 92 dX11_not2_85 (by decide) (fun c85 => ?_) (fun c85 => absurd c85 (fun e => absurd (hw.symm.trans ((lg_e _ _).mp e)) (by decide)))
          refine Zw_iconst (v := 0) dX11_not2_92 (by decide) ?_
          refine Zw_istore_2 dX11_not2_93 rfl ?_
          refine Zw_aload_0 dX11_not2_94 ?_
          refine Zw_V0 (k := 1) lm_X11_174 dX11_not2_95 (by decide) (by first | decide | assumption | omega) (by first | rfl | assumption) (by rfl) (Nat.le_of_ble_eq_true rfl) ?_
          refine s_nx I1 (by omega) (by omega) (fun μ2 τ2 o2 I2 => ?_)
          refine Zw_aload_0 dX11_not2_98 ?_
          refine Zw_V0 (k := 24) lm_X11_274 dX11_not2_99 (by decide) (by first | decide | assumption | omega) (by first | rfl | assumption) (by rfl) (Nat.le_of_ble_eq_true rfl) ?_
          refine s_added2 I2 (fun f3 v3 μ3 τ3 e3 x3 => ?_) (fun v3 c3 q3 μ3 τ3 e3 o3 I3 => ?_)
          · refine Zw_istore_3 dX11_not2_102 rfl ?_
            refine Zw_iload_2 dX11_not2_103 ?_
            refine Zw_if_eq 115 dX11_not2_104 (by decide) (fun _ => ?_) (fun c => absurd c (by decide))
            refine Zw_iload_1 dX11_not2_115 ?_
            refine Zw_iload_3 dX11_not2_116 ?_
            refine Zw_icmp_ne 124 dX11_not2_117 (by decide) (fun c117 => ?_) (fun c117 => ?_)
            · refine Zw_iconst (v := 0) dX11_not2_124 (by decide) ?_
              refine Zw_ireturn dX11_not2_125 (by first | rfl | assumption) ?_
              exact hF _ _ _ _ (by rw [dN_s, d_not, if_neg k3, e1]; show d_cmp b n _ (.inr (v1, c1, q1)) = _; unfold d_cmp; dsimp only; rw [if_pos (by omega), e3, k5, d_jn]) (mX.tr (o1.tr o2) x3)
            · refine Zw_iconst (v := 1) dX11_not2_120 (by decide) ?_
              refine Zw_goto 125 dX11_not2_121 (by decide) ?_
              refine Zw_ireturn dX11_not2_125 (by first | rfl | assumption) ?_
              exact hF _ _ _ _ (by rw [dN_s, d_not, if_neg k3, e1]; show d_cmp b n _ (.inr (v1, c1, q1)) = _; unfold d_cmp; dsimp only; rw [if_pos (by omega), e3, k5, d_jn]) (mX.tr (o1.tr o2) x3)
          · refine Zw_istore_3 dX11_not2_102 rfl ?_
            refine Zw_iload_2 dX11_not2_103 ?_
            refine Zw_if_eq 115 dX11_not2_104 (by decide) (fun _ => ?_) (fun c => absurd c (by decide))
            refine Zw_iload_1 dX11_not2_115 ?_
            refine Zw_iload_3 dX11_not2_116 ?_
            refine Zw_icmp_ne 124 dX11_not2_117 (by decide) (fun c117 => ?_) (fun c117 => ?_)
            · refine Zw_iconst (v := 0) dX11_not2_124 (by decide) ?_
              refine Zw_ireturn dX11_not2_125 (by first | rfl | assumption) ?_
              exact hD _ _ _ _ _ (by rw [dN_s, d_not, if_neg k3, e1]; show d_cmp b n _ (.inr (v1, c1, q1)) = _; unfold d_cmp; dsimp only; rw [if_pos (by omega), e3, k5, d_jn, qj5, if_neg c117]) ((o1.tr o2).tr o3) I3
            · refine Zw_iconst (v := 1) dX11_not2_120 (by decide) ?_
              refine Zw_goto 125 dX11_not2_121 (by decide) ?_
              refine Zw_ireturn dX11_not2_125 (by first | rfl | assumption) ?_
              exact hD _ _ _ _ _ (by rw [dN_s, d_not, if_neg k3, e1]; show d_cmp b n _ (.inr (v1, c1, q1)) = _; unfold d_cmp; dsimp only; rw [if_pos (by omega), e3, k5, d_jn, qj5, if_pos c117]) ((o1.tr o2).tr o3) I3
        · refine Zw_if_ne 77 dX11_not2_72 (by decide) (fun c => absurd c (by decide)) (fun _ => ?_)
          refine Zw_iload_1 dX11_not2_75 ?_
          refine Zw_ireturn dX11_not2_76 (by first | rfl | assumption) ?_
          exact hD _ _ _ _ _ (by rw [dN_s, d_not, if_neg k3, e1]; show d_cmp b n _ (.inr (v1, c1, q1)) = _; unfold d_cmp; dsimp only; rw [if_neg (by omega)]) o1 I1
set_option maxRecDepth 20000 in
theorem l_both2 {Q : zQ} {fr n : Nat} {b nm : Nat → Int32} {μ0 : zMu} {R : dR} (hF : ∀ f v μ2 τ2, R = .inl f → mX μ0 μ2 f → Q (some (.int v)) μ2 τ2) (hD : ∀ v c q μ2 τ2, R = .inr (v, c, q) → mOff μ0 μ2 → mI fr n 2 b nm μ2 τ2 q → Q (some (.int v)) μ2 τ2) : ∀ m v c q μ τ, 161 ≤ m + q → mOff μ0 μ → mI fr n 2 b nm μ τ q → d_loop b n t_and (dN b nm n 3) m v c q = R → Zw 26 RX11 cX11_both2 3 (some .int) Q 5 [.ref 61, .int v, .null] [] μ τ
  | 0, v, c, q, μ, τ, hm, hO, hI, hR => absurd hm (by have := hI.2.1; have := hI.1.2.1; omega)
  | m + 1, v, c, q, μ, τ, hm, hO, hI, hR => by
    have hqn := hI.2.1
    refine Zw_aload_0 dX11_both2_5 ?_
    refine Zw_bipush (v := 97) dX11_both2_6 (by decide) ?_
    refine Zw_bipush (v := 110) dX11_both2_8 (by decide) ?_
    refine Zw_bipush (v := 100) dX11_both2_10 (by decide) ?_
    refine Zw_iconst (v := 0) dX11_both2_12 (by decide) ?_
    refine Zw_iconst (v := 0) dX11_both2_13 (by decide) ?_
    refine Zw_iconst (v := 0) dX11_both2_14 (by decide) ?_
    refine Zw_iconst (v := 0) dX11_both2_15 (by decide) ?_
    refine Zw_iconst (v := 0) dX11_both2_16 (by decide) ?_
    refine Zw_V8 (k := 2) lm_X11_177 dX11_both2_17 (by decide) (by first | decide | assumption | omega) (by first | rfl | assumption) (by rfl) (Nat.le_of_ble_eq_true rfl) ?_
    refine s_word (w := 4) hI.1 hI.2.1 hI.2.2.2.2.1 hI.2.2.2.2.2 (by decide) (by decide +kernel) (fun k2 => ?_) (fun k2 => ?_)
    all_goals rw [mw_tok (by decide), show k_wt 4 = 2 from rfl] at k2
    have ht : t_and (k_tok b n q) = true := decide_eq_true k2
    rotate_left
    have ht : ¬ t_and (k_tok b n q) = true := fun e => k2 (of_decide_eq_true e)
    rotate_right
    · refine Zw_if_eq 49 dX11_both2_20 (by decide) (fun c => absurd c (by decide)) (fun _ => ?_)
      refine Zw_aload_0 dX11_both2_23 ?_
      refine Zw_V0 (k := 1) lm_X11_174 dX11_both2_24 (by decide) (by first | decide | assumption | omega) (by first | rfl | assumption) (by rfl) (Nat.le_of_ble_eq_true rfl) ?_
      refine s_nx hI (by omega) (by omega) (fun μ2 τ2 o2 I2 => ?_)
      have hup := k_nx_up (b := b) (n := n) (i := q) (by omega)
      refine Zw_aload_0 dX11_both2_27 ?_
      refine Zw_V0 (k := 25) lm_X11_277 dX11_both2_28 (by decide) (by first | decide | assumption | omega) (by first | rfl | assumption) (by rfl) (Nat.le_of_ble_eq_true rfl) ?_
      refine s_not2 I2 (fun f1 v1 μ1 τ1 e1 x1 => ?_) (fun v1 c1 q1 μ1 τ1 e1 o1 I1 => ?_)
      · refine Zw_istore_2 dX11_both2_31 rfl ?_
        refine Zw_iload_1 dX11_both2_32 ?_
        refine Zw_if_eq 44 dX11_both2_33 (by decide) (fun c33 => ?_) (fun c33 => ?_)
        · refine Zw_iconst (v := 0) dX11_both2_44 (by decide) ?_
          refine Zw_istore_1 dX11_both2_45 rfl ?_
          refine Zw_goto 5 dX11_both2_46 (by decide) ?_
          refine Zw_aload_0 dX11_both2_5 ?_
          refine Zw_bipush (v := 97) dX11_both2_6 (by decide) ?_
          refine Zw_bipush (v := 110) dX11_both2_8 (by decide) ?_
          refine Zw_bipush (v := 100) dX11_both2_10 (by decide) ?_
          refine Zw_iconst (v := 0) dX11_both2_12 (by decide) ?_
          refine Zw_iconst (v := 0) dX11_both2_13 (by decide) ?_
          refine Zw_iconst (v := 0) dX11_both2_14 (by decide) ?_
          refine Zw_iconst (v := 0) dX11_both2_15 (by decide) ?_
          refine Zw_iconst (v := 0) dX11_both2_16 (by decide) ?_
          refine Zw_V8 (k := 2) lm_X11_177 dX11_both2_17 (by decide) (by first | decide | assumption | omega) (by first | rfl | assumption) (by rfl) (Nat.le_of_ble_eq_true rfl) ?_
          refine s_wordB x1.2.1 ?_
          refine Zw_if_eq 49 dX11_both2_20 (by decide) (fun _ => ?_) (fun c => absurd c (by decide))
          refine Zw_iload_1 dX11_both2_49 ?_
          refine Zw_ireturn dX11_both2_50 (by first | rfl | assumption) ?_
          rw [d_loop_s, if_pos ht, e1] at hR
          exact hF _ _ _ _ hR.symm (mX.tr (hO.tr o2) x1)
        · refine Zw_iload_2 dX11_both2_36 ?_
          refine Zw_if_eq 44 dX11_both2_37 (by decide) (fun c37 => ?_) (fun c37 => ?_)
          · refine Zw_iconst (v := 0) dX11_both2_44 (by decide) ?_
            refine Zw_istore_1 dX11_both2_45 rfl ?_
            refine Zw_goto 5 dX11_both2_46 (by decide) ?_
            refine Zw_aload_0 dX11_both2_5 ?_
            refine Zw_bipush (v := 97) dX11_both2_6 (by decide) ?_
            refine Zw_bipush (v := 110) dX11_both2_8 (by decide) ?_
            refine Zw_bipush (v := 100) dX11_both2_10 (by decide) ?_
            refine Zw_iconst (v := 0) dX11_both2_12 (by decide) ?_
            refine Zw_iconst (v := 0) dX11_both2_13 (by decide) ?_
            refine Zw_iconst (v := 0) dX11_both2_14 (by decide) ?_
            refine Zw_iconst (v := 0) dX11_both2_15 (by decide) ?_
            refine Zw_iconst (v := 0) dX11_both2_16 (by decide) ?_
            refine Zw_V8 (k := 2) lm_X11_177 dX11_both2_17 (by decide) (by first | decide | assumption | omega) (by first | rfl | assumption) (by rfl) (Nat.le_of_ble_eq_true rfl) ?_
            refine s_wordB x1.2.1 ?_
            refine Zw_if_eq 49 dX11_both2_20 (by decide) (fun _ => ?_) (fun c => absurd c (by decide))
            refine Zw_iload_1 dX11_both2_49 ?_
            refine Zw_ireturn dX11_both2_50 (by first | rfl | assumption) ?_
            rw [d_loop_s, if_pos ht, e1] at hR
            exact hF _ _ _ _ hR.symm (mX.tr (hO.tr o2) x1)
          · refine Zw_iconst (v := 1) dX11_both2_40 (by decide) ?_
            refine Zw_goto 45 dX11_both2_41 (by decide) ?_
            refine Zw_istore_1 dX11_both2_45 rfl ?_
            refine Zw_goto 5 dX11_both2_46 (by decide) ?_
            refine Zw_aload_0 dX11_both2_5 ?_
            refine Zw_bipush (v := 97) dX11_both2_6 (by decide) ?_
            refine Zw_bipush (v := 110) dX11_both2_8 (by decide) ?_
            refine Zw_bipush (v := 100) dX11_both2_10 (by decide) ?_
            refine Zw_iconst (v := 0) dX11_both2_12 (by decide) ?_
            refine Zw_iconst (v := 0) dX11_both2_13 (by decide) ?_
            refine Zw_iconst (v := 0) dX11_both2_14 (by decide) ?_
            refine Zw_iconst (v := 0) dX11_both2_15 (by decide) ?_
            refine Zw_iconst (v := 0) dX11_both2_16 (by decide) ?_
            refine Zw_V8 (k := 2) lm_X11_177 dX11_both2_17 (by decide) (by first | decide | assumption | omega) (by first | rfl | assumption) (by rfl) (Nat.le_of_ble_eq_true rfl) ?_
            refine s_wordB x1.2.1 ?_
            refine Zw_if_eq 49 dX11_both2_20 (by decide) (fun _ => ?_) (fun c => absurd c (by decide))
            refine Zw_iload_1 dX11_both2_49 ?_
            refine Zw_ireturn dX11_both2_50 (by first | rfl | assumption) ?_
            rw [d_loop_s, if_pos ht, e1] at hR
            exact hF _ _ _ _ hR.symm (mX.tr (hO.tr o2) x1)
      · refine Zw_istore_2 dX11_both2_31 rfl ?_
        refine Zw_iload_1 dX11_both2_32 ?_
        refine Zw_if_eq 44 dX11_both2_33 (by decide) (fun c33 => ?_) (fun c33 => ?_)
        · refine Zw_iconst (v := 0) dX11_both2_44 (by decide) ?_
          refine Zw_istore_1 dX11_both2_45 rfl ?_
          refine Zw_goto 5 dX11_both2_46 (by decide) ?_
          rw [show (0 : Int32) = q_joined (nI 2) v v1 by rw [qj2, if_neg (fun e => e.1 c33)]]
          refine Zw_drop (L' := [.ref 61, .int (q_joined (nI 2) v v1), .null]) ⟨Or.inr rfl, Or.inr rfl, Or.inl rfl, trivial⟩ (Nat.le_of_ble_eq_true rfl) ?_
          rw [d_loop_s, if_pos ht, e1] at hR
          rw [k2, d_jn] at hR
          have hup1 := dN_up b nm n 3 _ _ _ _ hup.2 e1
          exact l_both2 hF hD m _ _ q1 μ1 τ1 (by omega) ((hO.tr o2).tr o1) I1 hR
        · refine Zw_iload_2 dX11_both2_36 ?_
          refine Zw_if_eq 44 dX11_both2_37 (by decide) (fun c37 => ?_) (fun c37 => ?_)
          · refine Zw_iconst (v := 0) dX11_both2_44 (by decide) ?_
            refine Zw_istore_1 dX11_both2_45 rfl ?_
            refine Zw_goto 5 dX11_both2_46 (by decide) ?_
            rw [show (0 : Int32) = q_joined (nI 2) v v1 by rw [qj2, if_neg (fun e => e.2 c37)]]
            refine Zw_drop (L' := [.ref 61, .int (q_joined (nI 2) v v1), .null]) ⟨Or.inr rfl, Or.inr rfl, Or.inl rfl, trivial⟩ (Nat.le_of_ble_eq_true rfl) ?_
            rw [d_loop_s, if_pos ht, e1] at hR
            rw [k2, d_jn] at hR
            have hup1 := dN_up b nm n 3 _ _ _ _ hup.2 e1
            exact l_both2 hF hD m _ _ q1 μ1 τ1 (by omega) ((hO.tr o2).tr o1) I1 hR
          · refine Zw_iconst (v := 1) dX11_both2_40 (by decide) ?_
            refine Zw_goto 45 dX11_both2_41 (by decide) ?_
            refine Zw_istore_1 dX11_both2_45 rfl ?_
            refine Zw_goto 5 dX11_both2_46 (by decide) ?_
            rw [show (1 : Int32) = q_joined (nI 2) v v1 by rw [qj2, if_pos ⟨c33, c37⟩]]
            refine Zw_drop (L' := [.ref 61, .int (q_joined (nI 2) v v1), .null]) ⟨Or.inr rfl, Or.inr rfl, Or.inl rfl, trivial⟩ (Nat.le_of_ble_eq_true rfl) ?_
            rw [d_loop_s, if_pos ht, e1] at hR
            rw [k2, d_jn] at hR
            have hup1 := dN_up b nm n 3 _ _ _ _ hup.2 e1
            exact l_both2 hF hD m _ _ q1 μ1 τ1 (by omega) ((hO.tr o2).tr o1) I1 hR
    · refine Zw_if_eq 49 dX11_both2_20 (by decide) (fun _ => ?_) (fun c => absurd c (by decide))
      refine Zw_iload_1 dX11_both2_49 ?_
      refine Zw_ireturn dX11_both2_50 (by first | rfl | assumption) ?_
      rw [d_loop_s, if_neg ht] at hR
      exact hD _ _ _ _ _ hR.symm hO hI
set_option maxRecDepth 20000 in
theorem s_both2 {fr n pos : Nat} {b nm : Nat → Int32} {Q : zQ} {μ : zMu} {τ : Int64} (hI : mI fr n 2 b nm μ τ pos) (hF : ∀ f v μ2 τ2, dB b nm n 3 pos = .inl f → mX μ μ2 f → Q (some (.int v)) μ2 τ2) (hD : ∀ v c q μ2 τ2, dB b nm n 3 pos = .inr (v, c, q) → mOff μ μ2 → mI fr n 2 b nm μ2 τ2 q → Q (some (.int v)) μ2 τ2) : Zc 26 yX11_both2 cX11_both2 3 (some .int) [.ref 61] μ τ Q := by
  refine Zc.mk 2 [.ref 61, .null, .null] rfl (by decide) (Nat.le_of_ble_eq_true rfl) ?_
  refine Zw_aload_0 dX11_both2_0 ?_
  refine Zw_V0 (k := 25) lm_X11_277 dX11_both2_1 (by decide) (by first | decide | assumption | omega) (by first | rfl | assumption) (by rfl) (Nat.le_of_ble_eq_true rfl) ?_
  refine s_not2 hI (fun f0 v0 μ0 τ0 e0 x0 => ?_) (fun v0 c0 q0 μ0 τ0 e0 o0 I0 => ?_)
  · refine Zw_istore_1 dX11_both2_4 rfl ?_
    refine Zw_aload_0 dX11_both2_5 ?_
    refine Zw_bipush (v := 97) dX11_both2_6 (by decide) ?_
    refine Zw_bipush (v := 110) dX11_both2_8 (by decide) ?_
    refine Zw_bipush (v := 100) dX11_both2_10 (by decide) ?_
    refine Zw_iconst (v := 0) dX11_both2_12 (by decide) ?_
    refine Zw_iconst (v := 0) dX11_both2_13 (by decide) ?_
    refine Zw_iconst (v := 0) dX11_both2_14 (by decide) ?_
    refine Zw_iconst (v := 0) dX11_both2_15 (by decide) ?_
    refine Zw_iconst (v := 0) dX11_both2_16 (by decide) ?_
    refine Zw_V8 (k := 2) lm_X11_177 dX11_both2_17 (by decide) (by first | decide | assumption | omega) (by first | rfl | assumption) (by rfl) (Nat.le_of_ble_eq_true rfl) ?_
    refine s_wordB x0.2.1 ?_
    refine Zw_if_eq 49 dX11_both2_20 (by decide) (fun _ => ?_) (fun c => absurd c (by decide))
    refine Zw_iload_1 dX11_both2_49 ?_
    refine Zw_ireturn dX11_both2_50 (by first | rfl | assumption) ?_
    exact hF _ _ _ _ (by unfold dB; unfold d_bin; rw [e0]) x0
  · refine Zw_istore_1 dX11_both2_4 rfl ?_
    exact l_both2 (μ0 := μ) (R := dB b nm n 3 pos) hF hD 161 v0 c0 q0 μ0 τ0 (by omega) o0 I0 (by unfold dB; unfold d_bin; rw [e0])
set_option maxRecDepth 20000 in
theorem l_either2 {Q : zQ} {fr n : Nat} {b nm : Nat → Int32} {μ0 : zMu} {R : dR} (hF : ∀ f v μ2 τ2, R = .inl f → mX μ0 μ2 f → Q (some (.int v)) μ2 τ2) (hD : ∀ v c q μ2 τ2, R = .inr (v, c, q) → mOff μ0 μ2 → mI fr n 2 b nm μ2 τ2 q → Q (some (.int v)) μ2 τ2) : ∀ m v c q μ τ, 161 ≤ m + q → mOff μ0 μ → mI fr n 2 b nm μ τ q → d_loop b n t_or (dB b nm n 3) m v c q = R → Zw 27 RX11 cX11_either2 3 (some .int) Q 5 [.ref 61, .int v, .null] [] μ τ
  | 0, v, c, q, μ, τ, hm, hO, hI, hR => absurd hm (by have := hI.2.1; have := hI.1.2.1; omega)
  | m + 1, v, c, q, μ, τ, hm, hO, hI, hR => by
    have hqn := hI.2.1
    refine Zw_aload_0 dX11_either2_5 ?_
    refine Zw_bipush (v := 111) dX11_either2_6 (by decide) ?_
    refine Zw_bipush (v := 114) dX11_either2_8 (by decide) ?_
    refine Zw_iconst (v := 0) dX11_either2_10 (by decide) ?_
    refine Zw_iconst (v := 0) dX11_either2_11 (by decide) ?_
    refine Zw_iconst (v := 0) dX11_either2_12 (by decide) ?_
    refine Zw_iconst (v := 0) dX11_either2_13 (by decide) ?_
    refine Zw_iconst (v := 0) dX11_either2_14 (by decide) ?_
    refine Zw_iconst (v := 0) dX11_either2_15 (by decide) ?_
    refine Zw_V8 (k := 2) lm_X11_177 dX11_either2_16 (by decide) (by first | decide | assumption | omega) (by first | rfl | assumption) (by rfl) (Nat.le_of_ble_eq_true rfl) ?_
    refine s_word (w := 3) hI.1 hI.2.1 hI.2.2.2.2.1 hI.2.2.2.2.2 (by decide) (by decide +kernel) (fun k1 => ?_) (fun k1 => ?_)
    all_goals rw [mw_tok (by decide), show k_wt 3 = 1 from rfl] at k1
    have ht : t_or (k_tok b n q) = true := decide_eq_true k1
    rotate_left
    have ht : ¬ t_or (k_tok b n q) = true := fun e => k1 (of_decide_eq_true e)
    rotate_right
    · refine Zw_if_eq 48 dX11_either2_19 (by decide) (fun c => absurd c (by decide)) (fun _ => ?_)
      refine Zw_aload_0 dX11_either2_22 ?_
      refine Zw_V0 (k := 1) lm_X11_174 dX11_either2_23 (by decide) (by first | decide | assumption | omega) (by first | rfl | assumption) (by rfl) (Nat.le_of_ble_eq_true rfl) ?_
      refine s_nx hI (by omega) (by omega) (fun μ2 τ2 o2 I2 => ?_)
      have hup := k_nx_up (b := b) (n := n) (i := q) (by omega)
      refine Zw_aload_0 dX11_either2_26 ?_
      refine Zw_V0 (k := 26) lm_X11_280 dX11_either2_27 (by decide) (by first | decide | assumption | omega) (by first | rfl | assumption) (by rfl) (Nat.le_of_ble_eq_true rfl) ?_
      refine s_both2 I2 (fun f1 v1 μ1 τ1 e1 x1 => ?_) (fun v1 c1 q1 μ1 τ1 e1 o1 I1 => ?_)
      · refine Zw_istore_2 dX11_either2_30 rfl ?_
        refine Zw_iload_1 dX11_either2_31 ?_
        refine Zw_if_ne 39 dX11_either2_32 (by decide) (fun c32 => ?_) (fun c32 => ?_)
        · refine Zw_iconst (v := 1) dX11_either2_39 (by decide) ?_
          refine Zw_goto 44 dX11_either2_40 (by decide) ?_
          refine Zw_istore_1 dX11_either2_44 rfl ?_
          refine Zw_goto 5 dX11_either2_45 (by decide) ?_
          refine Zw_aload_0 dX11_either2_5 ?_
          refine Zw_bipush (v := 111) dX11_either2_6 (by decide) ?_
          refine Zw_bipush (v := 114) dX11_either2_8 (by decide) ?_
          refine Zw_iconst (v := 0) dX11_either2_10 (by decide) ?_
          refine Zw_iconst (v := 0) dX11_either2_11 (by decide) ?_
          refine Zw_iconst (v := 0) dX11_either2_12 (by decide) ?_
          refine Zw_iconst (v := 0) dX11_either2_13 (by decide) ?_
          refine Zw_iconst (v := 0) dX11_either2_14 (by decide) ?_
          refine Zw_iconst (v := 0) dX11_either2_15 (by decide) ?_
          refine Zw_V8 (k := 2) lm_X11_177 dX11_either2_16 (by decide) (by first | decide | assumption | omega) (by first | rfl | assumption) (by rfl) (Nat.le_of_ble_eq_true rfl) ?_
          refine s_wordB x1.2.1 ?_
          refine Zw_if_eq 48 dX11_either2_19 (by decide) (fun _ => ?_) (fun c => absurd c (by decide))
          refine Zw_iload_1 dX11_either2_48 ?_
          refine Zw_ireturn dX11_either2_49 (by first | rfl | assumption) ?_
          rw [d_loop_s, if_pos ht, e1] at hR
          exact hF _ _ _ _ hR.symm (mX.tr (hO.tr o2) x1)
        · refine Zw_iload_2 dX11_either2_35 ?_
          refine Zw_if_eq 43 dX11_either2_36 (by decide) (fun c36 => ?_) (fun c36 => ?_)
          · refine Zw_iconst (v := 0) dX11_either2_43 (by decide) ?_
            refine Zw_istore_1 dX11_either2_44 rfl ?_
            refine Zw_goto 5 dX11_either2_45 (by decide) ?_
            refine Zw_aload_0 dX11_either2_5 ?_
            refine Zw_bipush (v := 111) dX11_either2_6 (by decide) ?_
            refine Zw_bipush (v := 114) dX11_either2_8 (by decide) ?_
            refine Zw_iconst (v := 0) dX11_either2_10 (by decide) ?_
            refine Zw_iconst (v := 0) dX11_either2_11 (by decide) ?_
            refine Zw_iconst (v := 0) dX11_either2_12 (by decide) ?_
            refine Zw_iconst (v := 0) dX11_either2_13 (by decide) ?_
            refine Zw_iconst (v := 0) dX11_either2_14 (by decide) ?_
            refine Zw_iconst (v := 0) dX11_either2_15 (by decide) ?_
            refine Zw_V8 (k := 2) lm_X11_177 dX11_either2_16 (by decide) (by first | decide | assumption | omega) (by first | rfl | assumption) (by rfl) (Nat.le_of_ble_eq_true rfl) ?_
            refine s_wordB x1.2.1 ?_
            refine Zw_if_eq 48 dX11_either2_19 (by decide) (fun _ => ?_) (fun c => absurd c (by decide))
            refine Zw_iload_1 dX11_either2_48 ?_
            refine Zw_ireturn dX11_either2_49 (by first | rfl | assumption) ?_
            rw [d_loop_s, if_pos ht, e1] at hR
            exact hF _ _ _ _ hR.symm (mX.tr (hO.tr o2) x1)
          · refine Zw_iconst (v := 1) dX11_either2_39 (by decide) ?_
            refine Zw_goto 44 dX11_either2_40 (by decide) ?_
            refine Zw_istore_1 dX11_either2_44 rfl ?_
            refine Zw_goto 5 dX11_either2_45 (by decide) ?_
            refine Zw_aload_0 dX11_either2_5 ?_
            refine Zw_bipush (v := 111) dX11_either2_6 (by decide) ?_
            refine Zw_bipush (v := 114) dX11_either2_8 (by decide) ?_
            refine Zw_iconst (v := 0) dX11_either2_10 (by decide) ?_
            refine Zw_iconst (v := 0) dX11_either2_11 (by decide) ?_
            refine Zw_iconst (v := 0) dX11_either2_12 (by decide) ?_
            refine Zw_iconst (v := 0) dX11_either2_13 (by decide) ?_
            refine Zw_iconst (v := 0) dX11_either2_14 (by decide) ?_
            refine Zw_iconst (v := 0) dX11_either2_15 (by decide) ?_
            refine Zw_V8 (k := 2) lm_X11_177 dX11_either2_16 (by decide) (by first | decide | assumption | omega) (by first | rfl | assumption) (by rfl) (Nat.le_of_ble_eq_true rfl) ?_
            refine s_wordB x1.2.1 ?_
            refine Zw_if_eq 48 dX11_either2_19 (by decide) (fun _ => ?_) (fun c => absurd c (by decide))
            refine Zw_iload_1 dX11_either2_48 ?_
            refine Zw_ireturn dX11_either2_49 (by first | rfl | assumption) ?_
            rw [d_loop_s, if_pos ht, e1] at hR
            exact hF _ _ _ _ hR.symm (mX.tr (hO.tr o2) x1)
      · refine Zw_istore_2 dX11_either2_30 rfl ?_
        refine Zw_iload_1 dX11_either2_31 ?_
        refine Zw_if_ne 39 dX11_either2_32 (by decide) (fun c32 => ?_) (fun c32 => ?_)
        · refine Zw_iconst (v := 1) dX11_either2_39 (by decide) ?_
          refine Zw_goto 44 dX11_either2_40 (by decide) ?_
          refine Zw_istore_1 dX11_either2_44 rfl ?_
          refine Zw_goto 5 dX11_either2_45 (by decide) ?_
          rw [show (1 : Int32) = q_joined (nI 1) v v1 by rw [qj1, if_pos (Or.inl c32)]]
          refine Zw_drop (L' := [.ref 61, .int (q_joined (nI 1) v v1), .null]) ⟨Or.inr rfl, Or.inr rfl, Or.inl rfl, trivial⟩ (Nat.le_of_ble_eq_true rfl) ?_
          rw [d_loop_s, if_pos ht, e1] at hR
          rw [k1, d_jn] at hR
          have hup1 := dB_up b nm n 3 _ _ _ _ hup.2 e1
          exact l_either2 hF hD m _ _ q1 μ1 τ1 (by omega) ((hO.tr o2).tr o1) I1 hR
        · refine Zw_iload_2 dX11_either2_35 ?_
          refine Zw_if_eq 43 dX11_either2_36 (by decide) (fun c36 => ?_) (fun c36 => ?_)
          · refine Zw_iconst (v := 0) dX11_either2_43 (by decide) ?_
            refine Zw_istore_1 dX11_either2_44 rfl ?_
            refine Zw_goto 5 dX11_either2_45 (by decide) ?_
            rw [show (0 : Int32) = q_joined (nI 1) v v1 by rw [qj1, if_neg (fun e => e.elim (fun a => a c32) (fun a => a c36))]]
            refine Zw_drop (L' := [.ref 61, .int (q_joined (nI 1) v v1), .null]) ⟨Or.inr rfl, Or.inr rfl, Or.inl rfl, trivial⟩ (Nat.le_of_ble_eq_true rfl) ?_
            rw [d_loop_s, if_pos ht, e1] at hR
            rw [k1, d_jn] at hR
            have hup1 := dB_up b nm n 3 _ _ _ _ hup.2 e1
            exact l_either2 hF hD m _ _ q1 μ1 τ1 (by omega) ((hO.tr o2).tr o1) I1 hR
          · refine Zw_iconst (v := 1) dX11_either2_39 (by decide) ?_
            refine Zw_goto 44 dX11_either2_40 (by decide) ?_
            refine Zw_istore_1 dX11_either2_44 rfl ?_
            refine Zw_goto 5 dX11_either2_45 (by decide) ?_
            rw [show (1 : Int32) = q_joined (nI 1) v v1 by rw [qj1, if_pos (Or.inr c36)]]
            refine Zw_drop (L' := [.ref 61, .int (q_joined (nI 1) v v1), .null]) ⟨Or.inr rfl, Or.inr rfl, Or.inl rfl, trivial⟩ (Nat.le_of_ble_eq_true rfl) ?_
            rw [d_loop_s, if_pos ht, e1] at hR
            rw [k1, d_jn] at hR
            have hup1 := dB_up b nm n 3 _ _ _ _ hup.2 e1
            exact l_either2 hF hD m _ _ q1 μ1 τ1 (by omega) ((hO.tr o2).tr o1) I1 hR
    · refine Zw_if_eq 48 dX11_either2_19 (by decide) (fun _ => ?_) (fun c => absurd c (by decide))
      refine Zw_iload_1 dX11_either2_48 ?_
      refine Zw_ireturn dX11_either2_49 (by first | rfl | assumption) ?_
      rw [d_loop_s, if_neg ht] at hR
      exact hD _ _ _ _ _ hR.symm hO hI
set_option maxRecDepth 20000 in
theorem s_either2 {fr n pos : Nat} {b nm : Nat → Int32} {Q : zQ} {μ : zMu} {τ : Int64} (hI : mI fr n 2 b nm μ τ pos) (hF : ∀ f v μ2 τ2, dE b nm n 3 pos = .inl f → mX μ μ2 f → Q (some (.int v)) μ2 τ2) (hD : ∀ v c q μ2 τ2, dE b nm n 3 pos = .inr (v, c, q) → mOff μ μ2 → mI fr n 2 b nm μ2 τ2 q → Q (some (.int v)) μ2 τ2) : Zc 27 yX11_either2 cX11_either2 3 (some .int) [.ref 61] μ τ Q := by
  refine Zc.mk 2 [.ref 61, .null, .null] rfl (by decide) (Nat.le_of_ble_eq_true rfl) ?_
  refine Zw_aload_0 dX11_either2_0 ?_
  refine Zw_V0 (k := 26) lm_X11_280 dX11_either2_1 (by decide) (by first | decide | assumption | omega) (by first | rfl | assumption) (by rfl) (Nat.le_of_ble_eq_true rfl) ?_
  refine s_both2 hI (fun f0 v0 μ0 τ0 e0 x0 => ?_) (fun v0 c0 q0 μ0 τ0 e0 o0 I0 => ?_)
  · refine Zw_istore_1 dX11_either2_4 rfl ?_
    refine Zw_aload_0 dX11_either2_5 ?_
    refine Zw_bipush (v := 111) dX11_either2_6 (by decide) ?_
    refine Zw_bipush (v := 114) dX11_either2_8 (by decide) ?_
    refine Zw_iconst (v := 0) dX11_either2_10 (by decide) ?_
    refine Zw_iconst (v := 0) dX11_either2_11 (by decide) ?_
    refine Zw_iconst (v := 0) dX11_either2_12 (by decide) ?_
    refine Zw_iconst (v := 0) dX11_either2_13 (by decide) ?_
    refine Zw_iconst (v := 0) dX11_either2_14 (by decide) ?_
    refine Zw_iconst (v := 0) dX11_either2_15 (by decide) ?_
    refine Zw_V8 (k := 2) lm_X11_177 dX11_either2_16 (by decide) (by first | decide | assumption | omega) (by first | rfl | assumption) (by rfl) (Nat.le_of_ble_eq_true rfl) ?_
    refine s_wordB x0.2.1 ?_
    refine Zw_if_eq 48 dX11_either2_19 (by decide) (fun _ => ?_) (fun c => absurd c (by decide))
    refine Zw_iload_1 dX11_either2_48 ?_
    refine Zw_ireturn dX11_either2_49 (by first | rfl | assumption) ?_
    exact hF _ _ _ _ (by rw [dE_s]; unfold d_bin; rw [e0]) x0
  · refine Zw_istore_1 dX11_either2_4 rfl ?_
    exact l_either2 (μ0 := μ) (R := dE b nm n 3 pos) hF hD 161 v0 c0 q0 μ0 τ0 (by omega) o0 I0 (by rw [dE_s]; unfold d_bin; rw [e0])
