set_option maxRecDepth 20000 in
theorem s_atom0 {fr n pos : Nat} {b nm : Nat → Int32} {Q : zQ} {μ : zMu} {τ : Int64} (hI : mI fr n 0 b nm μ τ pos) (hF : ∀ f v μ2 τ2, dA b nm n 5 pos = .inl f → mX μ μ2 f → Q (some (.int v)) μ2 τ2) (hD : ∀ v c q μ2 τ2, dA b nm n 5 pos = .inr (v, c, q) → mOff μ μ2 → mI fr n 0 b nm μ2 τ2 q → Q (some (.int v)) μ2 τ2) : Zc 34 yX11_atom0 cX11_atom0 2 (some .int) [.ref 61] μ τ Q := by
  refine Zc.mk 1 [.ref 61, .null] rfl (by decide) (Nat.le_of_ble_eq_true rfl) ?_
  have hkd := m_kd_of b n pos
  have hkl := m_kd_lt b n (k_pl b n pos)
  have hsn := k_sgn_ne (b (k_pl b n pos))
  refine Zw_iconst (v := 0) dX11_atom0_0 (by decide) ?_
  refine Zw_istore_1 dX11_atom0_1 rfl ?_
  refine Zw_aload_0 dX11_atom0_2 ?_
  refine Zw_bipush (v := 45) dX11_atom0_3 (by decide) ?_
  refine Zw_V1 (k := 0) lm_X11_199 dX11_atom0_5 (by decide) (by first | decide | assumption | omega) (by first | rfl | assumption) (by rfl) (Nat.le_of_ble_eq_true rfl) ?_
  refine s_sign (tk := 7) hI.2.2.2.2.1 hI.2.2.2.2.2 (by decide) (by decide) (fun k7 => ?_) (fun k7 => ?_)
  · refine Zw_if_eq 37 dX11_atom0_8 (by decide) (fun c => absurd c (by decide)) (fun _ => ?_)
    refine Zw_aload_0 dX11_atom0_11 ?_
    refine Zw_V0 (k := 2) lm_X11_202 dX11_atom0_12 (by decide) (by first | decide | assumption | omega) (by first | rfl | assumption) (by rfl) (Nat.le_of_ble_eq_true rfl) ?_
    refine s_opens (by decide) hI (by omega) (by omega) (fun μa τa oa Ia => ?_)
    refine Zw_if_eq 161 dX11_atom0_15 (by decide) (fun c => absurd c (by decide)) (fun _ => ?_)
    refine Zw_aload_0 dX11_atom0_18 ?_
    refine Zw_V0 (k := 28) lm_X11_286 dX11_atom0_19 (by decide) (by first | decide | assumption | omega) (by first | rfl | assumption) (by rfl) (Nat.le_of_ble_eq_true rfl) ?_
    refine s_atom1 Ia (fun f1 v1 μ1 τ1 e1 x1 => ?_) (fun v1 c1 q1 μ1 τ1 e1 o1 I1 => ?_)
    · refine Zw_ineg dX11_atom0_22 ?_
      refine Zw_istore_1 dX11_atom0_23 rfl ?_
      refine Zw_aload_0 dX11_atom0_24 ?_
      refine Zw_dup dX11_atom0_25 rfl ?_
      refine Zw_geti lf_X11_168 dX11_atom0_26 (by first | decide | assumption | omega) (by first | rfl | assumption) (by rfl) ?_
      refine Zw_iconst (v := 1) dX11_atom0_29 (by decide) ?_
      refine Zw_isub dX11_atom0_30 ?_
      refine Zw_put lp_X11_168 dX11_atom0_31 (by first | decide | assumption | omega) (by first | rfl | assumption) (by rfl) (by first | rfl | assumption) (by first | rfl | assumption) ?_
      refine Zw_goto 161 dX11_atom0_34 (by decide) ?_
      refine Zw_iload_1 dX11_atom0_161 ?_
      refine Zw_ireturn dX11_atom0_162 (by first | rfl | assumption) ?_
      exact hF _ _ _ _ (by rw [dA_s, d_atom, if_pos k7, if_pos rfl, e1]; rfl) (mX.dec (mX.tr oa x1))
    · refine Zw_ineg dX11_atom0_22 ?_
      refine Zw_istore_1 dX11_atom0_23 rfl ?_
      refine Zw_aload_0 dX11_atom0_24 ?_
      refine Zw_dup dX11_atom0_25 rfl ?_
      refine Zw_geti lf_X11_168 dX11_atom0_26 (by first | decide | assumption | omega) (by first | rfl | assumption) (by rfl) ?_
      refine Zw_iconst (v := 1) dX11_atom0_29 (by decide) ?_
      refine Zw_isub dX11_atom0_30 ?_
      refine Zw_put lp_X11_168 dX11_atom0_31 (by first | decide | assumption | omega) (by first | rfl | assumption) (by rfl) (by first | rfl | assumption) (by first | rfl | assumption) ?_
      refine Zw_goto 161 dX11_atom0_34 (by decide) ?_
      refine Zw_iload_1 dX11_atom0_161 ?_
      refine Zw_ireturn dX11_atom0_162 (by first | rfl | assumption) ?_
      exact hD _ _ _ _ _ (by rw [dA_s, d_atom, if_pos k7, if_pos rfl, e1]; rfl) ((oa.tr o1).up (by omega)) (mI.lv I1 (by rw [I1.2.2.2.1]; exact nI_pred 0))
  · refine Zw_if_eq 37 dX11_atom0_8 (by decide) (fun _ => ?_) (fun c => absurd c (by decide))
    refine Zw_aload_0 dX11_atom0_37 ?_
    refine Zw_bipush (v := 40) dX11_atom0_38 (by decide) ?_
    refine Zw_V1 (k := 0) lm_X11_199 dX11_atom0_40 (by decide) (by first | decide | assumption | omega) (by first | rfl | assumption) (by rfl) (Nat.le_of_ble_eq_true rfl) ?_
    refine s_sign (tk := 10) hI.2.2.2.2.1 hI.2.2.2.2.2 (by decide) (by decide) (fun k10 => ?_) (fun k10 => ?_)
    · refine Zw_if_eq 95 dX11_atom0_43 (by decide) (fun c => absurd c (by decide)) (fun _ => ?_)
      refine Zw_aload_0 dX11_atom0_46 ?_
      refine Zw_V0 (k := 2) lm_X11_202 dX11_atom0_47 (by decide) (by first | decide | assumption | omega) (by first | rfl | assumption) (by rfl) (Nat.le_of_ble_eq_true rfl) ?_
      refine s_opens (by decide) hI (by omega) (by omega) (fun μa τa oa Ia => ?_)
      refine Zw_if_eq 161 dX11_atom0_50 (by decide) (fun c => absurd c (by decide)) (fun _ => ?_)
      refine Zw_aload_0 dX11_atom0_53 ?_
      refine Zw_V0 (k := 33) lm_X11_301 dX11_atom0_54 (by decide) (by first | decide | assumption | omega) (by first | rfl | assumption) (by rfl) (Nat.le_of_ble_eq_true rfl) ?_
      refine s_either1 Ia (fun f1 v1 μ1 τ1 e1 x1 => ?_) (fun v1 c1 q1 μ1 τ1 e1 o1 I1 => ?_)
      · refine Zw_istore_1 dX11_atom0_57 rfl ?_
        refine Zw_aload_0 dX11_atom0_58 ?_
        refine Zw_bipush (v := 41) dX11_atom0_59 (by decide) ?_
        refine Zw_V1 (k := 0) lm_X11_199 dX11_atom0_61 (by decide) (by first | decide | assumption | omega) (by first | rfl | assumption) (by rfl) (Nat.le_of_ble_eq_true rfl) ?_
        refine s_signB x1.2.1 ?_
        refine Zw_if_ne 71 dX11_atom0_64 (by decide) (fun c => absurd c (by decide)) (fun _ => ?_)
        refine Zw_aload_0 dX11_atom0_67 ?_
        refine Zw_V0 (k := 0) lm_X11_171 dX11_atom0_68 (by decide) (by first | decide | assumption | omega) (by first | rfl | assumption) (by rfl) (Nat.le_of_ble_eq_true rfl) ?_
        refine s_failB x1.2.1 ?_
        refine Zw_aload_0 dX11_atom0_71 ?_
        refine Zw_dup dX11_atom0_72 rfl ?_
        refine Zw_geti lf_X11_168 dX11_atom0_73 (by first | decide | assumption | omega) (by first | rfl | assumption) (by rfl) ?_
        refine Zw_iconst (v := 1) dX11_atom0_76 (by decide) ?_
        refine Zw_isub dX11_atom0_77 ?_
        refine Zw_put lp_X11_168 dX11_atom0_78 (by first | decide | assumption | omega) (by first | rfl | assumption) (by rfl) (by first | rfl | assumption) (by first | rfl | assumption) ?_
        refine Zw_aload_0 dX11_atom0_81 ?_
        refine Zw_getv (1) lf_X11_158 dX11_atom0_82 (by first | decide | assumption | omega) (by first | rfl | assumption) (by rfl) x1.2.1 ?_
        refine Zw_if_ne 161 dX11_atom0_85 (by decide) (fun _ => ?_) (fun c => absurd c (by decide))
        refine Zw_iload_1 dX11_atom0_161 ?_
        refine Zw_ireturn dX11_atom0_162 (by first | rfl | assumption) ?_
        exact hF _ _ _ _ (by rw [dA_s, d_atom, if_neg (by omega), if_pos k10, if_pos rfl, e1, d_clo]) (mX.dec (mX.tr oa x1))
      · refine Zw_istore_1 dX11_atom0_57 rfl ?_
        refine Zw_aload_0 dX11_atom0_58 ?_
        refine Zw_bipush (v := 41) dX11_atom0_59 (by decide) ?_
        refine Zw_V1 (k := 0) lm_X11_199 dX11_atom0_61 (by decide) (by first | decide | assumption | omega) (by first | rfl | assumption) (by rfl) (Nat.le_of_ble_eq_true rfl) ?_
        refine s_sign (tk := 11) I1.2.2.2.2.1 I1.2.2.2.2.2 (by decide) (by decide) (fun k11 => ?_) (fun k11 => ?_)
        · refine Zw_if_ne 71 dX11_atom0_64 (by decide) (fun _ => ?_) (fun c => absurd c (by decide))
          refine Zw_aload_0 dX11_atom0_71 ?_
          refine Zw_dup dX11_atom0_72 rfl ?_
          refine Zw_geti lf_X11_168 dX11_atom0_73 (by first | decide | assumption | omega) (by first | rfl | assumption) (by rfl) ?_
          refine Zw_iconst (v := 1) dX11_atom0_76 (by decide) ?_
          refine Zw_isub dX11_atom0_77 ?_
          refine Zw_put lp_X11_168 dX11_atom0_78 (by first | decide | assumption | omega) (by first | rfl | assumption) (by rfl) (by first | rfl | assumption) (by first | rfl | assumption) ?_
          refine Zw_aload_0 dX11_atom0_81 ?_
          refine Zw_getv (0) lf_X11_158 dX11_atom0_82 (by first | decide | assumption | omega) (by first | rfl | assumption) (by rfl) I1.2.2.2.2.1 ?_
          refine Zw_if_ne 161 dX11_atom0_85 (by decide) (fun c => absurd c (by decide)) (fun _ => ?_)
          refine Zw_aload_0 dX11_atom0_88 ?_
          refine Zw_V0 (k := 1) lm_X11_174 dX11_atom0_89 (by decide) (by first | decide | assumption | omega) (by first | rfl | assumption) (by rfl) (Nat.le_of_ble_eq_true rfl) ?_
          refine s_nx (mI.lv (l' := 0) I1 (by rw [I1.2.2.2.1]; exact nI_pred 0)) (by omega) (by omega) (fun μ2 τ2 o2 I2 => ?_)
          refine Zw_goto 161 dX11_atom0_92 (by decide) ?_
          refine Zw_iload_1 dX11_atom0_161 ?_
          refine Zw_ireturn dX11_atom0_162 (by first | rfl | assumption) ?_
          exact hD _ _ _ _ _ (by rw [dA_s, d_atom, if_neg (by omega), if_pos k10, if_pos rfl, e1, d_clo]; exact if_pos k11) (((oa.tr o1).up (by omega)).tr o2) I2
        · refine Zw_if_ne 71 dX11_atom0_64 (by decide) (fun c => absurd c (by decide)) (fun _ => ?_)
          refine Zw_aload_0 dX11_atom0_67 ?_
          refine Zw_V0 (k := 0) lm_X11_171 dX11_atom0_68 (by decide) (by first | decide | assumption | omega) (by first | rfl | assumption) (by rfl) (Nat.le_of_ble_eq_true rfl) ?_
          refine s_fail0 I1.2.2.2.2.1 I1.2.2.2.2.2.1 ?_
          refine Zw_aload_0 dX11_atom0_71 ?_
          refine Zw_dup dX11_atom0_72 rfl ?_
          refine Zw_geti lf_X11_168 dX11_atom0_73 (by first | decide | assumption | omega) (by first | rfl | assumption) (by rfl) ?_
          refine Zw_iconst (v := 1) dX11_atom0_76 (by decide) ?_
          refine Zw_isub dX11_atom0_77 ?_
          refine Zw_put lp_X11_168 dX11_atom0_78 (by first | decide | assumption | omega) (by first | rfl | assumption) (by rfl) (by first | rfl | assumption) (by first | rfl | assumption) ?_
          refine Zw_aload_0 dX11_atom0_81 ?_
          refine Zw_getv (1) lf_X11_158 dX11_atom0_82 (by first | decide | assumption | omega) (by first | rfl | assumption) (by rfl) rfl ?_
          refine Zw_if_ne 161 dX11_atom0_85 (by decide) (fun _ => ?_) (fun c => absurd c (by decide))
          refine Zw_iload_1 dX11_atom0_161 ?_
          refine Zw_ireturn dX11_atom0_162 (by first | rfl | assumption) ?_
          exact hF _ _ _ _ (by rw [dA_s, d_atom, if_neg (by omega), if_pos k10, if_pos rfl, e1, d_clo]; exact if_neg k11) (mX.dec (mX.tr (oa.tr o1) mX.of))
    · refine Zw_if_eq 95 dX11_atom0_43 (by decide) (fun _ => ?_) (fun c => absurd c (by decide))
      refine Zw_aload_0 dX11_atom0_95 ?_
      refine Zw_getv (0) lf_X11_158 dX11_atom0_96 (by first | decide | assumption | omega) (by first | rfl | assumption) (by rfl) hI.2.2.2.2.1 ?_
      refine Zw_if_ne 123 dX11_atom0_99 (by decide) (fun c => absurd c (by decide)) (fun _ => ?_)
      refine Zw_aload_0 dX11_atom0_102 ?_
      refine Zw_getv (nI (m_kd b n (k_pl b n pos))) lf_X11_143 dX11_atom0_103 (by first | decide | assumption | omega) (by first | rfl | assumption) (by rfl) hI.2.2.2.2.2.2.1 ?_
      refine Zw_iconst (v := 2) dX11_atom0_106 (by decide) ?_
      refine Zw_nicmp_ne ((m_kd b n (k_pl b n pos))) (2) 123 dX11_atom0_107 (by decide) rfl rfl (by omega) (by omega) (fun c107 => ?_) (fun c107 => ?_)
      · refine Zw_aload_0 dX11_atom0_123 ?_
        refine Zw_getv (0) lf_X11_158 dX11_atom0_124 (by first | decide | assumption | omega) (by first | rfl | assumption) (by rfl) hI.2.2.2.2.1 ?_
        refine Zw_if_ne 157 dX11_atom0_127 (by decide) (fun c => absurd c (by decide)) (fun _ => ?_)
        refine Zw_aload_0 dX11_atom0_130 ?_
        refine Zw_getv (nI (m_kd b n (k_pl b n pos))) lf_X11_143 dX11_atom0_131 (by first | decide | assumption | omega) (by first | rfl | assumption) (by rfl) hI.2.2.2.2.2.2.1 ?_
        refine Zw_iconst (v := 1) dX11_atom0_134 (by decide) ?_
        refine Zw_nicmp_ne ((m_kd b n (k_pl b n pos))) (1) 157 dX11_atom0_135 (by decide) rfl rfl (by omega) (by omega) (fun c135 => ?_) (fun c135 => ?_)
        · refine Zw_aload_0 dX11_atom0_157 ?_
          refine Zw_V0 (k := 0) lm_X11_171 dX11_atom0_158 (by decide) (by first | decide | assumption | omega) (by first | rfl | assumption) (by rfl) (Nat.le_of_ble_eq_true rfl) ?_
          refine s_fail0 hI.2.2.2.2.1 hI.2.2.2.2.2.1 ?_
          refine Zw_iload_1 dX11_atom0_161 ?_
          refine Zw_ireturn dX11_atom0_162 (by first | rfl | assumption) ?_
          exact hF _ _ _ _ (by rw [dA_s, d_atom, if_neg (by omega), if_neg (by omega), if_neg (by omega), if_neg (by omega)]) mX.of
        · refine Zw_aload_0 dX11_atom0_138 ?_
          refine Zw_V0 (k := 3) lm_X11_206 dX11_atom0_139 (by decide) (by first | decide | assumption | omega) (by first | rfl | assumption) (by rfl) (Nat.le_of_ble_eq_true rfl) ?_
          refine s_name hI (fun h17 => ?_) (fun j hj6 h17 hj => ?_)
          · refine Zw_istore_1 dX11_atom0_142 rfl ?_
            refine Zw_aload_0 dX11_atom0_143 ?_
            refine Zw_getv (1) lf_X11_158 dX11_atom0_144 (by first | decide | assumption | omega) (by first | rfl | assumption) (by rfl) rfl ?_
            refine Zw_if_ne 161 dX11_atom0_147 (by decide) (fun _ => ?_) (fun c => absurd c (by decide))
            refine Zw_iload_1 dX11_atom0_161 ?_
            refine Zw_ireturn dX11_atom0_162 (by first | rfl | assumption) ?_
            exact hF _ _ _ _ (by rw [dA_s, d_atom, if_neg (by omega), if_neg (by omega), if_neg (by omega), if_neg (by omega)]) mX.of
          · refine Zw_istore_1 dX11_atom0_142 rfl ?_
            refine Zw_aload_0 dX11_atom0_143 ?_
            refine Zw_getv (0) lf_X11_158 dX11_atom0_144 (by first | decide | assumption | omega) (by first | rfl | assumption) (by rfl) hI.2.2.2.2.1 ?_
            refine Zw_if_ne 161 dX11_atom0_147 (by decide) (fun c => absurd c (by decide)) (fun _ => ?_)
            refine Zw_aload_0 dX11_atom0_150 ?_
            refine Zw_V0 (k := 1) lm_X11_174 dX11_atom0_151 (by decide) (by first | decide | assumption | omega) (by first | rfl | assumption) (by rfl) (Nat.le_of_ble_eq_true rfl) ?_
            refine s_nx hI (by omega) (by omega) (fun μ2 τ2 o2 I2 => ?_)
            refine Zw_goto 161 dX11_atom0_154 (by decide) ?_
            refine Zw_iload_1 dX11_atom0_161 ?_
            refine Zw_ireturn dX11_atom0_162 (by first | rfl | assumption) ?_
            exact hD _ _ _ _ _ (by rw [dA_s, d_atom, if_neg (by omega), if_neg (by omega), if_neg (by omega), if_pos h17, hj, nI_cl j hj6]) o2 I2
      · refine Zw_aload_0 dX11_atom0_110 ?_
        refine Zw_getl lf_X11_154 dX11_atom0_111 (by first | decide | assumption | omega) (by first | rfl | assumption) (by rfl) ?_
        refine Zw_l2i dX11_atom0_114 ?_
        refine Zw_istore_1 dX11_atom0_115 rfl ?_
        refine Zw_aload_0 dX11_atom0_116 ?_
        refine Zw_V0 (k := 1) lm_X11_174 dX11_atom0_117 (by decide) (by first | decide | assumption | omega) (by first | rfl | assumption) (by rfl) (Nat.le_of_ble_eq_true rfl) ?_
        have h16 : k_tok b n pos = 16 := by omega
        have hv : k_val b n pos = τ.toInt32 := (hI.2.2.2.2.2.2.2.2.1 (by omega)).symm
        refine s_nx hI (by omega) (by omega) (fun μ2 τ2 o2 I2 => ?_)
        refine Zw_goto 161 dX11_atom0_120 (by decide) ?_
        refine Zw_iload_1 dX11_atom0_161 ?_
        refine Zw_ireturn dX11_atom0_162 (by first | rfl | assumption) ?_
        exact hD _ _ _ _ _ (by rw [dA_s, d_atom, if_neg (by omega), if_neg (by omega), if_pos h16, hv]) o2 I2
set_option maxRecDepth 20000 in
theorem l_term0 {Q : zQ} {fr n : Nat} {b nm : Nat → Int32} {μ0 : zMu} {R : dR} (hF : ∀ f v μ2 τ2, R = .inl f → mX μ0 μ2 f → Q (some (.int v)) μ2 τ2) (hD : ∀ v c q μ2 τ2, R = .inr (v, c, q) → mOff μ0 μ2 → mI fr n 0 b nm μ2 τ2 q → Q (some (.int v)) μ2 τ2) : ∀ m v c q μ τ, 161 ≤ m + q → mOff μ0 μ → mI fr n 0 b nm μ τ q → d_loop b n t_mul (dA b nm n 5) m v c q = R → Zw 35 RX11 cX11_term0 2 (some .int) Q 5 [.ref 61, .int v] [] μ τ
  | 0, v, c, q, μ, τ, hm, hO, hI, hR => absurd hm (by have := hI.2.1; have := hI.1.2.1; omega)
  | m + 1, v, c, q, μ, τ, hm, hO, hI, hR => by
    have hqn := hI.2.1
    refine Zw_aload_0 dX11_term0_5 ?_
    refine Zw_bipush (v := 42) dX11_term0_6 (by decide) ?_
    refine Zw_V1 (k := 0) lm_X11_199 dX11_term0_8 (by decide) (by first | decide | assumption | omega) (by first | rfl | assumption) (by rfl) (Nat.le_of_ble_eq_true rfl) ?_
    refine s_sign (tk := 8) hI.2.2.2.2.1 hI.2.2.2.2.2 (by decide) (by decide) (fun k8 => ?_) (fun k8 => ?_)
    have ht : t_mul (k_tok b n q) = true := decide_eq_true k8
    rotate_left
    have ht : ¬ t_mul (k_tok b n q) = true := fun e => k8 (of_decide_eq_true e)
    rotate_right
    · refine Zw_if_eq 28 dX11_term0_11 (by decide) (fun c => absurd c (by decide)) (fun _ => ?_)
      refine Zw_aload_0 dX11_term0_14 ?_
      refine Zw_V0 (k := 1) lm_X11_174 dX11_term0_15 (by decide) (by first | decide | assumption | omega) (by first | rfl | assumption) (by rfl) (Nat.le_of_ble_eq_true rfl) ?_
      refine s_nx hI (by omega) (by omega) (fun μ2 τ2 o2 I2 => ?_)
      have hup := k_nx_up (b := b) (n := n) (i := q) (by omega)
      refine Zw_iload_1 dX11_term0_18 ?_
      refine Zw_aload_0 dX11_term0_19 ?_
      refine Zw_V0 (k := 34) lm_X11_304 dX11_term0_20 (by decide) (by first | decide | assumption | omega) (by first | rfl | assumption) (by rfl) (Nat.le_of_ble_eq_true rfl) ?_
      refine s_atom0 I2 (fun f1 v1 μ1 τ1 e1 x1 => ?_) (fun v1 c1 q1 μ1 τ1 e1 o1 I1 => ?_)
      · refine Zw_imul dX11_term0_23 ?_
        refine Zw_istore_1 dX11_term0_24 rfl ?_
        refine Zw_goto 5 dX11_term0_25 (by decide) ?_
        refine Zw_aload_0 dX11_term0_5 ?_
        refine Zw_bipush (v := 42) dX11_term0_6 (by decide) ?_
        refine Zw_V1 (k := 0) lm_X11_199 dX11_term0_8 (by decide) (by first | decide | assumption | omega) (by first | rfl | assumption) (by rfl) (Nat.le_of_ble_eq_true rfl) ?_
        refine s_signB x1.2.1 ?_
        refine Zw_if_eq 28 dX11_term0_11 (by decide) (fun _ => ?_) (fun c => absurd c (by decide))
        refine Zw_iload_1 dX11_term0_28 ?_
        refine Zw_ireturn dX11_term0_29 (by first | rfl | assumption) ?_
        rw [d_loop_s, if_pos ht, e1] at hR
        exact hF _ _ _ _ hR.symm (mX.tr (hO.tr o2) x1)
      · refine Zw_imul dX11_term0_23 ?_
        refine Zw_istore_1 dX11_term0_24 rfl ?_
        refine Zw_goto 5 dX11_term0_25 (by decide) ?_
        rw [← qj8]
        refine Zw_drop (L' := [.ref 61, .int (q_joined (nI 8) v v1)]) ⟨Or.inr rfl, Or.inr rfl, trivial⟩ (Nat.le_of_ble_eq_true rfl) ?_
        rw [d_loop_s, if_pos ht, e1] at hR
        rw [k8, d_jn] at hR
        have hup1 := dA_up b nm n 5 _ _ _ _ hup.2 e1
        exact l_term0 hF hD m _ _ q1 μ1 τ1 (by omega) ((hO.tr o2).tr o1) I1 hR
    · refine Zw_if_eq 28 dX11_term0_11 (by decide) (fun _ => ?_) (fun c => absurd c (by decide))
      refine Zw_iload_1 dX11_term0_28 ?_
      refine Zw_ireturn dX11_term0_29 (by first | rfl | assumption) ?_
      rw [d_loop_s, if_neg ht] at hR
      exact hD _ _ _ _ _ hR.symm hO hI
set_option maxRecDepth 20000 in
theorem s_term0 {fr n pos : Nat} {b nm : Nat → Int32} {Q : zQ} {μ : zMu} {τ : Int64} (hI : mI fr n 0 b nm μ τ pos) (hF : ∀ f v μ2 τ2, dT b nm n 5 pos = .inl f → mX μ μ2 f → Q (some (.int v)) μ2 τ2) (hD : ∀ v c q μ2 τ2, dT b nm n 5 pos = .inr (v, c, q) → mOff μ μ2 → mI fr n 0 b nm μ2 τ2 q → Q (some (.int v)) μ2 τ2) : Zc 35 yX11_term0 cX11_term0 2 (some .int) [.ref 61] μ τ Q := by
  refine Zc.mk 1 [.ref 61, .null] rfl (by decide) (Nat.le_of_ble_eq_true rfl) ?_
  refine Zw_aload_0 dX11_term0_0 ?_
  refine Zw_V0 (k := 34) lm_X11_304 dX11_term0_1 (by decide) (by first | decide | assumption | omega) (by first | rfl | assumption) (by rfl) (Nat.le_of_ble_eq_true rfl) ?_
  refine s_atom0 hI (fun f0 v0 μ0 τ0 e0 x0 => ?_) (fun v0 c0 q0 μ0 τ0 e0 o0 I0 => ?_)
  · refine Zw_istore_1 dX11_term0_4 rfl ?_
    refine Zw_aload_0 dX11_term0_5 ?_
    refine Zw_bipush (v := 42) dX11_term0_6 (by decide) ?_
    refine Zw_V1 (k := 0) lm_X11_199 dX11_term0_8 (by decide) (by first | decide | assumption | omega) (by first | rfl | assumption) (by rfl) (Nat.le_of_ble_eq_true rfl) ?_
    refine s_signB x0.2.1 ?_
    refine Zw_if_eq 28 dX11_term0_11 (by decide) (fun _ => ?_) (fun c => absurd c (by decide))
    refine Zw_iload_1 dX11_term0_28 ?_
    refine Zw_ireturn dX11_term0_29 (by first | rfl | assumption) ?_
    exact hF _ _ _ _ (by unfold dT; unfold d_bin; rw [e0]) x0
  · refine Zw_istore_1 dX11_term0_4 rfl ?_
    exact l_term0 (μ0 := μ) (R := dT b nm n 5 pos) hF hD 161 v0 c0 q0 μ0 τ0 (by omega) o0 I0 (by unfold dT; unfold d_bin; rw [e0])
set_option maxRecDepth 20000 in
theorem l_added0 {Q : zQ} {fr n : Nat} {b nm : Nat → Int32} {μ0 : zMu} {R : dR} (hF : ∀ f v μ2 τ2, R = .inl f → mX μ0 μ2 f → Q (some (.int v)) μ2 τ2) (hD : ∀ v c q μ2 τ2, R = .inr (v, c, q) → mOff μ0 μ2 → mI fr n 0 b nm μ2 τ2 q → Q (some (.int v)) μ2 τ2) : ∀ m v c q μ τ, 161 ≤ m + q → mOff μ0 μ → mI fr n 0 b nm μ τ q → d_loop b n t_add (dT b nm n 5) m v c q = R → Zw 36 RX11 cX11_added0 4 (some .int) Q 5 [.ref 61, .int v, .null, .null] [] μ τ
  | 0, v, c, q, μ, τ, hm, hO, hI, hR => absurd hm (by have := hI.2.1; have := hI.1.2.1; omega)
  | m + 1, v, c, q, μ, τ, hm, hO, hI, hR => by
    have hqn := hI.2.1
    refine Zw_aload_0 dX11_added0_5 ?_
    refine Zw_bipush (v := 43) dX11_added0_6 (by decide) ?_
    refine Zw_V1 (k := 0) lm_X11_199 dX11_added0_8 (by decide) (by first | decide | assumption | omega) (by first | rfl | assumption) (by rfl) (Nat.le_of_ble_eq_true rfl) ?_
    refine s_sign (tk := 6) hI.2.2.2.2.1 hI.2.2.2.2.2 (by decide) (by decide) (fun k6 => ?_) (fun k6 => ?_)
    · refine Zw_if_ne 23 dX11_added0_11 (by decide) (fun _ => ?_) (fun c => absurd c (by decide))
      have ht : t_add (k_tok b n q) = true := decide_eq_true (Or.inl k6)
      have hw : τ = (43 : Int32).toInt64 := m_wo hI.2.2.2.2.2 k6 (by decide) (by decide)
      refine Zw_aload_0 dX11_added0_23 ?_
      refine Zw_getl lf_X11_154 dX11_added0_24 (by first | decide | assumption | omega) (by first | rfl | assumption) (by rfl) ?_
      refine Zw_ldc2 dX11_added0_27 zw17 ?_
      refine Zw_lcmp dX11_added0_30 ?_
      refine Zw_if_ne 38 dX11_added0_31 (by decide) (fun c31 => absurd c31 (fun e => e ((lg_e _ _).mpr hw))) (fun c31 => ?_)
      refine Zw_iconst (v := 1) dX11_added0_34 (by decide) ?_
      refine Zw_goto 39 dX11_added0_35 (by decide) ?_
      refine Zw_istore_2 dX11_added0_39 rfl ?_
      refine Zw_aload_0 dX11_added0_40 ?_
      refine Zw_V0 (k := 1) lm_X11_174 dX11_added0_41 (by decide) (by first | decide | assumption | omega) (by first | rfl | assumption) (by rfl) (Nat.le_of_ble_eq_true rfl) ?_
      refine s_nx hI (by omega) (by omega) (fun μ2 τ2 o2 I2 => ?_)
      have hup := k_nx_up (b := b) (n := n) (i := q) (by omega)
      refine Zw_aload_0 dX11_added0_44 ?_
      refine Zw_V0 (k := 35) lm_X11_307 dX11_added0_45 (by decide) (by first | decide | assumption | omega) (by first | rfl | assumption) (by rfl) (Nat.le_of_ble_eq_true rfl) ?_
      refine s_term0 I2 (fun f1 v1 μ1 τ1 e1 x1 => ?_) (fun v1 c1 q1 μ1 τ1 e1 o1 I1 => ?_)
      · refine Zw_istore_3 dX11_added0_48 rfl ?_
        refine Zw_iload_2 dX11_added0_49 ?_
        refine Zw_if_eq 59 dX11_added0_50 (by decide) (fun c => absurd c (by decide)) (fun _ => ?_)
        refine Zw_iload_1 dX11_added0_53 ?_
        refine Zw_iload_3 dX11_added0_54 ?_
        refine Zw_iadd dX11_added0_55 ?_
        refine Zw_goto 62 dX11_added0_56 (by decide) ?_
        refine Zw_istore_1 dX11_added0_62 rfl ?_
        refine Zw_goto 5 dX11_added0_63 (by decide) ?_
        refine Zw_aload_0 dX11_added0_5 ?_
        refine Zw_bipush (v := 43) dX11_added0_6 (by decide) ?_
        refine Zw_V1 (k := 0) lm_X11_199 dX11_added0_8 (by decide) (by first | decide | assumption | omega) (by first | rfl | assumption) (by rfl) (Nat.le_of_ble_eq_true rfl) ?_
        refine s_signB x1.2.1 ?_
        refine Zw_if_ne 23 dX11_added0_11 (by decide) (fun c => absurd c (by decide)) (fun _ => ?_)
        refine Zw_aload_0 dX11_added0_14 ?_
        refine Zw_bipush (v := 45) dX11_added0_15 (by decide) ?_
        refine Zw_V1 (k := 0) lm_X11_199 dX11_added0_17 (by decide) (by first | decide | assumption | omega) (by first | rfl | assumption) (by rfl) (Nat.le_of_ble_eq_true rfl) ?_
        refine s_signB x1.2.1 ?_
        refine Zw_if_eq 66 dX11_added0_20 (by decide) (fun _ => ?_) (fun c => absurd c (by decide))
        refine Zw_iload_1 dX11_added0_66 ?_
        refine Zw_ireturn dX11_added0_67 (by first | rfl | assumption) ?_
        rw [d_loop_s, if_pos ht, e1] at hR
        exact hF _ _ _ _ hR.symm (mX.tr (hO.tr o2) x1)
      · refine Zw_istore_3 dX11_added0_48 rfl ?_
        refine Zw_iload_2 dX11_added0_49 ?_
        refine Zw_if_eq 59 dX11_added0_50 (by decide) (fun c => absurd c (by decide)) (fun _ => ?_)
        refine Zw_iload_1 dX11_added0_53 ?_
        refine Zw_iload_3 dX11_added0_54 ?_
        refine Zw_iadd dX11_added0_55 ?_
        refine Zw_goto 62 dX11_added0_56 (by decide) ?_
        refine Zw_istore_1 dX11_added0_62 rfl ?_
        refine Zw_goto 5 dX11_added0_63 (by decide) ?_
        rw [← qj6]
        refine Zw_drop (L' := [.ref 61, .int (q_joined (nI 6) v v1), .null, .null]) ⟨Or.inr rfl, Or.inr rfl, Or.inl rfl, Or.inl rfl, trivial⟩ (Nat.le_of_ble_eq_true rfl) ?_
        rw [d_loop_s, if_pos ht, e1] at hR
        rw [k6, d_jn] at hR
        have hup1 := dT_up b nm n 5 _ _ _ _ hup.2 e1
        exact l_added0 hF hD m _ _ q1 μ1 τ1 (by omega) ((hO.tr o2).tr o1) I1 hR
    · refine Zw_if_ne 23 dX11_added0_11 (by decide) (fun c => absurd c (by decide)) (fun _ => ?_)
      refine Zw_aload_0 dX11_added0_14 ?_
      refine Zw_bipush (v := 45) dX11_added0_15 (by decide) ?_
      refine Zw_V1 (k := 0) lm_X11_199 dX11_added0_17 (by decide) (by first | decide | assumption | omega) (by first | rfl | assumption) (by rfl) (Nat.le_of_ble_eq_true rfl) ?_
      refine s_sign (tk := 7) hI.2.2.2.2.1 hI.2.2.2.2.2 (by decide) (by decide) (fun k7 => ?_) (fun k7 => ?_)
      · refine Zw_if_eq 66 dX11_added0_20 (by decide) (fun c => absurd c (by decide)) (fun _ => ?_)
        have ht : t_add (k_tok b n q) = true := decide_eq_true (Or.inr k7)
        have hw : τ = (45 : Int32).toInt64 := m_wo hI.2.2.2.2.2 k7 (by decide) (by decide)
        refine Zw_aload_0 dX11_added0_23 ?_
        refine Zw_getl lf_X11_154 dX11_added0_24 (by first | decide | assumption | omega) (by first | rfl | assumption) (by rfl) ?_
        refine Zw_ldc2 dX11_added0_27 zw17 ?_
        refine Zw_lcmp dX11_added0_30 ?_
        refine Zw_if_ne 38 dX11_added0_31 (by decide) (fun c31 => ?_) (fun c31 => absurd c31 (fun e => absurd (hw.symm.trans ((lg_e _ _).mp e)) (by decide)))
        refine Zw_iconst (v := 0) dX11_added0_38 (by decide) ?_
        refine Zw_istore_2 dX11_added0_39 rfl ?_
        refine Zw_aload_0 dX11_added0_40 ?_
        refine Zw_V0 (k := 1) lm_X11_174 dX11_added0_41 (by decide) (by first | decide | assumption | omega) (by first | rfl | assumption) (by rfl) (Nat.le_of_ble_eq_true rfl) ?_
        refine s_nx hI (by omega) (by omega) (fun μ2 τ2 o2 I2 => ?_)
        have hup := k_nx_up (b := b) (n := n) (i := q) (by omega)
        refine Zw_aload_0 dX11_added0_44 ?_
        refine Zw_V0 (k := 35) lm_X11_307 dX11_added0_45 (by decide) (by first | decide | assumption | omega) (by first | rfl | assumption) (by rfl) (Nat.le_of_ble_eq_true rfl) ?_
        refine s_term0 I2 (fun f1 v1 μ1 τ1 e1 x1 => ?_) (fun v1 c1 q1 μ1 τ1 e1 o1 I1 => ?_)
        · refine Zw_istore_3 dX11_added0_48 rfl ?_
          refine Zw_iload_2 dX11_added0_49 ?_
          refine Zw_if_eq 59 dX11_added0_50 (by decide) (fun _ => ?_) (fun c => absurd c (by decide))
          refine Zw_iload_1 dX11_added0_59 ?_
          refine Zw_iload_3 dX11_added0_60 ?_
          refine Zw_isub dX11_added0_61 ?_
          refine Zw_istore_1 dX11_added0_62 rfl ?_
          refine Zw_goto 5 dX11_added0_63 (by decide) ?_
          refine Zw_aload_0 dX11_added0_5 ?_
          refine Zw_bipush (v := 43) dX11_added0_6 (by decide) ?_
          refine Zw_V1 (k := 0) lm_X11_199 dX11_added0_8 (by decide) (by first | decide | assumption | omega) (by first | rfl | assumption) (by rfl) (Nat.le_of_ble_eq_true rfl) ?_
          refine s_signB x1.2.1 ?_
          refine Zw_if_ne 23 dX11_added0_11 (by decide) (fun c => absurd c (by decide)) (fun _ => ?_)
          refine Zw_aload_0 dX11_added0_14 ?_
          refine Zw_bipush (v := 45) dX11_added0_15 (by decide) ?_
          refine Zw_V1 (k := 0) lm_X11_199 dX11_added0_17 (by decide) (by first | decide | assumption | omega) (by first | rfl | assumption) (by rfl) (Nat.le_of_ble_eq_true rfl) ?_
          refine s_signB x1.2.1 ?_
          refine Zw_if_eq 66 dX11_added0_20 (by decide) (fun _ => ?_) (fun c => absurd c (by decide))
          refine Zw_iload_1 dX11_added0_66 ?_
          refine Zw_ireturn dX11_added0_67 (by first | rfl | assumption) ?_
          rw [d_loop_s, if_pos ht, e1] at hR
          exact hF _ _ _ _ hR.symm (mX.tr (hO.tr o2) x1)
        · refine Zw_istore_3 dX11_added0_48 rfl ?_
          refine Zw_iload_2 dX11_added0_49 ?_
          refine Zw_if_eq 59 dX11_added0_50 (by decide) (fun _ => ?_) (fun c => absurd c (by decide))
          refine Zw_iload_1 dX11_added0_59 ?_
          refine Zw_iload_3 dX11_added0_60 ?_
          refine Zw_isub dX11_added0_61 ?_
          refine Zw_istore_1 dX11_added0_62 rfl ?_
          refine Zw_goto 5 dX11_added0_63 (by decide) ?_
          rw [← qj7]
          refine Zw_drop (L' := [.ref 61, .int (q_joined (nI 7) v v1), .null, .null]) ⟨Or.inr rfl, Or.inr rfl, Or.inl rfl, Or.inl rfl, trivial⟩ (Nat.le_of_ble_eq_true rfl) ?_
          rw [d_loop_s, if_pos ht, e1] at hR
          rw [k7, d_jn] at hR
          have hup1 := dT_up b nm n 5 _ _ _ _ hup.2 e1
          exact l_added0 hF hD m _ _ q1 μ1 τ1 (by omega) ((hO.tr o2).tr o1) I1 hR
      · refine Zw_if_eq 66 dX11_added0_20 (by decide) (fun _ => ?_) (fun c => absurd c (by decide))
        have ht : ¬ t_add (k_tok b n q) = true := fun e => (of_decide_eq_true e).elim k6 k7
        refine Zw_iload_1 dX11_added0_66 ?_
        refine Zw_ireturn dX11_added0_67 (by first | rfl | assumption) ?_
        rw [d_loop_s, if_neg ht] at hR
        exact hD _ _ _ _ _ hR.symm hO hI
set_option maxRecDepth 20000 in
theorem s_added0 {fr n pos : Nat} {b nm : Nat → Int32} {Q : zQ} {μ : zMu} {τ : Int64} (hI : mI fr n 0 b nm μ τ pos) (hF : ∀ f v μ2 τ2, dP b nm n 5 pos = .inl f → mX μ μ2 f → Q (some (.int v)) μ2 τ2) (hD : ∀ v c q μ2 τ2, dP b nm n 5 pos = .inr (v, c, q) → mOff μ μ2 → mI fr n 0 b nm μ2 τ2 q → Q (some (.int v)) μ2 τ2) : Zc 36 yX11_added0 cX11_added0 4 (some .int) [.ref 61] μ τ Q := by
  refine Zc.mk 3 [.ref 61, .null, .null, .null] rfl (by decide) (Nat.le_of_ble_eq_true rfl) ?_
  refine Zw_aload_0 dX11_added0_0 ?_
  refine Zw_V0 (k := 35) lm_X11_307 dX11_added0_1 (by decide) (by first | decide | assumption | omega) (by first | rfl | assumption) (by rfl) (Nat.le_of_ble_eq_true rfl) ?_
  refine s_term0 hI (fun f0 v0 μ0 τ0 e0 x0 => ?_) (fun v0 c0 q0 μ0 τ0 e0 o0 I0 => ?_)
  · refine Zw_istore_1 dX11_added0_4 rfl ?_
    refine Zw_aload_0 dX11_added0_5 ?_
    refine Zw_bipush (v := 43) dX11_added0_6 (by decide) ?_
    refine Zw_V1 (k := 0) lm_X11_199 dX11_added0_8 (by decide) (by first | decide | assumption | omega) (by first | rfl | assumption) (by rfl) (Nat.le_of_ble_eq_true rfl) ?_
    refine s_signB x0.2.1 ?_
    refine Zw_if_ne 23 dX11_added0_11 (by decide) (fun c => absurd c (by decide)) (fun _ => ?_)
    refine Zw_aload_0 dX11_added0_14 ?_
    refine Zw_bipush (v := 45) dX11_added0_15 (by decide) ?_
    refine Zw_V1 (k := 0) lm_X11_199 dX11_added0_17 (by decide) (by first | decide | assumption | omega) (by first | rfl | assumption) (by rfl) (Nat.le_of_ble_eq_true rfl) ?_
    refine s_signB x0.2.1 ?_
    refine Zw_if_eq 66 dX11_added0_20 (by decide) (fun _ => ?_) (fun c => absurd c (by decide))
    refine Zw_iload_1 dX11_added0_66 ?_
    refine Zw_ireturn dX11_added0_67 (by first | rfl | assumption) ?_
    exact hF _ _ _ _ (by unfold dP; unfold d_bin; rw [e0]) x0
  · refine Zw_istore_1 dX11_added0_4 rfl ?_
    exact l_added0 (μ0 := μ) (R := dP b nm n 5 pos) hF hD 161 v0 c0 q0 μ0 τ0 (by omega) o0 I0 (by unfold dP; unfold d_bin; rw [e0])
set_option maxRecDepth 20000 in
theorem s_not0 {fr n pos : Nat} {b nm : Nat → Int32} {Q : zQ} {μ : zMu} {τ : Int64} (hI : mI fr n 0 b nm μ τ pos) (hF : ∀ f v μ2 τ2, dN b nm n 5 pos = .inl f → mX μ μ2 f → Q (some (.int v)) μ2 τ2) (hD : ∀ v c q μ2 τ2, dN b nm n 5 pos = .inr (v, c, q) → mOff μ μ2 → mI fr n 0 b nm μ2 τ2 q → Q (some (.int v)) μ2 τ2) : Zc 37 yX11_not0 cX11_not0 4 (some .int) [.ref 61] μ τ Q := by
  refine Zc.mk 3 [.ref 61, .null, .null, .null] rfl (by decide) (Nat.le_of_ble_eq_true rfl) ?_
  refine Zw_aload_0 dX11_not0_0 ?_
  refine Zw_bipush (v := 110) dX11_not0_1 (by decide) ?_
  refine Zw_bipush (v := 111) dX11_not0_3 (by decide) ?_
  refine Zw_bipush (v := 116) dX11_not0_5 (by decide) ?_
  refine Zw_iconst (v := 0) dX11_not0_7 (by decide) ?_
  refine Zw_iconst (v := 0) dX11_not0_8 (by decide) ?_
  refine Zw_iconst (v := 0) dX11_not0_9 (by decide) ?_
  refine Zw_iconst (v := 0) dX11_not0_10 (by decide) ?_
  refine Zw_iconst (v := 0) dX11_not0_11 (by decide) ?_
  refine Zw_V8 (k := 2) lm_X11_177 dX11_not0_12 (by decide) (by first | decide | assumption | omega) (by first | rfl | assumption) (by rfl) (Nat.le_of_ble_eq_true rfl) ?_
  refine s_word (w := 5) hI.1 hI.2.1 hI.2.2.2.2.1 hI.2.2.2.2.2 (by decide) (by decide +kernel) (fun k3 => ?_) (fun k3 => ?_)
  all_goals rw [mw_tok (by decide), show k_wt 5 = 3 from rfl] at k3
  · refine Zw_if_eq 52 dX11_not0_15 (by decide) (fun c => absurd c (by decide)) (fun _ => ?_)
    refine Zw_aload_0 dX11_not0_18 ?_
    refine Zw_V0 (k := 2) lm_X11_202 dX11_not0_19 (by decide) (by first | decide | assumption | omega) (by first | rfl | assumption) (by rfl) (Nat.le_of_ble_eq_true rfl) ?_
    refine s_opens (by decide) hI (by omega) (by omega) (fun μa τa oa Ia => ?_)
    refine Zw_if_ne 27 dX11_not0_22 (by decide) (fun _ => ?_) (fun c => absurd c (by decide))
    refine Zw_aload_0 dX11_not0_27 ?_
    refine Zw_V0 (k := 31) lm_X11_295 dX11_not0_28 (by decide) (by first | decide | assumption | omega) (by first | rfl | assumption) (by rfl) (Nat.le_of_ble_eq_true rfl) ?_
    refine s_not1 Ia (fun f1 v1 μ1 τ1 e1 x1 => ?_) (fun v1 c1 q1 μ1 τ1 e1 o1 I1 => ?_)
    · refine Zw_istore_1 dX11_not0_31 rfl ?_
      refine Zw_aload_0 dX11_not0_32 ?_
      refine Zw_dup dX11_not0_33 rfl ?_
      refine Zw_geti lf_X11_168 dX11_not0_34 (by first | decide | assumption | omega) (by first | rfl | assumption) (by rfl) ?_
      refine Zw_iconst (v := 1) dX11_not0_37 (by decide) ?_
      refine Zw_isub dX11_not0_38 ?_
      refine Zw_put lp_X11_168 dX11_not0_39 (by first | decide | assumption | omega) (by first | rfl | assumption) (by rfl) (by first | rfl | assumption) (by first | rfl | assumption) ?_
      refine Zw_iload_1 dX11_not0_42 ?_
      refine Zw_if_ne 50 dX11_not0_43 (by decide) (fun c43 => ?_) (fun c43 => ?_)
      · refine Zw_iconst (v := 0) dX11_not0_50 (by decide) ?_
        refine Zw_ireturn dX11_not0_51 (by first | rfl | assumption) ?_
        exact hF _ _ _ _ (by rw [dN_s, d_not, if_pos k3, if_pos rfl, e1]; rfl) (mX.dec (mX.tr oa x1))
      · refine Zw_iconst (v := 1) dX11_not0_46 (by decide) ?_
        refine Zw_goto 51 dX11_not0_47 (by decide) ?_
        refine Zw_ireturn dX11_not0_51 (by first | rfl | assumption) ?_
        exact hF _ _ _ _ (by rw [dN_s, d_not, if_pos k3, if_pos rfl, e1]; rfl) (mX.dec (mX.tr oa x1))
    · refine Zw_istore_1 dX11_not0_31 rfl ?_
      refine Zw_aload_0 dX11_not0_32 ?_
      refine Zw_dup dX11_not0_33 rfl ?_
      refine Zw_geti lf_X11_168 dX11_not0_34 (by first | decide | assumption | omega) (by first | rfl | assumption) (by rfl) ?_
      refine Zw_iconst (v := 1) dX11_not0_37 (by decide) ?_
      refine Zw_isub dX11_not0_38 ?_
      refine Zw_put lp_X11_168 dX11_not0_39 (by first | decide | assumption | omega) (by first | rfl | assumption) (by rfl) (by first | rfl | assumption) (by first | rfl | assumption) ?_
      refine Zw_iload_1 dX11_not0_42 ?_
      refine Zw_if_ne 50 dX11_not0_43 (by decide) (fun c43 => ?_) (fun c43 => ?_)
      · refine Zw_iconst (v := 0) dX11_not0_50 (by decide) ?_
        refine Zw_ireturn dX11_not0_51 (by first | rfl | assumption) ?_
        exact hD _ _ _ _ _ (by rw [dN_s, d_not, if_pos k3, if_pos rfl, e1]; show d_nt (.inr (v1, c1, q1)) = _; unfold d_nt; dsimp only; rw [if_neg c43]) ((oa.tr o1).up (by omega)) (mI.lv I1 (by rw [I1.2.2.2.1]; exact nI_pred 0))
      · refine Zw_iconst (v := 1) dX11_not0_46 (by decide) ?_
        refine Zw_goto 51 dX11_not0_47 (by decide) ?_
        refine Zw_ireturn dX11_not0_51 (by first | rfl | assumption) ?_
        exact hD _ _ _ _ _ (by rw [dN_s, d_not, if_pos k3, if_pos rfl, e1]; show d_nt (.inr (v1, c1, q1)) = _; unfold d_nt; dsimp only; rw [if_pos c43]) ((oa.tr o1).up (by omega)) (mI.lv I1 (by rw [I1.2.2.2.1]; exact nI_pred 0))
  · refine Zw_if_eq 52 dX11_not0_15 (by decide) (fun _ => ?_) (fun c => absurd c (by decide))
    refine Zw_aload_0 dX11_not0_52 ?_
    refine Zw_V0 (k := 36) lm_X11_310 dX11_not0_53 (by decide) (by first | decide | assumption | omega) (by first | rfl | assumption) (by rfl) (Nat.le_of_ble_eq_true rfl) ?_
    refine s_added0 hI (fun f1 v1 μ1 τ1 e1 x1 => ?_) (fun v1 c1 q1 μ1 τ1 e1 o1 I1 => ?_)
    · refine Zw_istore_1 dX11_not0_56 rfl ?_
      refine Zw_aload_0 dX11_not0_57 ?_
      refine Zw_bipush (v := 60) dX11_not0_58 (by decide) ?_
      refine Zw_V1 (k := 0) lm_X11_199 dX11_not0_60 (by decide) (by first | decide | assumption | omega) (by first | rfl | assumption) (by rfl) (Nat.le_of_ble_eq_true rfl) ?_
      refine s_signB x1.2.1 ?_
      refine Zw_if_ne 77 dX11_not0_63 (by decide) (fun c => absurd c (by decide)) (fun _ => ?_)
      refine Zw_aload_0 dX11_not0_66 ?_
      refine Zw_bipush (v := 61) dX11_not0_67 (by decide) ?_
      refine Zw_V1 (k := 0) lm_X11_199 dX11_not0_69 (by decide) (by first | decide | assumption | omega) (by first | rfl | assumption) (by rfl) (Nat.le_of_ble_eq_true rfl) ?_
      refine s_signB x1.2.1 ?_
      refine Zw_if_ne 77 dX11_not0_72 (by decide) (fun c => absurd c (by decide)) (fun _ => ?_)
      refine Zw_iload_1 dX11_not0_75 ?_
      refine Zw_ireturn dX11_not0_76 (by first | rfl | assumption) ?_
      exact hF _ _ _ _ (by rw [dN_s, d_not, if_neg k3, e1]; rfl) x1
    · refine Zw_istore_1 dX11_not0_56 rfl ?_
      refine Zw_aload_0 dX11_not0_57 ?_
      refine Zw_bipush (v := 60) dX11_not0_58 (by decide) ?_
      refine Zw_V1 (k := 0) lm_X11_199 dX11_not0_60 (by decide) (by first | decide | assumption | omega) (by first | rfl | assumption) (by rfl) (Nat.le_of_ble_eq_true rfl) ?_
      refine s_sign (tk := 4) I1.2.2.2.2.1 I1.2.2.2.2.2 (by decide) (by decide) (fun k4 => ?_) (fun k4 => ?_)
      · refine Zw_if_ne 77 dX11_not0_63 (by decide) (fun _ => ?_) (fun c => absurd c (by decide))
        have hw : τ1 = (60 : Int32).toInt64 := m_wo I1.2.2.2.2.2 k4 (by decide) (by decide)
        refine Zw_aload_0 dX11_not0_77 ?_
        refine Zw_getl lf_X11_154 dX11_not0_78 (by first | decide | assumption | omega) (by first | rfl | assumption) (by rfl) ?_
        refine Zw_ldc2 dX11_not0_81 zw18 ?_
        refine Zw_lcmp dX11_not0_84 ?_
        refine Zw_if_ne 92 dX11_not0_85 (by decide) (fun c85 => absurd c85 (fun e => e ((lg_e _ _).mpr hw))) (fun c85 => ?_)
        refine Zw_iconst (v := 1) dX11_not0_88 (by decide) ?_
        refine Zw_goto 93 dX11_not0_89 (by decide) ?_
        refine Zw_istore_2 dX11_not0_93 rfl ?_
        refine Zw_aload_0 dX11_not0_94 ?_
        refine Zw_V0 (k := 1) lm_X11_174 dX11_not0_95 (by decide) (by first | decide | assumption | omega) (by first | rfl | assumption) (by rfl) (Nat.le_of_ble_eq_true rfl) ?_
        refine s_nx I1 (by omega) (by omega) (fun μ2 τ2 o2 I2 => ?_)
        refine Zw_aload_0 dX11_not0_98 ?_
        refine Zw_V0 (k := 36) lm_X11_310 dX11_not0_99 (by decide) (by first | decide | assumption | omega) (by first | rfl | assumption) (by rfl) (Nat.le_of_ble_eq_true rfl) ?_
        refine s_added0 I2 (fun f3 v3 μ3 τ3 e3 x3 => ?_) (fun v3 c3 q3 μ3 τ3 e3 o3 I3 => ?_)
        · refine Zw_istore_3 dX11_not0_102 rfl ?_
          refine Zw_iload_2 dX11_not0_103 ?_
          refine Zw_if_eq 115 dX11_not0_104 (by decide) (fun c => absurd c (by decide)) (fun _ => ?_)
          refine Zw_iload_1 dX11_not0_107 ?_
          refine Zw_iload_3 dX11_not0_108 ?_
          refine Zw_icmp_ge 124 dX11_not0_109 (by decide) (fun c109 => ?_) (fun c109 => ?_)
          · refine Zw_iconst (v := 0) dX11_not0_124 (by decide) ?_
            refine Zw_ireturn dX11_not0_125 (by first | rfl | assumption) ?_
            exact hF _ _ _ _ (by rw [dN_s, d_not, if_neg k3, e1]; show d_cmp b n _ (.inr (v1, c1, q1)) = _; unfold d_cmp; dsimp only; rw [if_pos (by omega), e3, k4, d_jn]) (mX.tr (o1.tr o2) x3)
          · refine Zw_goto 120 dX11_not0_112 (by decide) ?_
            refine Zw_iconst (v := 1) dX11_not0_120 (by decide) ?_
            refine Zw_goto 125 dX11_not0_121 (by decide) ?_
            refine Zw_ireturn dX11_not0_125 (by first | rfl | assumption) ?_
            exact hF _ _ _ _ (by rw [dN_s, d_not, if_neg k3, e1]; show d_cmp b n _ (.inr (v1, c1, q1)) = _; unfold d_cmp; dsimp only; rw [if_pos (by omega), e3, k4, d_jn]) (mX.tr (o1.tr o2) x3)
        · refine Zw_istore_3 dX11_not0_102 rfl ?_
          refine Zw_iload_2 dX11_not0_103 ?_
          refine Zw_if_eq 115 dX11_not0_104 (by decide) (fun c => absurd c (by decide)) (fun _ => ?_)
          refine Zw_iload_1 dX11_not0_107 ?_
          refine Zw_iload_3 dX11_not0_108 ?_
          refine Zw_icmp_ge 124 dX11_not0_109 (by decide) (fun c109 => ?_) (fun c109 => ?_)
          · refine Zw_iconst (v := 0) dX11_not0_124 (by decide) ?_
            refine Zw_ireturn dX11_not0_125 (by first | rfl | assumption) ?_
            exact hD _ _ _ _ _ (by rw [dN_s, d_not, if_neg k3, e1]; show d_cmp b n _ (.inr (v1, c1, q1)) = _; unfold d_cmp; dsimp only; rw [if_pos (by omega), e3, k4, d_jn, qj4, if_neg (Int32.not_lt.mpr c109)]) ((o1.tr o2).tr o3) I3
          · refine Zw_goto 120 dX11_not0_112 (by decide) ?_
            refine Zw_iconst (v := 1) dX11_not0_120 (by decide) ?_
            refine Zw_goto 125 dX11_not0_121 (by decide) ?_
            refine Zw_ireturn dX11_not0_125 (by first | rfl | assumption) ?_
            exact hD _ _ _ _ _ (by rw [dN_s, d_not, if_neg k3, e1]; show d_cmp b n _ (.inr (v1, c1, q1)) = _; unfold d_cmp; dsimp only; rw [if_pos (by omega), e3, k4, d_jn, qj4, if_pos (Int32.not_le.mp c109)]) ((o1.tr o2).tr o3) I3
      · refine Zw_if_ne 77 dX11_not0_63 (by decide) (fun c => absurd c (by decide)) (fun _ => ?_)
        refine Zw_aload_0 dX11_not0_66 ?_
        refine Zw_bipush (v := 61) dX11_not0_67 (by decide) ?_
        refine Zw_V1 (k := 0) lm_X11_199 dX11_not0_69 (by decide) (by first | decide | assumption | omega) (by first | rfl | assumption) (by rfl) (Nat.le_of_ble_eq_true rfl) ?_
        refine s_sign (tk := 5) I1.2.2.2.2.1 I1.2.2.2.2.2 (by decide) (by decide) (fun k5 => ?_) (fun k5 => ?_)
        · refine Zw_if_ne 77 dX11_not0_72 (by decide) (fun _ => ?_) (fun c => absurd c (by decide))
          have hw : τ1 = (61 : Int32).toInt64 := m_wo I1.2.2.2.2.2 k5 (by decide) (by decide)
          refine Zw_aload_0 dX11_not0_77 ?_
          refine Zw_getl lf_X11_154 dX11_not0_78 (by first | decide | assumption | omega) (by first | rfl | assumption) (by rfl) ?_
          refine Zw_ldc2 dX11_not0_81 zw18 ?_
          refine Zw_lcmp dX11_not0_84 ?_
          refine Zw_if_ne 92 dX11_not0_85 (by decide) (fun c85 => ?_) (fun c85 => absurd c85 (fun e => absurd (hw.symm.trans ((lg_e _ _).mp e)) (by decide)))
          refine Zw_iconst (v := 0) dX11_not0_92 (by decide) ?_
          refine Zw_istore_2 dX11_not0_93 rfl ?_
          refine Zw_aload_0 dX11_not0_94 ?_
          refine Zw_V0 (k := 1) lm_X11_174 dX11_not0_95 (by decide) (by first | decide | assumption | omega) (by first | rfl | assumption) (by rfl) (Nat.le_of_ble_eq_true rfl) ?_
          refine s_nx I1 (by omega) (by omega) (fun μ2 τ2 o2 I2 => ?_)
          refine Zw_aload_0 dX11_not0_98 ?_
          refine Zw_V0 (k := 36) lm_X11_310 dX11_not0_99 (by decide) (by first | decide | assumption | omega) (by first | rfl | assumption) (by rfl) (Nat.le_of_ble_eq_true rfl) ?_
          refine s_added0 I2 (fun f3 v3 μ3 τ3 e3 x3 => ?_) (fun v3 c3 q3 μ3 τ3 e3 o3 I3 => ?_)
          · refine Zw_istore_3 dX11_not0_102 rfl ?_
            refine Zw_iload_2 dX11_not0_103 ?_
            refine Zw_if_eq 115 dX11_not0_104 (by decide) (fun _ => ?_) (fun c => absurd c (by decide))
            refine Zw_iload_1 dX11_not0_115 ?_
            refine Zw_iload_3 dX11_not0_116 ?_
            refine Zw_icmp_ne 124 dX11_not0_117 (by decide) (fun c117 => ?_) (fun c117 => ?_)
            · refine Zw_iconst (v := 0) dX11_not0_124 (by decide) ?_
              refine Zw_ireturn dX11_not0_125 (by first | rfl | assumption) ?_
              exact hF _ _ _ _ (by rw [dN_s, d_not, if_neg k3, e1]; show d_cmp b n _ (.inr (v1, c1, q1)) = _; unfold d_cmp; dsimp only; rw [if_pos (by omega), e3, k5, d_jn]) (mX.tr (o1.tr o2) x3)
            · refine Zw_iconst (v := 1) dX11_not0_120 (by decide) ?_
              refine Zw_goto 125 dX11_not0_121 (by decide) ?_
              refine Zw_ireturn dX11_not0_125 (by first | rfl | assumption) ?_
              exact hF _ _ _ _ (by rw [dN_s, d_not, if_neg k3, e1]; show d_cmp b n _ (.inr (v1, c1, q1)) = _; unfold d_cmp; dsimp only; rw [if_pos (by omega), e3, k5, d_jn]) (mX.tr (o1.tr o2) x3)
          · refine Zw_istore_3 dX11_not0_102 rfl ?_
            refine Zw_iload_2 dX11_not0_103 ?_
            refine Zw_if_eq 115 dX11_not0_104 (by decide) (fun _ => ?_) (fun c => absurd c (by decide))
            refine Zw_iload_1 dX11_not0_115 ?_
            refine Zw_iload_3 dX11_not0_116 ?_
            refine Zw_icmp_ne 124 dX11_not0_117 (by decide) (fun c117 => ?_) (fun c117 => ?_)
            · refine Zw_iconst (v := 0) dX11_not0_124 (by decide) ?_
              refine Zw_ireturn dX11_not0_125 (by first | rfl | assumption) ?_
              exact hD _ _ _ _ _ (by rw [dN_s, d_not, if_neg k3, e1]; show d_cmp b n _ (.inr (v1, c1, q1)) = _; unfold d_cmp; dsimp only; rw [if_pos (by omega), e3, k5, d_jn, qj5, if_neg c117]) ((o1.tr o2).tr o3) I3
            · refine Zw_iconst (v := 1) dX11_not0_120 (by decide) ?_
              refine Zw_goto 125 dX11_not0_121 (by decide) ?_
              refine Zw_ireturn dX11_not0_125 (by first | rfl | assumption) ?_
              exact hD _ _ _ _ _ (by rw [dN_s, d_not, if_neg k3, e1]; show d_cmp b n _ (.inr (v1, c1, q1)) = _; unfold d_cmp; dsimp only; rw [if_pos (by omega), e3, k5, d_jn, qj5, if_pos c117]) ((o1.tr o2).tr o3) I3
        · refine Zw_if_ne 77 dX11_not0_72 (by decide) (fun c => absurd c (by decide)) (fun _ => ?_)
          refine Zw_iload_1 dX11_not0_75 ?_
          refine Zw_ireturn dX11_not0_76 (by first | rfl | assumption) ?_
          exact hD _ _ _ _ _ (by rw [dN_s, d_not, if_neg k3, e1]; show d_cmp b n _ (.inr (v1, c1, q1)) = _; unfold d_cmp; dsimp only; rw [if_neg (by omega)]) o1 I1
set_option maxRecDepth 20000 in
theorem l_both0 {Q : zQ} {fr n : Nat} {b nm : Nat → Int32} {μ0 : zMu} {R : dR} (hF : ∀ f v μ2 τ2, R = .inl f → mX μ0 μ2 f → Q (some (.int v)) μ2 τ2) (hD : ∀ v c q μ2 τ2, R = .inr (v, c, q) → mOff μ0 μ2 → mI fr n 0 b nm μ2 τ2 q → Q (some (.int v)) μ2 τ2) : ∀ m v c q μ τ, 161 ≤ m + q → mOff μ0 μ → mI fr n 0 b nm μ τ q → d_loop b n t_and (dN b nm n 5) m v c q = R → Zw 38 RX11 cX11_both0 3 (some .int) Q 5 [.ref 61, .int v, .null] [] μ τ
  | 0, v, c, q, μ, τ, hm, hO, hI, hR => absurd hm (by have := hI.2.1; have := hI.1.2.1; omega)
  | m + 1, v, c, q, μ, τ, hm, hO, hI, hR => by
    have hqn := hI.2.1
    refine Zw_aload_0 dX11_both0_5 ?_
    refine Zw_bipush (v := 97) dX11_both0_6 (by decide) ?_
    refine Zw_bipush (v := 110) dX11_both0_8 (by decide) ?_
    refine Zw_bipush (v := 100) dX11_both0_10 (by decide) ?_
    refine Zw_iconst (v := 0) dX11_both0_12 (by decide) ?_
    refine Zw_iconst (v := 0) dX11_both0_13 (by decide) ?_
    refine Zw_iconst (v := 0) dX11_both0_14 (by decide) ?_
    refine Zw_iconst (v := 0) dX11_both0_15 (by decide) ?_
    refine Zw_iconst (v := 0) dX11_both0_16 (by decide) ?_
    refine Zw_V8 (k := 2) lm_X11_177 dX11_both0_17 (by decide) (by first | decide | assumption | omega) (by first | rfl | assumption) (by rfl) (Nat.le_of_ble_eq_true rfl) ?_
    refine s_word (w := 4) hI.1 hI.2.1 hI.2.2.2.2.1 hI.2.2.2.2.2 (by decide) (by decide +kernel) (fun k2 => ?_) (fun k2 => ?_)
    all_goals rw [mw_tok (by decide), show k_wt 4 = 2 from rfl] at k2
    have ht : t_and (k_tok b n q) = true := decide_eq_true k2
    rotate_left
    have ht : ¬ t_and (k_tok b n q) = true := fun e => k2 (of_decide_eq_true e)
    rotate_right
    · refine Zw_if_eq 49 dX11_both0_20 (by decide) (fun c => absurd c (by decide)) (fun _ => ?_)
      refine Zw_aload_0 dX11_both0_23 ?_
      refine Zw_V0 (k := 1) lm_X11_174 dX11_both0_24 (by decide) (by first | decide | assumption | omega) (by first | rfl | assumption) (by rfl) (Nat.le_of_ble_eq_true rfl) ?_
      refine s_nx hI (by omega) (by omega) (fun μ2 τ2 o2 I2 => ?_)
      have hup := k_nx_up (b := b) (n := n) (i := q) (by omega)
      refine Zw_aload_0 dX11_both0_27 ?_
      refine Zw_V0 (k := 37) lm_X11_313 dX11_both0_28 (by decide) (by first | decide | assumption | omega) (by first | rfl | assumption) (by rfl) (Nat.le_of_ble_eq_true rfl) ?_
      refine s_not0 I2 (fun f1 v1 μ1 τ1 e1 x1 => ?_) (fun v1 c1 q1 μ1 τ1 e1 o1 I1 => ?_)
      · refine Zw_istore_2 dX11_both0_31 rfl ?_
        refine Zw_iload_1 dX11_both0_32 ?_
        refine Zw_if_eq 44 dX11_both0_33 (by decide) (fun c33 => ?_) (fun c33 => ?_)
        · refine Zw_iconst (v := 0) dX11_both0_44 (by decide) ?_
          refine Zw_istore_1 dX11_both0_45 rfl ?_
          refine Zw_goto 5 dX11_both0_46 (by decide) ?_
          refine Zw_aload_0 dX11_both0_5 ?_
          refine Zw_bipush (v := 97) dX11_both0_6 (by decide) ?_
          refine Zw_bipush (v := 110) dX11_both0_8 (by decide) ?_
          refine Zw_bipush (v := 100) dX11_both0_10 (by decide) ?_
          refine Zw_iconst (v := 0) dX11_both0_12 (by decide) ?_
          refine Zw_iconst (v := 0) dX11_both0_13 (by decide) ?_
          refine Zw_iconst (v := 0) dX11_both0_14 (by decide) ?_
          refine Zw_iconst (v := 0) dX11_both0_15 (by decide) ?_
          refine Zw_iconst (v := 0) dX11_both0_16 (by decide) ?_
          refine Zw_V8 (k := 2) lm_X11_177 dX11_both0_17 (by decide) (by first | decide | assumption | omega) (by first | rfl | assumption) (by rfl) (Nat.le_of_ble_eq_true rfl) ?_
          refine s_wordB x1.2.1 ?_
          refine Zw_if_eq 49 dX11_both0_20 (by decide) (fun _ => ?_) (fun c => absurd c (by decide))
          refine Zw_iload_1 dX11_both0_49 ?_
          refine Zw_ireturn dX11_both0_50 (by first | rfl | assumption) ?_
          rw [d_loop_s, if_pos ht, e1] at hR
          exact hF _ _ _ _ hR.symm (mX.tr (hO.tr o2) x1)
        · refine Zw_iload_2 dX11_both0_36 ?_
          refine Zw_if_eq 44 dX11_both0_37 (by decide) (fun c37 => ?_) (fun c37 => ?_)
          · refine Zw_iconst (v := 0) dX11_both0_44 (by decide) ?_
            refine Zw_istore_1 dX11_both0_45 rfl ?_
            refine Zw_goto 5 dX11_both0_46 (by decide) ?_
            refine Zw_aload_0 dX11_both0_5 ?_
            refine Zw_bipush (v := 97) dX11_both0_6 (by decide) ?_
            refine Zw_bipush (v := 110) dX11_both0_8 (by decide) ?_
            refine Zw_bipush (v := 100) dX11_both0_10 (by decide) ?_
            refine Zw_iconst (v := 0) dX11_both0_12 (by decide) ?_
            refine Zw_iconst (v := 0) dX11_both0_13 (by decide) ?_
            refine Zw_iconst (v := 0) dX11_both0_14 (by decide) ?_
            refine Zw_iconst (v := 0) dX11_both0_15 (by decide) ?_
            refine Zw_iconst (v := 0) dX11_both0_16 (by decide) ?_
            refine Zw_V8 (k := 2) lm_X11_177 dX11_both0_17 (by decide) (by first | decide | assumption | omega) (by first | rfl | assumption) (by rfl) (Nat.le_of_ble_eq_true rfl) ?_
            refine s_wordB x1.2.1 ?_
            refine Zw_if_eq 49 dX11_both0_20 (by decide) (fun _ => ?_) (fun c => absurd c (by decide))
            refine Zw_iload_1 dX11_both0_49 ?_
            refine Zw_ireturn dX11_both0_50 (by first | rfl | assumption) ?_
            rw [d_loop_s, if_pos ht, e1] at hR
            exact hF _ _ _ _ hR.symm (mX.tr (hO.tr o2) x1)
          · refine Zw_iconst (v := 1) dX11_both0_40 (by decide) ?_
            refine Zw_goto 45 dX11_both0_41 (by decide) ?_
            refine Zw_istore_1 dX11_both0_45 rfl ?_
            refine Zw_goto 5 dX11_both0_46 (by decide) ?_
            refine Zw_aload_0 dX11_both0_5 ?_
            refine Zw_bipush (v := 97) dX11_both0_6 (by decide) ?_
            refine Zw_bipush (v := 110) dX11_both0_8 (by decide) ?_
            refine Zw_bipush (v := 100) dX11_both0_10 (by decide) ?_
            refine Zw_iconst (v := 0) dX11_both0_12 (by decide) ?_
            refine Zw_iconst (v := 0) dX11_both0_13 (by decide) ?_
            refine Zw_iconst (v := 0) dX11_both0_14 (by decide) ?_
            refine Zw_iconst (v := 0) dX11_both0_15 (by decide) ?_
            refine Zw_iconst (v := 0) dX11_both0_16 (by decide) ?_
            refine Zw_V8 (k := 2) lm_X11_177 dX11_both0_17 (by decide) (by first | decide | assumption | omega) (by first | rfl | assumption) (by rfl) (Nat.le_of_ble_eq_true rfl) ?_
            refine s_wordB x1.2.1 ?_
            refine Zw_if_eq 49 dX11_both0_20 (by decide) (fun _ => ?_) (fun c => absurd c (by decide))
            refine Zw_iload_1 dX11_both0_49 ?_
            refine Zw_ireturn dX11_both0_50 (by first | rfl | assumption) ?_
            rw [d_loop_s, if_pos ht, e1] at hR
            exact hF _ _ _ _ hR.symm (mX.tr (hO.tr o2) x1)
      · refine Zw_istore_2 dX11_both0_31 rfl ?_
        refine Zw_iload_1 dX11_both0_32 ?_
        refine Zw_if_eq 44 dX11_both0_33 (by decide) (fun c33 => ?_) (fun c33 => ?_)
        · refine Zw_iconst (v := 0) dX11_both0_44 (by decide) ?_
          refine Zw_istore_1 dX11_both0_45 rfl ?_
          refine Zw_goto 5 dX11_both0_46 (by decide) ?_
          rw [show (0 : Int32) = q_joined (nI 2) v v1 by rw [qj2, if_neg (fun e => e.1 c33)]]
          refine Zw_drop (L' := [.ref 61, .int (q_joined (nI 2) v v1), .null]) ⟨Or.inr rfl, Or.inr rfl, Or.inl rfl, trivial⟩ (Nat.le_of_ble_eq_true rfl) ?_
          rw [d_loop_s, if_pos ht, e1] at hR
          rw [k2, d_jn] at hR
          have hup1 := dN_up b nm n 5 _ _ _ _ hup.2 e1
          exact l_both0 hF hD m _ _ q1 μ1 τ1 (by omega) ((hO.tr o2).tr o1) I1 hR
        · refine Zw_iload_2 dX11_both0_36 ?_
          refine Zw_if_eq 44 dX11_both0_37 (by decide) (fun c37 => ?_) (fun c37 => ?_)
          · refine Zw_iconst (v := 0) dX11_both0_44 (by decide) ?_
            refine Zw_istore_1 dX11_both0_45 rfl ?_
            refine Zw_goto 5 dX11_both0_46 (by decide) ?_
            rw [show (0 : Int32) = q_joined (nI 2) v v1 by rw [qj2, if_neg (fun e => e.2 c37)]]
            refine Zw_drop (L' := [.ref 61, .int (q_joined (nI 2) v v1), .null]) ⟨Or.inr rfl, Or.inr rfl, Or.inl rfl, trivial⟩ (Nat.le_of_ble_eq_true rfl) ?_
            rw [d_loop_s, if_pos ht, e1] at hR
            rw [k2, d_jn] at hR
            have hup1 := dN_up b nm n 5 _ _ _ _ hup.2 e1
            exact l_both0 hF hD m _ _ q1 μ1 τ1 (by omega) ((hO.tr o2).tr o1) I1 hR
          · refine Zw_iconst (v := 1) dX11_both0_40 (by decide) ?_
            refine Zw_goto 45 dX11_both0_41 (by decide) ?_
            refine Zw_istore_1 dX11_both0_45 rfl ?_
            refine Zw_goto 5 dX11_both0_46 (by decide) ?_
            rw [show (1 : Int32) = q_joined (nI 2) v v1 by rw [qj2, if_pos ⟨c33, c37⟩]]
            refine Zw_drop (L' := [.ref 61, .int (q_joined (nI 2) v v1), .null]) ⟨Or.inr rfl, Or.inr rfl, Or.inl rfl, trivial⟩ (Nat.le_of_ble_eq_true rfl) ?_
            rw [d_loop_s, if_pos ht, e1] at hR
            rw [k2, d_jn] at hR
            have hup1 := dN_up b nm n 5 _ _ _ _ hup.2 e1
            exact l_both0 hF hD m _ _ q1 μ1 τ1 (by omega) ((hO.tr o2).tr o1) I1 hR
    · refine Zw_if_eq 49 dX11_both0_20 (by decide) (fun _ => ?_) (fun c => absurd c (by decide))
      refine Zw_iload_1 dX11_both0_49 ?_
      refine Zw_ireturn dX11_both0_50 (by first | rfl | assumption) ?_
      rw [d_loop_s, if_neg ht] at hR
      exact hD _ _ _ _ _ hR.symm hO hI
set_option maxRecDepth 20000 in
theorem s_both0 {fr n pos : Nat} {b nm : Nat → Int32} {Q : zQ} {μ : zMu} {τ : Int64} (hI : mI fr n 0 b nm μ τ pos) (hF : ∀ f v μ2 τ2, dB b nm n 5 pos = .inl f → mX μ μ2 f → Q (some (.int v)) μ2 τ2) (hD : ∀ v c q μ2 τ2, dB b nm n 5 pos = .inr (v, c, q) → mOff μ μ2 → mI fr n 0 b nm μ2 τ2 q → Q (some (.int v)) μ2 τ2) : Zc 38 yX11_both0 cX11_both0 3 (some .int) [.ref 61] μ τ Q := by
  refine Zc.mk 2 [.ref 61, .null, .null] rfl (by decide) (Nat.le_of_ble_eq_true rfl) ?_
  refine Zw_aload_0 dX11_both0_0 ?_
  refine Zw_V0 (k := 37) lm_X11_313 dX11_both0_1 (by decide) (by first | decide | assumption | omega) (by first | rfl | assumption) (by rfl) (Nat.le_of_ble_eq_true rfl) ?_
  refine s_not0 hI (fun f0 v0 μ0 τ0 e0 x0 => ?_) (fun v0 c0 q0 μ0 τ0 e0 o0 I0 => ?_)
  · refine Zw_istore_1 dX11_both0_4 rfl ?_
    refine Zw_aload_0 dX11_both0_5 ?_
    refine Zw_bipush (v := 97) dX11_both0_6 (by decide) ?_
    refine Zw_bipush (v := 110) dX11_both0_8 (by decide) ?_
    refine Zw_bipush (v := 100) dX11_both0_10 (by decide) ?_
    refine Zw_iconst (v := 0) dX11_both0_12 (by decide) ?_
    refine Zw_iconst (v := 0) dX11_both0_13 (by decide) ?_
    refine Zw_iconst (v := 0) dX11_both0_14 (by decide) ?_
    refine Zw_iconst (v := 0) dX11_both0_15 (by decide) ?_
    refine Zw_iconst (v := 0) dX11_both0_16 (by decide) ?_
    refine Zw_V8 (k := 2) lm_X11_177 dX11_both0_17 (by decide) (by first | decide | assumption | omega) (by first | rfl | assumption) (by rfl) (Nat.le_of_ble_eq_true rfl) ?_
    refine s_wordB x0.2.1 ?_
    refine Zw_if_eq 49 dX11_both0_20 (by decide) (fun _ => ?_) (fun c => absurd c (by decide))
    refine Zw_iload_1 dX11_both0_49 ?_
    refine Zw_ireturn dX11_both0_50 (by first | rfl | assumption) ?_
    exact hF _ _ _ _ (by unfold dB; unfold d_bin; rw [e0]) x0
  · refine Zw_istore_1 dX11_both0_4 rfl ?_
    exact l_both0 (μ0 := μ) (R := dB b nm n 5 pos) hF hD 161 v0 c0 q0 μ0 τ0 (by omega) o0 I0 (by unfold dB; unfold d_bin; rw [e0])
set_option maxRecDepth 20000 in
theorem l_either0 {Q : zQ} {fr n : Nat} {b nm : Nat → Int32} {μ0 : zMu} {R : dR} (hF : ∀ f v μ2 τ2, R = .inl f → mX μ0 μ2 f → Q (some (.int v)) μ2 τ2) (hD : ∀ v c q μ2 τ2, R = .inr (v, c, q) → mOff μ0 μ2 → mI fr n 0 b nm μ2 τ2 q → Q (some (.int v)) μ2 τ2) : ∀ m v c q μ τ, 161 ≤ m + q → mOff μ0 μ → mI fr n 0 b nm μ τ q → d_loop b n t_or (dB b nm n 5) m v c q = R → Zw 39 RX11 cX11_either0 3 (some .int) Q 5 [.ref 61, .int v, .null] [] μ τ
  | 0, v, c, q, μ, τ, hm, hO, hI, hR => absurd hm (by have := hI.2.1; have := hI.1.2.1; omega)
  | m + 1, v, c, q, μ, τ, hm, hO, hI, hR => by
    have hqn := hI.2.1
    refine Zw_aload_0 dX11_either0_5 ?_
    refine Zw_bipush (v := 111) dX11_either0_6 (by decide) ?_
    refine Zw_bipush (v := 114) dX11_either0_8 (by decide) ?_
    refine Zw_iconst (v := 0) dX11_either0_10 (by decide) ?_
    refine Zw_iconst (v := 0) dX11_either0_11 (by decide) ?_
    refine Zw_iconst (v := 0) dX11_either0_12 (by decide) ?_
    refine Zw_iconst (v := 0) dX11_either0_13 (by decide) ?_
    refine Zw_iconst (v := 0) dX11_either0_14 (by decide) ?_
    refine Zw_iconst (v := 0) dX11_either0_15 (by decide) ?_
    refine Zw_V8 (k := 2) lm_X11_177 dX11_either0_16 (by decide) (by first | decide | assumption | omega) (by first | rfl | assumption) (by rfl) (Nat.le_of_ble_eq_true rfl) ?_
    refine s_word (w := 3) hI.1 hI.2.1 hI.2.2.2.2.1 hI.2.2.2.2.2 (by decide) (by decide +kernel) (fun k1 => ?_) (fun k1 => ?_)
    all_goals rw [mw_tok (by decide), show k_wt 3 = 1 from rfl] at k1
    have ht : t_or (k_tok b n q) = true := decide_eq_true k1
    rotate_left
    have ht : ¬ t_or (k_tok b n q) = true := fun e => k1 (of_decide_eq_true e)
    rotate_right
    · refine Zw_if_eq 48 dX11_either0_19 (by decide) (fun c => absurd c (by decide)) (fun _ => ?_)
      refine Zw_aload_0 dX11_either0_22 ?_
      refine Zw_V0 (k := 1) lm_X11_174 dX11_either0_23 (by decide) (by first | decide | assumption | omega) (by first | rfl | assumption) (by rfl) (Nat.le_of_ble_eq_true rfl) ?_
      refine s_nx hI (by omega) (by omega) (fun μ2 τ2 o2 I2 => ?_)
      have hup := k_nx_up (b := b) (n := n) (i := q) (by omega)
      refine Zw_aload_0 dX11_either0_26 ?_
      refine Zw_V0 (k := 38) lm_X11_316 dX11_either0_27 (by decide) (by first | decide | assumption | omega) (by first | rfl | assumption) (by rfl) (Nat.le_of_ble_eq_true rfl) ?_
      refine s_both0 I2 (fun f1 v1 μ1 τ1 e1 x1 => ?_) (fun v1 c1 q1 μ1 τ1 e1 o1 I1 => ?_)
      · refine Zw_istore_2 dX11_either0_30 rfl ?_
        refine Zw_iload_1 dX11_either0_31 ?_
        refine Zw_if_ne 39 dX11_either0_32 (by decide) (fun c32 => ?_) (fun c32 => ?_)
        · refine Zw_iconst (v := 1) dX11_either0_39 (by decide) ?_
          refine Zw_goto 44 dX11_either0_40 (by decide) ?_
          refine Zw_istore_1 dX11_either0_44 rfl ?_
          refine Zw_goto 5 dX11_either0_45 (by decide) ?_
          refine Zw_aload_0 dX11_either0_5 ?_
          refine Zw_bipush (v := 111) dX11_either0_6 (by decide) ?_
          refine Zw_bipush (v := 114) dX11_either0_8 (by decide) ?_
          refine Zw_iconst (v := 0) dX11_either0_10 (by decide) ?_
          refine Zw_iconst (v := 0) dX11_either0_11 (by decide) ?_
          refine Zw_iconst (v := 0) dX11_either0_12 (by decide) ?_
          refine Zw_iconst (v := 0) dX11_either0_13 (by decide) ?_
          refine Zw_iconst (v := 0) dX11_either0_14 (by decide) ?_
          refine Zw_iconst (v := 0) dX11_either0_15 (by decide) ?_
          refine Zw_V8 (k := 2) lm_X11_177 dX11_either0_16 (by decide) (by first | decide | assumption | omega) (by first | rfl | assumption) (by rfl) (Nat.le_of_ble_eq_true rfl) ?_
          refine s_wordB x1.2.1 ?_
          refine Zw_if_eq 48 dX11_either0_19 (by decide) (fun _ => ?_) (fun c => absurd c (by decide))
          refine Zw_iload_1 dX11_either0_48 ?_
          refine Zw_ireturn dX11_either0_49 (by first | rfl | assumption) ?_
          rw [d_loop_s, if_pos ht, e1] at hR
          exact hF _ _ _ _ hR.symm (mX.tr (hO.tr o2) x1)
        · refine Zw_iload_2 dX11_either0_35 ?_
          refine Zw_if_eq 43 dX11_either0_36 (by decide) (fun c36 => ?_) (fun c36 => ?_)
          · refine Zw_iconst (v := 0) dX11_either0_43 (by decide) ?_
            refine Zw_istore_1 dX11_either0_44 rfl ?_
            refine Zw_goto 5 dX11_either0_45 (by decide) ?_
            refine Zw_aload_0 dX11_either0_5 ?_
            refine Zw_bipush (v := 111) dX11_either0_6 (by decide) ?_
            refine Zw_bipush (v := 114) dX11_either0_8 (by decide) ?_
            refine Zw_iconst (v := 0) dX11_either0_10 (by decide) ?_
            refine Zw_iconst (v := 0) dX11_either0_11 (by decide) ?_
            refine Zw_iconst (v := 0) dX11_either0_12 (by decide) ?_
            refine Zw_iconst (v := 0) dX11_either0_13 (by decide) ?_
            refine Zw_iconst (v := 0) dX11_either0_14 (by decide) ?_
            refine Zw_iconst (v := 0) dX11_either0_15 (by decide) ?_
            refine Zw_V8 (k := 2) lm_X11_177 dX11_either0_16 (by decide) (by first | decide | assumption | omega) (by first | rfl | assumption) (by rfl) (Nat.le_of_ble_eq_true rfl) ?_
            refine s_wordB x1.2.1 ?_
            refine Zw_if_eq 48 dX11_either0_19 (by decide) (fun _ => ?_) (fun c => absurd c (by decide))
            refine Zw_iload_1 dX11_either0_48 ?_
            refine Zw_ireturn dX11_either0_49 (by first | rfl | assumption) ?_
            rw [d_loop_s, if_pos ht, e1] at hR
            exact hF _ _ _ _ hR.symm (mX.tr (hO.tr o2) x1)
          · refine Zw_iconst (v := 1) dX11_either0_39 (by decide) ?_
            refine Zw_goto 44 dX11_either0_40 (by decide) ?_
            refine Zw_istore_1 dX11_either0_44 rfl ?_
            refine Zw_goto 5 dX11_either0_45 (by decide) ?_
            refine Zw_aload_0 dX11_either0_5 ?_
            refine Zw_bipush (v := 111) dX11_either0_6 (by decide) ?_
            refine Zw_bipush (v := 114) dX11_either0_8 (by decide) ?_
            refine Zw_iconst (v := 0) dX11_either0_10 (by decide) ?_
            refine Zw_iconst (v := 0) dX11_either0_11 (by decide) ?_
            refine Zw_iconst (v := 0) dX11_either0_12 (by decide) ?_
            refine Zw_iconst (v := 0) dX11_either0_13 (by decide) ?_
            refine Zw_iconst (v := 0) dX11_either0_14 (by decide) ?_
            refine Zw_iconst (v := 0) dX11_either0_15 (by decide) ?_
            refine Zw_V8 (k := 2) lm_X11_177 dX11_either0_16 (by decide) (by first | decide | assumption | omega) (by first | rfl | assumption) (by rfl) (Nat.le_of_ble_eq_true rfl) ?_
            refine s_wordB x1.2.1 ?_
            refine Zw_if_eq 48 dX11_either0_19 (by decide) (fun _ => ?_) (fun c => absurd c (by decide))
            refine Zw_iload_1 dX11_either0_48 ?_
            refine Zw_ireturn dX11_either0_49 (by first | rfl | assumption) ?_
            rw [d_loop_s, if_pos ht, e1] at hR
            exact hF _ _ _ _ hR.symm (mX.tr (hO.tr o2) x1)
      · refine Zw_istore_2 dX11_either0_30 rfl ?_
        refine Zw_iload_1 dX11_either0_31 ?_
        refine Zw_if_ne 39 dX11_either0_32 (by decide) (fun c32 => ?_) (fun c32 => ?_)
        · refine Zw_iconst (v := 1) dX11_either0_39 (by decide) ?_
          refine Zw_goto 44 dX11_either0_40 (by decide) ?_
          refine Zw_istore_1 dX11_either0_44 rfl ?_
          refine Zw_goto 5 dX11_either0_45 (by decide) ?_
          rw [show (1 : Int32) = q_joined (nI 1) v v1 by rw [qj1, if_pos (Or.inl c32)]]
          refine Zw_drop (L' := [.ref 61, .int (q_joined (nI 1) v v1), .null]) ⟨Or.inr rfl, Or.inr rfl, Or.inl rfl, trivial⟩ (Nat.le_of_ble_eq_true rfl) ?_
          rw [d_loop_s, if_pos ht, e1] at hR
          rw [k1, d_jn] at hR
          have hup1 := dB_up b nm n 5 _ _ _ _ hup.2 e1
          exact l_either0 hF hD m _ _ q1 μ1 τ1 (by omega) ((hO.tr o2).tr o1) I1 hR
        · refine Zw_iload_2 dX11_either0_35 ?_
          refine Zw_if_eq 43 dX11_either0_36 (by decide) (fun c36 => ?_) (fun c36 => ?_)
          · refine Zw_iconst (v := 0) dX11_either0_43 (by decide) ?_
            refine Zw_istore_1 dX11_either0_44 rfl ?_
            refine Zw_goto 5 dX11_either0_45 (by decide) ?_
            rw [show (0 : Int32) = q_joined (nI 1) v v1 by rw [qj1, if_neg (fun e => e.elim (fun a => a c32) (fun a => a c36))]]
            refine Zw_drop (L' := [.ref 61, .int (q_joined (nI 1) v v1), .null]) ⟨Or.inr rfl, Or.inr rfl, Or.inl rfl, trivial⟩ (Nat.le_of_ble_eq_true rfl) ?_
            rw [d_loop_s, if_pos ht, e1] at hR
            rw [k1, d_jn] at hR
            have hup1 := dB_up b nm n 5 _ _ _ _ hup.2 e1
            exact l_either0 hF hD m _ _ q1 μ1 τ1 (by omega) ((hO.tr o2).tr o1) I1 hR
          · refine Zw_iconst (v := 1) dX11_either0_39 (by decide) ?_
            refine Zw_goto 44 dX11_either0_40 (by decide) ?_
            refine Zw_istore_1 dX11_either0_44 rfl ?_
            refine Zw_goto 5 dX11_either0_45 (by decide) ?_
            rw [show (1 : Int32) = q_joined (nI 1) v v1 by rw [qj1, if_pos (Or.inr c36)]]
            refine Zw_drop (L' := [.ref 61, .int (q_joined (nI 1) v v1), .null]) ⟨Or.inr rfl, Or.inr rfl, Or.inl rfl, trivial⟩ (Nat.le_of_ble_eq_true rfl) ?_
            rw [d_loop_s, if_pos ht, e1] at hR
            rw [k1, d_jn] at hR
            have hup1 := dB_up b nm n 5 _ _ _ _ hup.2 e1
            exact l_either0 hF hD m _ _ q1 μ1 τ1 (by omega) ((hO.tr o2).tr o1) I1 hR
    · refine Zw_if_eq 48 dX11_either0_19 (by decide) (fun _ => ?_) (fun c => absurd c (by decide))
      refine Zw_iload_1 dX11_either0_48 ?_
      refine Zw_ireturn dX11_either0_49 (by first | rfl | assumption) ?_
      rw [d_loop_s, if_neg ht] at hR
      exact hD _ _ _ _ _ hR.symm hO hI
set_option maxRecDepth 20000 in
theorem s_either0 {fr n pos : Nat} {b nm : Nat → Int32} {Q : zQ} {μ : zMu} {τ : Int64} (hI : mI fr n 0 b nm μ τ pos) (hF : ∀ f v μ2 τ2, dE b nm n 5 pos = .inl f → mX μ μ2 f → Q (some (.int v)) μ2 τ2) (hD : ∀ v c q μ2 τ2, dE b nm n 5 pos = .inr (v, c, q) → mOff μ μ2 → mI fr n 0 b nm μ2 τ2 q → Q (some (.int v)) μ2 τ2) : Zc 39 yX11_either0 cX11_either0 3 (some .int) [.ref 61] μ τ Q := by
  refine Zc.mk 2 [.ref 61, .null, .null] rfl (by decide) (Nat.le_of_ble_eq_true rfl) ?_
  refine Zw_aload_0 dX11_either0_0 ?_
  refine Zw_V0 (k := 38) lm_X11_316 dX11_either0_1 (by decide) (by first | decide | assumption | omega) (by first | rfl | assumption) (by rfl) (Nat.le_of_ble_eq_true rfl) ?_
  refine s_both0 hI (fun f0 v0 μ0 τ0 e0 x0 => ?_) (fun v0 c0 q0 μ0 τ0 e0 o0 I0 => ?_)
  · refine Zw_istore_1 dX11_either0_4 rfl ?_
    refine Zw_aload_0 dX11_either0_5 ?_
    refine Zw_bipush (v := 111) dX11_either0_6 (by decide) ?_
    refine Zw_bipush (v := 114) dX11_either0_8 (by decide) ?_
    refine Zw_iconst (v := 0) dX11_either0_10 (by decide) ?_
    refine Zw_iconst (v := 0) dX11_either0_11 (by decide) ?_
    refine Zw_iconst (v := 0) dX11_either0_12 (by decide) ?_
    refine Zw_iconst (v := 0) dX11_either0_13 (by decide) ?_
    refine Zw_iconst (v := 0) dX11_either0_14 (by decide) ?_
    refine Zw_iconst (v := 0) dX11_either0_15 (by decide) ?_
    refine Zw_V8 (k := 2) lm_X11_177 dX11_either0_16 (by decide) (by first | decide | assumption | omega) (by first | rfl | assumption) (by rfl) (Nat.le_of_ble_eq_true rfl) ?_
    refine s_wordB x0.2.1 ?_
    refine Zw_if_eq 48 dX11_either0_19 (by decide) (fun _ => ?_) (fun c => absurd c (by decide))
    refine Zw_iload_1 dX11_either0_48 ?_
    refine Zw_ireturn dX11_either0_49 (by first | rfl | assumption) ?_
    exact hF _ _ _ _ (by rw [dE_s]; unfold d_bin; rw [e0]) x0
  · refine Zw_istore_1 dX11_either0_4 rfl ?_
    exact l_either0 (μ0 := μ) (R := dE b nm n 5 pos) hF hD 161 v0 c0 q0 μ0 τ0 (by omega) o0 I0 (by rw [dE_s]; unfold d_bin; rw [e0])
