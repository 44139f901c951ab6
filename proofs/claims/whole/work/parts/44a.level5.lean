theorem m_wo {b : Nat → Int32} {n pos tk : Nat} {μ : zMu} {τ : Int64} {x : Int32} (hS : mS b n μ τ pos) (ht : k_tok b n pos = tk) (hx : k_sgn x = tk) (h19 : tk ≠ 19) : τ = x.toInt64 := by
  have h := (sg_iff hx h19).mpr ht
  rw [hS.2.2.2.2 h.1, h.2]
theorem nI_cl (j : Nat) (h : j < 6) : (nI j).toNatClampNeg = j := nI_clamp (by omega)
set_option maxRecDepth 20000 in
theorem s_atom5 {fr n pos : Nat} {b nm : Nat → Int32} {Q : zQ} {μ : zMu} {τ : Int64} (hI : mI fr n 5 b nm μ τ pos) (hF : ∀ f v μ2 τ2, dA b nm n 0 pos = .inl f → mX μ μ2 f → Q (some (.int v)) μ2 τ2) (hD : ∀ v c q μ2 τ2, dA b nm n 0 pos = .inr (v, c, q) → mOff μ μ2 → mI fr n 5 b nm μ2 τ2 q → Q (some (.int v)) μ2 τ2) : Zc 4 yX11_atom5 cX11_atom5 2 (some .int) [.ref 61] μ τ Q := by
  refine Zc.mk 1 [.ref 61, .null] rfl (by decide) (Nat.le_of_ble_eq_true rfl) ?_
  have hkd := m_kd_of b n pos
  have hkl := m_kd_lt b n (k_pl b n pos)
  have hsn := k_sgn_ne (b (k_pl b n pos))
  refine Zw_iconst (v := 0) dX11_atom5_0 (by decide) ?_
  refine Zw_istore_1 dX11_atom5_1 rfl ?_
  refine Zw_aload_0 dX11_atom5_2 ?_
  refine Zw_bipush (v := 45) dX11_atom5_3 (by decide) ?_
  refine Zw_V1 (k := 0) lm_X11_199 dX11_atom5_5 (by decide) (by first | decide | assumption | omega) (by first | rfl | assumption) (by rfl) (Nat.le_of_ble_eq_true rfl) ?_
  refine s_sign (tk := 7) hI.2.2.2.2.1 hI.2.2.2.2.2 (by decide) (by decide) (fun k7 => ?_) (fun k7 => ?_)
  · refine Zw_if_eq 19 dX11_atom5_8 (by decide) (fun c => absurd c (by decide)) (fun _ => ?_)
    refine Zw_aload_0 dX11_atom5_11 ?_
    refine Zw_V0 (k := 2) lm_X11_202 dX11_atom5_12 (by decide) (by first | decide | assumption | omega) (by first | rfl | assumption) (by rfl) (Nat.le_of_ble_eq_true rfl) ?_
    refine s_opens5 hI (fun μa xa => ?_)
    refine Zw_pop dX11_atom5_15 rfl ?_
    refine Zw_goto 102 dX11_atom5_16 (by decide) ?_
    refine Zw_iload_1 dX11_atom5_102 ?_
    refine Zw_ireturn dX11_atom5_103 (by first | rfl | assumption) ?_
    exact hF _ _ _ _ (by rw [dA_0, d_atom, if_pos k7, if_neg (by decide)]) xa
  · refine Zw_if_eq 19 dX11_atom5_8 (by decide) (fun _ => ?_) (fun c => absurd c (by decide))
    refine Zw_aload_0 dX11_atom5_19 ?_
    refine Zw_bipush (v := 40) dX11_atom5_20 (by decide) ?_
    refine Zw_V1 (k := 0) lm_X11_199 dX11_atom5_22 (by decide) (by first | decide | assumption | omega) (by first | rfl | assumption) (by rfl) (Nat.le_of_ble_eq_true rfl) ?_
    refine s_sign (tk := 10) hI.2.2.2.2.1 hI.2.2.2.2.2 (by decide) (by decide) (fun k10 => ?_) (fun k10 => ?_)
    · refine Zw_if_eq 36 dX11_atom5_25 (by decide) (fun c => absurd c (by decide)) (fun _ => ?_)
      refine Zw_aload_0 dX11_atom5_28 ?_
      refine Zw_V0 (k := 2) lm_X11_202 dX11_atom5_29 (by decide) (by first | decide | assumption | omega) (by first | rfl | assumption) (by rfl) (Nat.le_of_ble_eq_true rfl) ?_
      refine s_opens5 hI (fun μa xa => ?_)
      refine Zw_pop dX11_atom5_32 rfl ?_
      refine Zw_goto 102 dX11_atom5_33 (by decide) ?_
      refine Zw_iload_1 dX11_atom5_102 ?_
      refine Zw_ireturn dX11_atom5_103 (by first | rfl | assumption) ?_
      exact hF _ _ _ _ (by rw [dA_0, d_atom, if_neg (by omega), if_pos k10, if_neg (by decide)]) xa
    · refine Zw_if_eq 36 dX11_atom5_25 (by decide) (fun _ => ?_) (fun c => absurd c (by decide))
      refine Zw_aload_0 dX11_atom5_36 ?_
      refine Zw_getv (0) lf_X11_158 dX11_atom5_37 (by first | decide | assumption | omega) (by first | rfl | assumption) (by rfl) hI.2.2.2.2.1 ?_
      refine Zw_if_ne 64 dX11_atom5_40 (by decide) (fun c => absurd c (by decide)) (fun _ => ?_)
      refine Zw_aload_0 dX11_atom5_43 ?_
      refine Zw_getv (nI (m_kd b n (k_pl b n pos))) lf_X11_143 dX11_atom5_44 (by first | decide | assumption | omega) (by first | rfl | assumption) (by rfl) hI.2.2.2.2.2.2.1 ?_
      refine Zw_iconst (v := 2) dX11_atom5_47 (by decide) ?_
      refine Zw_nicmp_ne ((m_kd b n (k_pl b n pos))) (2) 64 dX11_atom5_48 (by decide) rfl rfl (by omega) (by omega) (fun c48 => ?_) (fun c48 => ?_)
      · refine Zw_aload_0 dX11_atom5_64 ?_
        refine Zw_getv (0) lf_X11_158 dX11_atom5_65 (by first | decide | assumption | omega) (by first | rfl | assumption) (by rfl) hI.2.2.2.2.1 ?_
        refine Zw_if_ne 98 dX11_atom5_68 (by decide) (fun c => absurd c (by decide)) (fun _ => ?_)
        refine Zw_aload_0 dX11_atom5_71 ?_
        refine Zw_getv (nI (m_kd b n (k_pl b n pos))) lf_X11_143 dX11_atom5_72 (by first | decide | assumption | omega) (by first | rfl | assumption) (by rfl) hI.2.2.2.2.2.2.1 ?_
        refine Zw_iconst (v := 1) dX11_atom5_75 (by decide) ?_
        refine Zw_nicmp_ne ((m_kd b n (k_pl b n pos))) (1) 98 dX11_atom5_76 (by decide) rfl rfl (by omega) (by omega) (fun c76 => ?_) (fun c76 => ?_)
        · refine Zw_aload_0 dX11_atom5_98 ?_
          refine Zw_V0 (k := 0) lm_X11_171 dX11_atom5_99 (by decide) (by first | decide | assumption | omega) (by first | rfl | assumption) (by rfl) (Nat.le_of_ble_eq_true rfl) ?_
          refine s_fail0 hI.2.2.2.2.1 hI.2.2.2.2.2.1 ?_
          refine Zw_iload_1 dX11_atom5_102 ?_
          refine Zw_ireturn dX11_atom5_103 (by first | rfl | assumption) ?_
          exact hF _ _ _ _ (by rw [dA_0, d_atom, if_neg (by omega), if_neg (by omega), if_neg (by omega), if_neg (by omega)]) mX.of
        · refine Zw_aload_0 dX11_atom5_79 ?_
          refine Zw_V0 (k := 3) lm_X11_206 dX11_atom5_80 (by decide) (by first | decide | assumption | omega) (by first | rfl | assumption) (by rfl) (Nat.le_of_ble_eq_true rfl) ?_
          refine s_name hI (fun h17 => ?_) (fun j hj6 h17 hj => ?_)
          · refine Zw_istore_1 dX11_atom5_83 rfl ?_
            refine Zw_aload_0 dX11_atom5_84 ?_
            refine Zw_getv (1) lf_X11_158 dX11_atom5_85 (by first | decide | assumption | omega) (by first | rfl | assumption) (by rfl) rfl ?_
            refine Zw_if_ne 102 dX11_atom5_88 (by decide) (fun _ => ?_) (fun c => absurd c (by decide))
            refine Zw_iload_1 dX11_atom5_102 ?_
            refine Zw_ireturn dX11_atom5_103 (by first | rfl | assumption) ?_
            exact hF _ _ _ _ (by rw [dA_0, d_atom, if_neg (by omega), if_neg (by omega), if_neg (by omega), if_neg (by omega)]) mX.of
          · refine Zw_istore_1 dX11_atom5_83 rfl ?_
            refine Zw_aload_0 dX11_atom5_84 ?_
            refine Zw_getv (0) lf_X11_158 dX11_atom5_85 (by first | decide | assumption | omega) (by first | rfl | assumption) (by rfl) hI.2.2.2.2.1 ?_
            refine Zw_if_ne 102 dX11_atom5_88 (by decide) (fun c => absurd c (by decide)) (fun _ => ?_)
            refine Zw_aload_0 dX11_atom5_91 ?_
            refine Zw_V0 (k := 1) lm_X11_174 dX11_atom5_92 (by decide) (by first | decide | assumption | omega) (by first | rfl | assumption) (by rfl) (Nat.le_of_ble_eq_true rfl) ?_
            refine s_nx hI (by omega) (by omega) (fun μ2 τ2 o2 I2 => ?_)
            refine Zw_goto 102 dX11_atom5_95 (by decide) ?_
            refine Zw_iload_1 dX11_atom5_102 ?_
            refine Zw_ireturn dX11_atom5_103 (by first | rfl | assumption) ?_
            exact hD _ _ _ _ _ (by rw [dA_0, d_atom, if_neg (by omega), if_neg (by omega), if_neg (by omega), if_pos h17, hj, nI_cl j hj6]) o2 I2
      · refine Zw_aload_0 dX11_atom5_51 ?_
        refine Zw_getl lf_X11_154 dX11_atom5_52 (by first | decide | assumption | omega) (by first | rfl | assumption) (by rfl) ?_
        refine Zw_l2i dX11_atom5_55 ?_
        refine Zw_istore_1 dX11_atom5_56 rfl ?_
        refine Zw_aload_0 dX11_atom5_57 ?_
        refine Zw_V0 (k := 1) lm_X11_174 dX11_atom5_58 (by decide) (by first | decide | assumption | omega) (by first | rfl | assumption) (by rfl) (Nat.le_of_ble_eq_true rfl) ?_
        have h16 : k_tok b n pos = 16 := by omega
        have hv : k_val b n pos = τ.toInt32 := (hI.2.2.2.2.2.2.2.2.1 (by omega)).symm
        refine s_nx hI (by omega) (by omega) (fun μ2 τ2 o2 I2 => ?_)
        refine Zw_goto 102 dX11_atom5_61 (by decide) ?_
        refine Zw_iload_1 dX11_atom5_102 ?_
        refine Zw_ireturn dX11_atom5_103 (by first | rfl | assumption) ?_
        exact hD _ _ _ _ _ (by rw [dA_0, d_atom, if_neg (by omega), if_neg (by omega), if_pos h16, hv]) o2 I2
set_option maxRecDepth 20000 in
theorem l_term5 {Q : zQ} {fr n : Nat} {b nm : Nat → Int32} {μ0 : zMu} {R : dR} (hF : ∀ f v μ2 τ2, R = .inl f → mX μ0 μ2 f → Q (some (.int v)) μ2 τ2) (hD : ∀ v c q μ2 τ2, R = .inr (v, c, q) → mOff μ0 μ2 → mI fr n 5 b nm μ2 τ2 q → Q (some (.int v)) μ2 τ2) : ∀ m v c q μ τ, 161 ≤ m + q → mOff μ0 μ → mI fr n 5 b nm μ τ q → d_loop b n t_mul (dA b nm n 0) m v c q = R → Zw 5 RX11 cX11_term5 2 (some .int) Q 5 [.ref 61, .int v] [] μ τ
  | 0, v, c, q, μ, τ, hm, hO, hI, hR => absurd hm (by have := hI.2.1; have := hI.1.2.1; omega)
  | m + 1, v, c, q, μ, τ, hm, hO, hI, hR => by
    have hqn := hI.2.1
    refine Zw_aload_0 dX11_term5_5 ?_
    refine Zw_bipush (v := 42) dX11_term5_6 (by decide) ?_
    refine Zw_V1 (k := 0) lm_X11_199 dX11_term5_8 (by decide) (by first | decide | assumption | omega) (by first | rfl | assumption) (by rfl) (Nat.le_of_ble_eq_true rfl) ?_
    refine s_sign (tk := 8) hI.2.2.2.2.1 hI.2.2.2.2.2 (by decide) (by decide) (fun k8 => ?_) (fun k8 => ?_)
    have ht : t_mul (k_tok b n q) = true := decide_eq_true k8
    rotate_left
    have ht : ¬ t_mul (k_tok b n q) = true := fun e => k8 (of_decide_eq_true e)
    rotate_right
    · refine Zw_if_eq 28 dX11_term5_11 (by decide) (fun c => absurd c (by decide)) (fun _ => ?_)
      refine Zw_aload_0 dX11_term5_14 ?_
      refine Zw_V0 (k := 1) lm_X11_174 dX11_term5_15 (by decide) (by first | decide | assumption | omega) (by first | rfl | assumption) (by rfl) (Nat.le_of_ble_eq_true rfl) ?_
      refine s_nx hI (by omega) (by omega) (fun μ2 τ2 o2 I2 => ?_)
      have hup := k_nx_up (b := b) (n := n) (i := q) (by omega)
      refine Zw_iload_1 dX11_term5_18 ?_
      refine Zw_aload_0 dX11_term5_19 ?_
      refine Zw_V0 (k := 4) lm_X11_210 dX11_term5_20 (by decide) (by first | decide | assumption | omega) (by first | rfl | assumption) (by rfl) (Nat.le_of_ble_eq_true rfl) ?_
      refine s_atom5 I2 (fun f1 v1 μ1 τ1 e1 x1 => ?_) (fun v1 c1 q1 μ1 τ1 e1 o1 I1 => ?_)
      · refine Zw_imul dX11_term5_23 ?_
        refine Zw_istore_1 dX11_term5_24 rfl ?_
        refine Zw_goto 5 dX11_term5_25 (by decide) ?_
        refine Zw_aload_0 dX11_term5_5 ?_
        refine Zw_bipush (v := 42) dX11_term5_6 (by decide) ?_
        refine Zw_V1 (k := 0) lm_X11_199 dX11_term5_8 (by decide) (by first | decide | assumption | omega) (by first | rfl | assumption) (by rfl) (Nat.le_of_ble_eq_true rfl) ?_
        refine s_signB x1.2.1 ?_
        refine Zw_if_eq 28 dX11_term5_11 (by decide) (fun _ => ?_) (fun c => absurd c (by decide))
        refine Zw_iload_1 dX11_term5_28 ?_
        refine Zw_ireturn dX11_term5_29 (by first | rfl | assumption) ?_
        rw [d_loop_s, if_pos ht, e1] at hR
        exact hF _ _ _ _ hR.symm (mX.tr (hO.tr o2) x1)
      · refine Zw_imul dX11_term5_23 ?_
        refine Zw_istore_1 dX11_term5_24 rfl ?_
        refine Zw_goto 5 dX11_term5_25 (by decide) ?_
        rw [← qj8]
        refine Zw_drop (L' := [.ref 61, .int (q_joined (nI 8) v v1)]) ⟨Or.inr rfl, Or.inr rfl, trivial⟩ (Nat.le_of_ble_eq_true rfl) ?_
        rw [d_loop_s, if_pos ht, e1] at hR
        rw [k8, d_jn] at hR
        have hup1 := dA_up b nm n 0 _ _ _ _ hup.2 e1
        exact l_term5 hF hD m _ _ q1 μ1 τ1 (by omega) ((hO.tr o2).tr o1) I1 hR
    · refine Zw_if_eq 28 dX11_term5_11 (by decide) (fun _ => ?_) (fun c => absurd c (by decide))
      refine Zw_iload_1 dX11_term5_28 ?_
      refine Zw_ireturn dX11_term5_29 (by first | rfl | assumption) ?_
      rw [d_loop_s, if_neg ht] at hR
      exact hD _ _ _ _ _ hR.symm hO hI
set_option maxRecDepth 20000 in
theorem s_term5 {fr n pos : Nat} {b nm : Nat → Int32} {Q : zQ} {μ : zMu} {τ : Int64} (hI : mI fr n 5 b nm μ τ pos) (hF : ∀ f v μ2 τ2, dT b nm n 0 pos = .inl f → mX μ μ2 f → Q (some (.int v)) μ2 τ2) (hD : ∀ v c q μ2 τ2, dT b nm n 0 pos = .inr (v, c, q) → mOff μ μ2 → mI fr n 5 b nm μ2 τ2 q → Q (some (.int v)) μ2 τ2) : Zc 5 yX11_term5 cX11_term5 2 (some .int) [.ref 61] μ τ Q := by
  refine Zc.mk 1 [.ref 61, .null] rfl (by decide) (Nat.le_of_ble_eq_true rfl) ?_
  refine Zw_aload_0 dX11_term5_0 ?_
  refine Zw_V0 (k := 4) lm_X11_210 dX11_term5_1 (by decide) (by first | decide | assumption | omega) (by first | rfl | assumption) (by rfl) (Nat.le_of_ble_eq_true rfl) ?_
  refine s_atom5 hI (fun f0 v0 μ0 τ0 e0 x0 => ?_) (fun v0 c0 q0 μ0 τ0 e0 o0 I0 => ?_)
  · refine Zw_istore_1 dX11_term5_4 rfl ?_
    refine Zw_aload_0 dX11_term5_5 ?_
    refine Zw_bipush (v := 42) dX11_term5_6 (by decide) ?_
    refine Zw_V1 (k := 0) lm_X11_199 dX11_term5_8 (by decide) (by first | decide | assumption | omega) (by first | rfl | assumption) (by rfl) (Nat.le_of_ble_eq_true rfl) ?_
    refine s_signB x0.2.1 ?_
    refine Zw_if_eq 28 dX11_term5_11 (by decide) (fun _ => ?_) (fun c => absurd c (by decide))
    refine Zw_iload_1 dX11_term5_28 ?_
    refine Zw_ireturn dX11_term5_29 (by first | rfl | assumption) ?_
    exact hF _ _ _ _ (by unfold dT; unfold d_bin; rw [e0]) x0
  · refine Zw_istore_1 dX11_term5_4 rfl ?_
    exact l_term5 (μ0 := μ) (R := dT b nm n 0 pos) hF hD 161 v0 c0 q0 μ0 τ0 (by omega) o0 I0 (by unfold dT; unfold d_bin; rw [e0])
set_option maxRecDepth 20000 in
theorem l_added5 {Q : zQ} {fr n : Nat} {b nm : Nat → Int32} {μ0 : zMu} {R : dR} (hF : ∀ f v μ2 τ2, R = .inl f → mX μ0 μ2 f → Q (some (.int v)) μ2 τ2) (hD : ∀ v c q μ2 τ2, R = .inr (v, c, q) → mOff μ0 μ2 → mI fr n 5 b nm μ2 τ2 q → Q (some (.int v)) μ2 τ2) : ∀ m v c q μ τ, 161 ≤ m + q → mOff μ0 μ → mI fr n 5 b nm μ τ q → d_loop b n t_add (dT b nm n 0) m v c q = R → Zw 6 RX11 cX11_added5 4 (some .int) Q 5 [.ref 61, .int v, .null, .null] [] μ τ
  | 0, v, c, q, μ, τ, hm, hO, hI, hR => absurd hm (by have := hI.2.1; have := hI.1.2.1; omega)
  | m + 1, v, c, q, μ, τ, hm, hO, hI, hR => by
    have hqn := hI.2.1
    refine Zw_aload_0 dX11_added5_5 ?_
    refine Zw_bipush (v := 43) dX11_added5_6 (by decide) ?_
    refine Zw_V1 (k := 0) lm_X11_199 dX11_added5_8 (by decide) (by first | decide | assumption | omega) (by first | rfl | assumption) (by rfl) (Nat.le_of_ble_eq_true rfl) ?_
    refine s_sign (tk := 6) hI.2.2.2.2.1 hI.2.2.2.2.2 (by decide) (by decide) (fun k6 => ?_) (fun k6 => ?_)
    · refine Zw_if_ne 23 dX11_added5_11 (by decide) (fun _ => ?_) (fun c => absurd c (by decide))
      have ht : t_add (k_tok b n q) = true := decide_eq_true (Or.inl k6)
      have hw : τ = (43 : Int32).toInt64 := m_wo hI.2.2.2.2.2 k6 (by decide) (by decide)
      refine Zw_aload_0 dX11_added5_23 ?_
      refine Zw_getl lf_X11_154 dX11_added5_24 (by first | decide | assumption | omega) (by first | rfl | assumption) (by rfl) ?_
      refine Zw_ldc2 dX11_added5_27 zw17 ?_
      refine Zw_lcmp dX11_added5_30 ?_
      refine Zw_if_ne 38 dX11_added5_31 (by decide) (fun c31 => absurd c31 (fun e => e ((lg_e _ _).mpr hw))) (fun c31 => ?_)
      refine Zw_iconst (v := 1) dX11_added5_34 (by decide) ?_
      refine Zw_goto 39 dX11_added5_35 (by decide) ?_
      refine Zw_istore_2 dX11_added5_39 rfl ?_
      refine Zw_aload_0 dX11_added5_40 ?_
      refine Zw_V0 (k := 1) lm_X11_174 dX11_added5_41 (by decide) (by first | decide | assumption | omega) (by first | rfl | assumption) (by rfl) (Nat.le_of_ble_eq_true rfl) ?_
      refine s_nx hI (by omega) (by omega) (fun μ2 τ2 o2 I2 => ?_)
      have hup := k_nx_up (b := b) (n := n) (i := q) (by omega)
      refine Zw_aload_0 dX11_added5_44 ?_
      refine Zw_V0 (k := 5) lm_X11_213 dX11_added5_45 (by decide) (by first | decide | assumption | omega) (by first | rfl | assumption) (by rfl) (Nat.le_of_ble_eq_true rfl) ?_
      refine s_term5 I2 (fun f1 v1 μ1 τ1 e1 x1 => ?_) (fun v1 c1 q1 μ1 τ1 e1 o1 I1 => ?_)
      · refine Zw_istore_3 dX11_added5_48 rfl ?_
        refine Zw_iload_2 dX11_added5_49 ?_
        refine Zw_if_eq 59 dX11_added5_50 (by decide) (fun c => absurd c (by decide)) (fun _ => ?_)
        refine Zw_iload_1 dX11_added5_53 ?_
        refine Zw_iload_3 dX11_added5_54 ?_
        refine Zw_iadd dX11_added5_55 ?_
        refine Zw_goto 62 dX11_added5_56 (by decide) ?_
        refine Zw_istore_1 dX11_added5_62 rfl ?_
        refine Zw_goto 5 dX11_added5_63 (by decide) ?_
        refine Zw_aload_0 dX11_added5_5 ?_
        refine Zw_bipush (v := 43) dX11_added5_6 (by decide) ?_
        refine Zw_V1 (k := 0) lm_X11_199 dX11_added5_8 (by decide) (by first | decide | assumption | omega) (by first | rfl | assumption) (by rfl) (Nat.le_of_ble_eq_true rfl) ?_
        refine s_signB x1.2.1 ?_
        refine Zw_if_ne 23 dX11_added5_11 (by decide) (fun c => absurd c (by decide)) (fun _ => ?_)
        refine Zw_aload_0 dX11_added5_14 ?_
        refine Zw_bipush (v := 45) dX11_added5_15 (by decide) ?_
        refine Zw_V1 (k := 0) lm_X11_199 dX11_added5_17 (by decide) (by first | decide | assumption | omega) (by first | rfl | assumption) (by rfl) (Nat.le_of_ble_eq_true rfl) ?_
        refine s_signB x1.2.1 ?_
        refine Zw_if_eq 66 dX11_added5_20 (by decide) (fun _ => ?_) (fun c => absurd c (by decide))
        refine Zw_iload_1 dX11_added5_66 ?_
        refine Zw_ireturn dX11_added5_67 (by first | rfl | assumption) ?_
        rw [d_loop_s, if_pos ht, e1] at hR
        exact hF _ _ _ _ hR.symm (mX.tr (hO.tr o2) x1)
      · refine Zw_istore_3 dX11_added5_48 rfl ?_
        refine Zw_iload_2 dX11_added5_49 ?_
        refine Zw_if_eq 59 dX11_added5_50 (by decide) (fun c => absurd c (by decide)) (fun _ => ?_)
        refine Zw_iload_1 dX11_added5_53 ?_
        refine Zw_iload_3 dX11_added5_54 ?_
        refine Zw_iadd dX11_added5_55 ?_
        refine Zw_goto 62 dX11_added5_56 (by decide) ?_
        refine Zw_istore_1 dX11_added5_62 rfl ?_
        refine Zw_goto 5 dX11_added5_63 (by decide) ?_
        rw [← qj6]
        refine Zw_drop (L' := [.ref 61, .int (q_joined (nI 6) v v1), .null, .null]) ⟨Or.inr rfl, Or.inr rfl, Or.inl rfl, Or.inl rfl, trivial⟩ (Nat.le_of_ble_eq_true rfl) ?_
        rw [d_loop_s, if_pos ht, e1] at hR
        rw [k6, d_jn] at hR
        have hup1 := dT_up b nm n 0 _ _ _ _ hup.2 e1
        exact l_added5 hF hD m _ _ q1 μ1 τ1 (by omega) ((hO.tr o2).tr o1) I1 hR
    · refine Zw_if_ne 23 dX11_added5_11 (by decide) (fun c => absurd c (by decide)) (fun _ => ?_)
      refine Zw_aload_0 dX11_added5_14 ?_
      refine Zw_bipush (v := 45) dX11_added5_15 (by decide) ?_
      refine Zw_V1 (k := 0) lm_X11_199 dX11_added5_17 (by decide) (by first | decide | assumption | omega) (by first | rfl | assumption) (by rfl) (Nat.le_of_ble_eq_true rfl) ?_
      refine s_sign (tk := 7) hI.2.2.2.2.1 hI.2.2.2.2.2 (by decide) (by decide) (fun k7 => ?_) (fun k7 => ?_)
      · refine Zw_if_eq 66 dX11_added5_20 (by decide) (fun c => absurd c (by decide)) (fun _ => ?_)
        have ht : t_add (k_tok b n q) = true := decide_eq_true (Or.inr k7)
        have hw : τ = (45 : Int32).toInt64 := m_wo hI.2.2.2.2.2 k7 (by decide) (by decide)
        refine Zw_aload_0 dX11_added5_23 ?_
        refine Zw_getl lf_X11_154 dX11_added5_24 (by first | decide | assumption | omega) (by first | rfl | assumption) (by rfl) ?_
        refine Zw_ldc2 dX11_added5_27 zw17 ?_
        refine Zw_lcmp dX11_added5_30 ?_
        refine Zw_if_ne 38 dX11_added5_31 (by decide) (fun c31 => ?_) (fun c31 => absurd c31 (fun e => absurd (hw.symm.trans ((lg_e _ _).mp e)) (by decide)))
        refine Zw_iconst (v := 0) dX11_added5_38 (by decide) ?_
        refine Zw_istore_2 dX11_added5_39 rfl ?_
        refine Zw_aload_0 dX11_added5_40 ?_
        refine Zw_V0 (k := 1) lm_X11_174 dX11_added5_41 (by decide) (by first | decide | assumption | omega) (by first | rfl | assumption) (by rfl) (Nat.le_of_ble_eq_true rfl) ?_
        refine s_nx hI (by omega) (by omega) (fun μ2 τ2 o2 I2 => ?_)
        have hup := k_nx_up (b := b) (n := n) (i := q) (by omega)
        refine Zw_aload_0 dX11_added5_44 ?_
        refine Zw_V0 (k := 5) lm_X11_213 dX11_added5_45 (by decide) (by first | decide | assumption | omega) (by first | rfl | assumption) (by rfl) (Nat.le_of_ble_eq_true rfl) ?_
        refine s_term5 I2 (fun f1 v1 μ1 τ1 e1 x1 => ?_) (fun v1 c1 q1 μ1 τ1 e1 o1 I1 => ?_)
        · refine Zw_istore_3 dX11_added5_48 rfl ?_
          refine Zw_iload_2 dX11_added5_49 ?_
          refine Zw_if_eq 59 dX11_added5_50 (by decide) (fun _ => ?_) (fun c => absurd c (by decide))
          refine Zw_iload_1 dX11_added5_59 ?_
          refine Zw_iload_3 dX11_added5_60 ?_
          refine Zw_isub dX11_added5_61 ?_
          refine Zw_istore_1 dX11_added5_62 rfl ?_
          refine Zw_goto 5 dX11_added5_63 (by decide) ?_
          refine Zw_aload_0 dX11_added5_5 ?_
          refine Zw_bipush (v := 43) dX11_added5_6 (by decide) ?_
          refine Zw_V1 (k := 0) lm_X11_199 dX11_added5_8 (by decide) (by first | decide | assumption | omega) (by first | rfl | assumption) (by rfl) (Nat.le_of_ble_eq_true rfl) ?_
          refine s_signB x1.2.1 ?_
          refine Zw_if_ne 23 dX11_added5_11 (by decide) (fun c => absurd c (by decide)) (fun _ => ?_)
          refine Zw_aload_0 dX11_added5_14 ?_
          refine Zw_bipush (v := 45) dX11_added5_15 (by decide) ?_
          refine Zw_V1 (k := 0) lm_X11_199 dX11_added5_17 (by decide) (by first | decide | assumption | omega) (by first | rfl | assumption) (by rfl) (Nat.le_of_ble_eq_true rfl) ?_
          refine s_signB x1.2.1 ?_
          refine Zw_if_eq 66 dX11_added5_20 (by decide) (fun _ => ?_) (fun c => absurd c (by decide))
          refine Zw_iload_1 dX11_added5_66 ?_
          refine Zw_ireturn dX11_added5_67 (by first | rfl | assumption) ?_
          rw [d_loop_s, if_pos ht, e1] at hR
          exact hF _ _ _ _ hR.symm (mX.tr (hO.tr o2) x1)
        · refine Zw_istore_3 dX11_added5_48 rfl ?_
          refine Zw_iload_2 dX11_added5_49 ?_
          refine Zw_if_eq 59 dX11_added5_50 (by decide) (fun _ => ?_) (fun c => absurd c (by decide))
          refine Zw_iload_1 dX11_added5_59 ?_
          refine Zw_iload_3 dX11_added5_60 ?_
          refine Zw_isub dX11_added5_61 ?_
          refine Zw_istore_1 dX11_added5_62 rfl ?_
          refine Zw_goto 5 dX11_added5_63 (by decide) ?_
          rw [← qj7]
          refine Zw_drop (L' := [.ref 61, .int (q_joined (nI 7) v v1), .null, .null]) ⟨Or.inr rfl, Or.inr rfl, Or.inl rfl, Or.inl rfl, trivial⟩ (Nat.le_of_ble_eq_true rfl) ?_
          rw [d_loop_s, if_pos ht, e1] at hR
          rw [k7, d_jn] at hR
          have hup1 := dT_up b nm n 0 _ _ _ _ hup.2 e1
          exact l_added5 hF hD m _ _ q1 μ1 τ1 (by omega) ((hO.tr o2).tr o1) I1 hR
      · refine Zw_if_eq 66 dX11_added5_20 (by decide) (fun _ => ?_) (fun c => absurd c (by decide))
        have ht : ¬ t_add (k_tok b n q) = true := fun e => (of_decide_eq_true e).elim k6 k7
        refine Zw_iload_1 dX11_added5_66 ?_
        refine Zw_ireturn dX11_added5_67 (by first | rfl | assumption) ?_
        rw [d_loop_s, if_neg ht] at hR
        exact hD _ _ _ _ _ hR.symm hO hI
set_option maxRecDepth 20000 in
theorem s_added5 {fr n pos : Nat} {b nm : Nat → Int32} {Q : zQ} {μ : zMu} {τ : Int64} (hI : mI fr n 5 b nm μ τ pos) (hF : ∀ f v μ2 τ2, dP b nm n 0 pos = .inl f → mX μ μ2 f → Q (some (.int v)) μ2 τ2) (hD : ∀ v c q μ2 τ2, dP b nm n 0 pos = .inr (v, c, q) → mOff μ μ2 → mI fr n 5 b nm μ2 τ2 q → Q (some (.int v)) μ2 τ2) : Zc 6 yX11_added5 cX11_added5 4 (some .int) [.ref 61] μ τ Q := by
  refine Zc.mk 3 [.ref 61, .null, .null, .null] rfl (by decide) (Nat.le_of_ble_eq_true rfl) ?_
  refine Zw_aload_0 dX11_added5_0 ?_
  refine Zw_V0 (k := 5) lm_X11_213 dX11_added5_1 (by decide) (by first | decide | assumption | omega) (by first | rfl | assumption) (by rfl) (Nat.le_of_ble_eq_true rfl) ?_
  refine s_term5 hI (fun f0 v0 μ0 τ0 e0 x0 => ?_) (fun v0 c0 q0 μ0 τ0 e0 o0 I0 => ?_)
  · refine Zw_istore_1 dX11_added5_4 rfl ?_
    refine Zw_aload_0 dX11_added5_5 ?_
    refine Zw_bipush (v := 43) dX11_added5_6 (by decide) ?_
    refine Zw_V1 (k := 0) lm_X11_199 dX11_added5_8 (by decide) (by first | decide | assumption | omega) (by first | rfl | assumption) (by rfl) (Nat.le_of_ble_eq_true rfl) ?_
    refine s_signB x0.2.1 ?_
    refine Zw_if_ne 23 dX11_added5_11 (by decide) (fun c => absurd c (by decide)) (fun _ => ?_)
    refine Zw_aload_0 dX11_added5_14 ?_
    refine Zw_bipush (v := 45) dX11_added5_15 (by decide) ?_
    refine Zw_V1 (k := 0) lm_X11_199 dX11_added5_17 (by decide) (by first | decide | assumption | omega) (by first | rfl | assumption) (by rfl) (Nat.le_of_ble_eq_true rfl) ?_
    refine s_signB x0.2.1 ?_
    refine Zw_if_eq 66 dX11_added5_20 (by decide) (fun _ => ?_) (fun c => absurd c (by decide))
    refine Zw_iload_1 dX11_added5_66 ?_
    refine Zw_ireturn dX11_added5_67 (by first | rfl | assumption) ?_
    exact hF _ _ _ _ (by unfold dP; unfold d_bin; rw [e0]) x0
  · refine Zw_istore_1 dX11_added5_4 rfl ?_
    exact l_added5 (μ0 := μ) (R := dP b nm n 0 pos) hF hD 161 v0 c0 q0 μ0 τ0 (by omega) o0 I0 (by unfold dP; unfold d_bin; rw [e0])
set_option maxRecDepth 20000 in
theorem s_not5 {fr n pos : Nat} {b nm : Nat → Int32} {Q : zQ} {μ : zMu} {τ : Int64} (hI : mI fr n 5 b nm μ τ pos) (hF : ∀ f v μ2 τ2, dN b nm n 0 pos = .inl f → mX μ μ2 f → Q (some (.int v)) μ2 τ2) (hD : ∀ v c q μ2 τ2, dN b nm n 0 pos = .inr (v, c, q) → mOff μ μ2 → mI fr n 5 b nm μ2 τ2 q → Q (some (.int v)) μ2 τ2) : Zc 7 yX11_not5 cX11_not5 4 (some .int) [.ref 61] μ τ Q := by
  refine Zc.mk 3 [.ref 61, .null, .null, .null] rfl (by decide) (Nat.le_of_ble_eq_true rfl) ?_
  refine Zw_aload_0 dX11_not5_0 ?_
  refine Zw_bipush (v := 110) dX11_not5_1 (by decide) ?_
  refine Zw_bipush (v := 111) dX11_not5_3 (by decide) ?_
  refine Zw_bipush (v := 116) dX11_not5_5 (by decide) ?_
  refine Zw_iconst (v := 0) dX11_not5_7 (by decide) ?_
  refine Zw_iconst (v := 0) dX11_not5_8 (by decide) ?_
  refine Zw_iconst (v := 0) dX11_not5_9 (by decide) ?_
  refine Zw_iconst (v := 0) dX11_not5_10 (by decide) ?_
  refine Zw_iconst (v := 0) dX11_not5_11 (by decide) ?_
  refine Zw_V8 (k := 2) lm_X11_177 dX11_not5_12 (by decide) (by first | decide | assumption | omega) (by first | rfl | assumption) (by rfl) (Nat.le_of_ble_eq_true rfl) ?_
  refine s_word (w := 5) hI.1 hI.2.1 hI.2.2.2.2.1 hI.2.2.2.2.2 (by decide) (by decide +kernel) (fun k3 => ?_) (fun k3 => ?_)
  all_goals rw [mw_tok (by decide), show k_wt 5 = 3 from rfl] at k3
  · refine Zw_if_eq 25 dX11_not5_15 (by decide) (fun c => absurd c (by decide)) (fun _ => ?_)
    refine Zw_aload_0 dX11_not5_18 ?_
    refine Zw_V0 (k := 2) lm_X11_202 dX11_not5_19 (by decide) (by first | decide | assumption | omega) (by first | rfl | assumption) (by rfl) (Nat.le_of_ble_eq_true rfl) ?_
    refine s_opens5 hI (fun μa xa => ?_)
    refine Zw_pop dX11_not5_22 rfl ?_
    refine Zw_iconst (v := 0) dX11_not5_23 (by decide) ?_
    refine Zw_ireturn dX11_not5_24 (by first | rfl | assumption) ?_
    exact hF _ _ _ _ (by rw [dN_0, d_not, if_pos k3, if_neg (by decide)]) xa
  · refine Zw_if_eq 25 dX11_not5_15 (by decide) (fun _ => ?_) (fun c => absurd c (by decide))
    refine Zw_aload_0 dX11_not5_25 ?_
    refine Zw_V0 (k := 6) lm_X11_218 dX11_not5_26 (by decide) (by first | decide | assumption | omega) (by first | rfl | assumption) (by rfl) (Nat.le_of_ble_eq_true rfl) ?_
    refine s_added5 hI (fun f1 v1 μ1 τ1 e1 x1 => ?_) (fun v1 c1 q1 μ1 τ1 e1 o1 I1 => ?_)
    · refine Zw_istore_1 dX11_not5_29 rfl ?_
      refine Zw_aload_0 dX11_not5_30 ?_
      refine Zw_bipush (v := 60) dX11_not5_31 (by decide) ?_
      refine Zw_V1 (k := 0) lm_X11_199 dX11_not5_33 (by decide) (by first | decide | assumption | omega) (by first | rfl | assumption) (by rfl) (Nat.le_of_ble_eq_true rfl) ?_
      refine s_signB x1.2.1 ?_
      refine Zw_if_ne 50 dX11_not5_36 (by decide) (fun c => absurd c (by decide)) (fun _ => ?_)
      refine Zw_aload_0 dX11_not5_39 ?_
      refine Zw_bipush (v := 61) dX11_not5_40 (by decide) ?_
      refine Zw_V1 (k := 0) lm_X11_199 dX11_not5_42 (by decide) (by first | decide | assumption | omega) (by first | rfl | assumption) (by rfl) (Nat.le_of_ble_eq_true rfl) ?_
      refine s_signB x1.2.1 ?_
      refine Zw_if_ne 50 dX11_not5_45 (by decide) (fun c => absurd c (by decide)) (fun _ => ?_)
      refine Zw_iload_1 dX11_not5_48 ?_
      refine Zw_ireturn dX11_not5_49 (by first | rfl | assumption) ?_
      exact hF _ _ _ _ (by rw [dN_0, d_not, if_neg k3, e1]; rfl) x1
    · refine Zw_istore_1 dX11_not5_29 rfl ?_
      refine Zw_aload_0 dX11_not5_30 ?_
      refine Zw_bipush (v := 60) dX11_not5_31 (by decide) ?_
      refine Zw_V1 (k := 0) lm_X11_199 dX11_not5_33 (by decide) (by first | decide | assumption | omega) (by first | rfl | assumption) (by rfl) (Nat.le_of_ble_eq_true rfl) ?_
      refine s_sign (tk := 4) I1.2.2.2.2.1 I1.2.2.2.2.2 (by decide) (by decide) (fun k4 => ?_) (fun k4 => ?_)
      · refine Zw_if_ne 50 dX11_not5_36 (by decide) (fun _ => ?_) (fun c => absurd c (by decide))
        have hw : τ1 = (60 : Int32).toInt64 := m_wo I1.2.2.2.2.2 k4 (by decide) (by decide)
        refine Zw_aload_0 dX11_not5_50 ?_
        refine Zw_getl lf_X11_154 dX11_not5_51 (by first | decide | assumption | omega) (by first | rfl | assumption) (by rfl) ?_
        refine Zw_ldc2 dX11_not5_54 zw18 ?_
        refine Zw_lcmp dX11_not5_57 ?_
        refine Zw_if_ne 65 dX11_not5_58 (by decide) (fun c58 => absurd c58 (fun e => e ((lg_e _ _).mpr hw))) (fun c58 => ?_)
        refine Zw_iconst (v := 1) dX11_not5_61 (by decide) ?_
        refine Zw_goto 66 dX11_not5_62 (by decide) ?_
        refine Zw_istore_2 dX11_not5_66 rfl ?_
        refine Zw_aload_0 dX11_not5_67 ?_
        refine Zw_V0 (k := 1) lm_X11_174 dX11_not5_68 (by decide) (by first | decide | assumption | omega) (by first | rfl | assumption) (by rfl) (Nat.le_of_ble_eq_true rfl) ?_
        refine s_nx I1 (by omega) (by omega) (fun μ2 τ2 o2 I2 => ?_)
        refine Zw_aload_0 dX11_not5_71 ?_
        refine Zw_V0 (k := 6) lm_X11_218 dX11_not5_72 (by decide) (by first | decide | assumption | omega) (by first | rfl | assumption) (by rfl) (Nat.le_of_ble_eq_true rfl) ?_
        refine s_added5 I2 (fun f3 v3 μ3 τ3 e3 x3 => ?_) (fun v3 c3 q3 μ3 τ3 e3 o3 I3 => ?_)
        · refine Zw_istore_3 dX11_not5_75 rfl ?_
          refine Zw_iload_2 dX11_not5_76 ?_
          refine Zw_if_eq 88 dX11_not5_77 (by decide) (fun c => absurd c (by decide)) (fun _ => ?_)
          refine Zw_iload_1 dX11_not5_80 ?_
          refine Zw_iload_3 dX11_not5_81 ?_
          refine Zw_icmp_ge 97 dX11_not5_82 (by decide) (fun c82 => ?_) (fun c82 => ?_)
          · refine Zw_iconst (v := 0) dX11_not5_97 (by decide) ?_
            refine Zw_ireturn dX11_not5_98 (by first | rfl | assumption) ?_
            exact hF _ _ _ _ (by rw [dN_0, d_not, if_neg k3, e1]; show d_cmp b n _ (.inr (v1, c1, q1)) = _; unfold d_cmp; dsimp only; rw [if_pos (by omega), e3, k4, d_jn]) (mX.tr (o1.tr o2) x3)
          · refine Zw_goto 93 dX11_not5_85 (by decide) ?_
            refine Zw_iconst (v := 1) dX11_not5_93 (by decide) ?_
            refine Zw_goto 98 dX11_not5_94 (by decide) ?_
            refine Zw_ireturn dX11_not5_98 (by first | rfl | assumption) ?_
            exact hF _ _ _ _ (by rw [dN_0, d_not, if_neg k3, e1]; show d_cmp b n _ (.inr (v1, c1, q1)) = _; unfold d_cmp; dsimp only; rw [if_pos (by omega), e3, k4, d_jn]) (mX.tr (o1.tr o2) x3)
        · refine Zw_istore_3 dX11_not5_75 rfl ?_
          refine Zw_iload_2 dX11_not5_76 ?_
          refine Zw_if_eq 88 dX11_not5_77 (by decide) (fun c => absurd c (by decide)) (fun _ => ?_)
          refine Zw_iload_1 dX11_not5_80 ?_
          refine Zw_iload_3 dX11_not5_81 ?_
          refine Zw_icmp_ge 97 dX11_not5_82 (by decide) (fun c82 => ?_) (fun c82 => ?_)
          · refine Zw_iconst (v := 0) dX11_not5_97 (by decide) ?_
            refine Zw_ireturn dX11_not5_98 (by first | rfl | assumption) ?_
            exact hD _ _ _ _ _ (by rw [dN_0, d_not, if_neg k3, e1]; show d_cmp b n _ (.inr (v1, c1, q1)) = _; unfold d_cmp; dsimp only; rw [if_pos (by omega), e3, k4, d_jn, qj4, if_neg (Int32.not_lt.mpr c82)]) ((o1.tr o2).tr o3) I3
          · refine Zw_goto 93 dX11_not5_85 (by decide) ?_
            refine Zw_iconst (v := 1) dX11_not5_93 (by decide) ?_
            refine Zw_goto 98 dX11_not5_94 (by decide) ?_
            refine Zw_ireturn dX11_not5_98 (by first | rfl | assumption) ?_
            exact hD _ _ _ _ _ (by rw [dN_0, d_not, if_neg k3, e1]; show d_cmp b n _ (.inr (v1, c1, q1)) = _; unfold d_cmp; dsimp only; rw [if_pos (by omega), e3, k4, d_jn, qj4, if_pos (Int32.not_le.mp c82)]) ((o1.tr o2).tr o3) I3
      · refine Zw_if_ne 50 dX11_not5_36 (by decide) (fun c => absurd c (by decide)) (fun _ => ?_)
        refine Zw_aload_0 dX11_not5_39 ?_
        refine Zw_bipush (v := 61) dX11_not5_40 (by decide) ?_
        refine Zw_V1 (k := 0) lm_X11_199 dX11_not5_42 (by decide) (by first | decide | assumption | omega) (by first | rfl | assumption) (by rfl) (Nat.le_of_ble_eq_true rfl) ?_
        refine s_sign (tk := 5) I1.2.2.2.2.1 I1.2.2.2.2.2 (by decide) (by decide) (fun k5 => ?_) (fun k5 => ?_)
        · refine Zw_if_ne 50 dX11_not5_45 (by decide) (fun _ => ?_) (fun c => absurd c (by decide))
          have hw : τ1 = (61 : Int32).toInt64 := m_wo I1.2.2.2.2.2 k5 (by decide) (by decide)
          refine Zw_aload_0 dX11_not5_50 ?_
          refine Zw_getl lf_X11_154 dX11_not5_51 (by first | decide | assumption | omega) (by first | rfl | assumption) (by rfl) ?_
          refine Zw_ldc2 dX11_not5_54 zw18 ?_
          refine Zw_lcmp dX11_not5_57 ?_
          refine Zw_if_ne 65 dX11_not5_58 (by decide) (fun c58 => ?_) (fun c58 => absurd c58 (fun e => absurd (hw.symm.trans ((lg_e _ _).mp e)) (by decide)))
          refine Zw_iconst (v := 0) dX11_not5_65 (by decide) ?_
          refine Zw_istore_2 dX11_not5_66 rfl ?_
          refine Zw_aload_0 dX11_not5_67 ?_
          refine Zw_V0 (k := 1) lm_X11_174 dX11_not5_68 (by decide) (by first | decide | assumption | omega) (by first | rfl | assumption) (by rfl) (Nat.le_of_ble_eq_true rfl) ?_
          refine s_nx I1 (by omega) (by omega) (fun μ2 τ2 o2 I2 => ?_)
          refine Zw_aload_0 dX11_not5_71 ?_
          refine Zw_V0 (k := 6) lm_X11_218 dX11_not5_72 (by decide) (by first | decide | assumption | omega) (by first | rfl | assumption) (by rfl) (Nat.le_of_ble_eq_true rfl) ?_
          refine s_added5 I2 (fun f3 v3 μ3 τ3 e3 x3 => ?_) (fun v3 c3 q3 μ3 τ3 e3 o3 I3 => ?_)
          · refine Zw_istore_3 dX11_not5_75 rfl ?_
            refine Zw_iload_2 dX11_not5_76 ?_
            refine Zw_if_eq 88 dX11_not5_77 (by decide) (fun _ => ?_) (fun c => absurd c (by decide))
            refine Zw_iload_1 dX11_not5_88 ?_
            refine Zw_iload_3 dX11_not5_89 ?_
            refine Zw_icmp_ne 97 dX11_not5_90 (by decide) (fun c90 => ?_) (fun c90 => ?_)
            · refine Zw_iconst (v := 0) dX11_not5_97 (by decide) ?_
              refine Zw_ireturn dX11_not5_98 (by first | rfl | assumption) ?_
              exact hF _ _ _ _ (by rw [dN_0, d_not, if_neg k3, e1]; show d_cmp b n _ (.inr (v1, c1, q1)) = _; unfold d_cmp; dsimp only; rw [if_pos (by omega), e3, k5, d_jn]) (mX.tr (o1.tr o2) x3)
            · refine Zw_iconst (v := 1) dX11_not5_93 (by decide) ?_
              refine Zw_goto 98 dX11_not5_94 (by decide) ?_
              refine Zw_ireturn dX11_not5_98 (by first | rfl | assumption) ?_
              exact hF _ _ _ _ (by rw [dN_0, d_not, if_neg k3, e1]; show d_cmp b n _ (.inr (v1, c1, q1)) = _; unfold d_cmp; dsimp only; rw [if_pos (by omega), e3, k5, d_jn]) (mX.tr (o1.tr o2) x3)
          · refine Zw_istore_3 dX11_not5_75 rfl ?_
            refine Zw_iload_2 dX11_not5_76 ?_
            refine Zw_if_eq 88 dX11_not5_77 (by decide) (fun _ => ?_) (fun c => absurd c (by decide))
            refine Zw_iload_1 dX11_not5_88 ?_
            refine Zw_iload_3 dX11_not5_89 ?_
            refine Zw_icmp_ne 97 dX11_not5_90 (by decide) (fun c90 => ?_) (fun c90 => ?_)
            · refine Zw_iconst (v := 0) dX11_not5_97 (by decide) ?_
              refine Zw_ireturn dX11_not5_98 (by first | rfl | assumption) ?_
              exact hD _ _ _ _ _ (by rw [dN_0, d_not, if_neg k3, e1]; show d_cmp b n _ (.inr (v1, c1, q1)) = _; unfold d_cmp; dsimp only; rw [if_pos (by omega), e3, k5, d_jn, qj5, if_neg c90]) ((o1.tr o2).tr o3) I3
            · refine Zw_iconst (v := 1) dX11_not5_93 (by decide) ?_
              refine Zw_goto 98 dX11_not5_94 (by decide) ?_
              refine Zw_ireturn dX11_not5_98 (by first | rfl | assumption) ?_
              exact hD _ _ _ _ _ (by rw [dN_0, d_not, if_neg k3, e1]; show d_cmp b n _ (.inr (v1, c1, q1)) = _; unfold d_cmp; dsimp only; rw [if_pos (by omega), e3, k5, d_jn, qj5, if_pos c90]) ((o1.tr o2).tr o3) I3
        · refine Zw_if_ne 50 dX11_not5_45 (by decide) (fun c => absurd c (by decide)) (fun _ => ?_)
          refine Zw_iload_1 dX11_not5_48 ?_
          refine Zw_ireturn dX11_not5_49 (by first | rfl | assumption) ?_
          exact hD _ _ _ _ _ (by rw [dN_0, d_not, if_neg k3, e1]; show d_cmp b n _ (.inr (v1, c1, q1)) = _; unfold d_cmp; dsimp only; rw [if_neg (by omega)]) o1 I1
set_option maxRecDepth 20000 in
theorem l_both5 {Q : zQ} {fr n : Nat} {b nm : Nat → Int32} {μ0 : zMu} {R : dR} (hF : ∀ f v μ2 τ2, R = .inl f → mX μ0 μ2 f → Q (some (.int v)) μ2 τ2) (hD : ∀ v c q μ2 τ2, R = .inr (v, c, q) → mOff μ0 μ2 → mI fr n 5 b nm μ2 τ2 q → Q (some (.int v)) μ2 τ2) : ∀ m v c q μ τ, 161 ≤ m + q → mOff μ0 μ → mI fr n 5 b nm μ τ q → d_loop b n t_and (dN b nm n 0) m v c q = R → Zw 8 RX11 cX11_both5 3 (some .int) Q 5 [.ref 61, .int v, .null] [] μ τ
  | 0, v, c, q, μ, τ, hm, hO, hI, hR => absurd hm (by have := hI.2.1; have := hI.1.2.1; omega)
  | m + 1, v, c, q, μ, τ, hm, hO, hI, hR => by
    have hqn := hI.2.1
    refine Zw_aload_0 dX11_both5_5 ?_
    refine Zw_bipush (v := 97) dX11_both5_6 (by decide) ?_
    refine Zw_bipush (v := 110) dX11_both5_8 (by decide) ?_
    refine Zw_bipush (v := 100) dX11_both5_10 (by decide) ?_
    refine Zw_iconst (v := 0) dX11_both5_12 (by decide) ?_
    refine Zw_iconst (v := 0) dX11_both5_13 (by decide) ?_
    refine Zw_iconst (v := 0) dX11_both5_14 (by decide) ?_
    refine Zw_iconst (v := 0) dX11_both5_15 (by decide) ?_
    refine Zw_iconst (v := 0) dX11_both5_16 (by decide) ?_
    refine Zw_V8 (k := 2) lm_X11_177 dX11_both5_17 (by decide) (by first | decide | assumption | omega) (by first | rfl | assumption) (by rfl) (Nat.le_of_ble_eq_true rfl) ?_
    refine s_word (w := 4) hI.1 hI.2.1 hI.2.2.2.2.1 hI.2.2.2.2.2 (by decide) (by decide +kernel) (fun k2 => ?_) (fun k2 => ?_)
    all_goals rw [mw_tok (by decide), show k_wt 4 = 2 from rfl] at k2
    have ht : t_and (k_tok b n q) = true := decide_eq_true k2
    rotate_left
    have ht : ¬ t_and (k_tok b n q) = true := fun e => k2 (of_decide_eq_true e)
    rotate_right
    · refine Zw_if_eq 49 dX11_both5_20 (by decide) (fun c => absurd c (by decide)) (fun _ => ?_)
      refine Zw_aload_0 dX11_both5_23 ?_
      refine Zw_V0 (k := 1) lm_X11_174 dX11_both5_24 (by decide) (by first | decide | assumption | omega) (by first | rfl | assumption) (by rfl) (Nat.le_of_ble_eq_true rfl) ?_
      refine s_nx hI (by omega) (by omega) (fun μ2 τ2 o2 I2 => ?_)
      have hup := k_nx_up (b := b) (n := n) (i := q) (by omega)
      refine Zw_aload_0 dX11_both5_27 ?_
      refine Zw_V0 (k := 7) lm_X11_223 dX11_both5_28 (by decide) (by first | decide | assumption | omega) (by first | rfl | assumption) (by rfl) (Nat.le_of_ble_eq_true rfl) ?_
      refine s_not5 I2 (fun f1 v1 μ1 τ1 e1 x1 => ?_) (fun v1 c1 q1 μ1 τ1 e1 o1 I1 => ?_)
      · refine Zw_istore_2 dX11_both5_31 rfl ?_
        refine Zw_iload_1 dX11_both5_32 ?_
        refine Zw_if_eq 44 dX11_both5_33 (by decide) (fun c33 => ?_) (fun c33 => ?_)
        · refine Zw_iconst (v := 0) dX11_both5_44 (by decide) ?_
          refine Zw_istore_1 dX11_both5_45 rfl ?_
          refine Zw_goto 5 dX11_both5_46 (by decide) ?_
          refine Zw_aload_0 dX11_both5_5 ?_
          refine Zw_bipush (v := 97) dX11_both5_6 (by decide) ?_
          refine Zw_bipush (v := 110) dX11_both5_8 (by decide) ?_
          refine Zw_bipush (v := 100) dX11_both5_10 (by decide) ?_
          refine Zw_iconst (v := 0) dX11_both5_12 (by decide) ?_
          refine Zw_iconst (v := 0) dX11_both5_13 (by decide) ?_
          refine Zw_iconst (v := 0) dX11_both5_14 (by decide) ?_
          refine Zw_iconst (v := 0) dX11_both5_15 (by decide) ?_
          refine Zw_iconst (v := 0) dX11_both5_16 (by decide) ?_
          refine Zw_V8 (k := 2) lm_X11_177 dX11_both5_17 (by decide) (by first | decide | assumption | omega) (by first | rfl | assumption) (by rfl) (Nat.le_of_ble_eq_true rfl) ?_
          refine s_wordB x1.2.1 ?_
          refine Zw_if_eq 49 dX11_both5_20 (by decide) (fun _ => ?_) (fun c => absurd c (by decide))
          refine Zw_iload_1 dX11_both5_49 ?_
          refine Zw_ireturn dX11_both5_50 (by first | rfl | assumption) ?_
          rw [d_loop_s, if_pos ht, e1] at hR
          exact hF _ _ _ _ hR.symm (mX.tr (hO.tr o2) x1)
        · refine Zw_iload_2 dX11_both5_36 ?_
          refine Zw_if_eq 44 dX11_both5_37 (by decide) (fun c37 => ?_) (fun c37 => ?_)
          · refine Zw_iconst (v := 0) dX11_both5_44 (by decide) ?_
            refine Zw_istore_1 dX11_both5_45 rfl ?_
            refine Zw_goto 5 dX11_both5_46 (by decide) ?_
            refine Zw_aload_0 dX11_both5_5 ?_
            refine Zw_bipush (v := 97) dX11_both5_6 (by decide) ?_
            refine Zw_bipush (v := 110) dX11_both5_8 (by decide) ?_
            refine Zw_bipush (v := 100) dX11_both5_10 (by decide) ?_
            refine Zw_iconst (v := 0) dX11_both5_12 (by decide) ?_
            refine Zw_iconst (v := 0) dX11_both5_13 (by decide) ?_
            refine Zw_iconst (v := 0) dX11_both5_14 (by decide) ?_
            refine Zw_iconst (v := 0) dX11_both5_15 (by decide) ?_
            refine Zw_iconst (v := 0) dX11_both5_16 (by decide) ?_
            refine Zw_V8 (k := 2) lm_X11_177 dX11_both5_17 (by decide) (by first | decide | assumption | omega) (by first | rfl | assumption) (by rfl) (Nat.le_of_ble_eq_true rfl) ?_
            refine s_wordB x1.2.1 ?_
            refine Zw_if_eq 49 dX11_both5_20 (by decide) (fun _ => ?_) (fun c => absurd c (by decide))
            refine Zw_iload_1 dX11_both5_49 ?_
            refine Zw_ireturn dX11_both5_50 (by first | rfl | assumption) ?_
            rw [d_loop_s, if_pos ht, e1] at hR
            exact hF _ _ _ _ hR.symm (mX.tr (hO.tr o2) x1)
          · refine Zw_iconst (v := 1) dX11_both5_40 (by decide) ?_
            refine Zw_goto 45 dX11_both5_41 (by decide) ?_
            refine Zw_istore_1 dX11_both5_45 rfl ?_
            refine Zw_goto 5 dX11_both5_46 (by decide) ?_
            refine Zw_aload_0 dX11_both5_5 ?_
            refine Zw_bipush (v := 97) dX11_both5_6 (by decide) ?_
            refine Zw_bipush (v := 110) dX11_both5_8 (by decide) ?_
            refine Zw_bipush (v := 100) dX11_both5_10 (by decide) ?_
            refine Zw_iconst (v := 0) dX11_both5_12 (by decide) ?_
            refine Zw_iconst (v := 0) dX11_both5_13 (by decide) ?_
            refine Zw_iconst (v := 0) dX11_both5_14 (by decide) ?_
            refine Zw_iconst (v := 0) dX11_both5_15 (by decide) ?_
            refine Zw_iconst (v := 0) dX11_both5_16 (by decide) ?_
            refine Zw_V8 (k := 2) lm_X11_177 dX11_both5_17 (by decide) (by first | decide | assumption | omega) (by first | rfl | assumption) (by rfl) (Nat.le_of_ble_eq_true rfl) ?_
            refine s_wordB x1.2.1 ?_
            refine Zw_if_eq 49 dX11_both5_20 (by decide) (fun _ => ?_) (fun c => absurd c (by decide))
            refine Zw_iload_1 dX11_both5_49 ?_
            refine Zw_ireturn dX11_both5_50 (by first | rfl | assumption) ?_
            rw [d_loop_s, if_pos ht, e1] at hR
            exact hF _ _ _ _ hR.symm (mX.tr (hO.tr o2) x1)
      · refine Zw_istore_2 dX11_both5_31 rfl ?_
        refine Zw_iload_1 dX11_both5_32 ?_
        refine Zw_if_eq 44 dX11_both5_33 (by decide) (fun c33 => ?_) (fun c33 => ?_)
        · refine Zw_iconst (v := 0) dX11_both5_44 (by decide) ?_
          refine Zw_istore_1 dX11_both5_45 rfl ?_
          refine Zw_goto 5 dX11_both5_46 (by decide) ?_
          rw [show (0 : Int32) = q_joined (nI 2) v v1 by rw [qj2, if_neg (fun e => e.1 c33)]]
          refine Zw_drop (L' := [.ref 61, .int (q_joined (nI 2) v v1), .null]) ⟨Or.inr rfl, Or.inr rfl, Or.inl rfl, trivial⟩ (Nat.le_of_ble_eq_true rfl) ?_
          rw [d_loop_s, if_pos ht, e1] at hR
          rw [k2, d_jn] at hR
          have hup1 := dN_up b nm n 0 _ _ _ _ hup.2 e1
          exact l_both5 hF hD m _ _ q1 μ1 τ1 (by omega) ((hO.tr o2).tr o1) I1 hR
        · refine Zw_iload_2 dX11_both5_36 ?_
          refine Zw_if_eq 44 dX11_both5_37 (by decide) (fun c37 => ?_) (fun c37 => ?_)
          · refine Zw_iconst (v := 0) dX11_both5_44 (by decide) ?_
            refine Zw_istore_1 dX11_both5_45 rfl ?_
            refine Zw_goto 5 dX11_both5_46 (by decide) ?_
            rw [show (0 : Int32) = q_joined (nI 2) v v1 by rw [qj2, if_neg (fun e => e.2 c37)]]
            refine Zw_drop (L' := [.ref 61, .int (q_joined (nI 2) v v1), .null]) ⟨Or.inr rfl, Or.inr rfl, Or.inl rfl, trivial⟩ (Nat.le_of_ble_eq_true rfl) ?_
            rw [d_loop_s, if_pos ht, e1] at hR
            rw [k2, d_jn] at hR
            have hup1 := dN_up b nm n 0 _ _ _ _ hup.2 e1
            exact l_both5 hF hD m _ _ q1 μ1 τ1 (by omega) ((hO.tr o2).tr o1) I1 hR
          · refine Zw_iconst (v := 1) dX11_both5_40 (by decide) ?_
            refine Zw_goto 45 dX11_both5_41 (by decide) ?_
            refine Zw_istore_1 dX11_both5_45 rfl ?_
            refine Zw_goto 5 dX11_both5_46 (by decide) ?_
            rw [show (1 : Int32) = q_joined (nI 2) v v1 by rw [qj2, if_pos ⟨c33, c37⟩]]
            refine Zw_drop (L' := [.ref 61, .int (q_joined (nI 2) v v1), .null]) ⟨Or.inr rfl, Or.inr rfl, Or.inl rfl, trivial⟩ (Nat.le_of_ble_eq_true rfl) ?_
            rw [d_loop_s, if_pos ht, e1] at hR
            rw [k2, d_jn] at hR
            have hup1 := dN_up b nm n 0 _ _ _ _ hup.2 e1
            exact l_both5 hF hD m _ _ q1 μ1 τ1 (by omega) ((hO.tr o2).tr o1) I1 hR
    · refine Zw_if_eq 49 dX11_both5_20 (by decide) (fun _ => ?_) (fun c => absurd c (by decide))
      refine Zw_iload_1 dX11_both5_49 ?_
      refine Zw_ireturn dX11_both5_50 (by first | rfl | assumption) ?_
      rw [d_loop_s, if_neg ht] at hR
      exact hD _ _ _ _ _ hR.symm hO hI
set_option maxRecDepth 20000 in
theorem s_both5 {fr n pos : Nat} {b nm : Nat → Int32} {Q : zQ} {μ : zMu} {τ : Int64} (hI : mI fr n 5 b nm μ τ pos) (hF : ∀ f v μ2 τ2, dB b nm n 0 pos = .inl f → mX μ μ2 f → Q (some (.int v)) μ2 τ2) (hD : ∀ v c q μ2 τ2, dB b nm n 0 pos = .inr (v, c, q) → mOff μ μ2 → mI fr n 5 b nm μ2 τ2 q → Q (some (.int v)) μ2 τ2) : Zc 8 yX11_both5 cX11_both5 3 (some .int) [.ref 61] μ τ Q := by
  refine Zc.mk 2 [.ref 61, .null, .null] rfl (by decide) (Nat.le_of_ble_eq_true rfl) ?_
  refine Zw_aload_0 dX11_both5_0 ?_
  refine Zw_V0 (k := 7) lm_X11_223 dX11_both5_1 (by decide) (by first | decide | assumption | omega) (by first | rfl | assumption) (by rfl) (Nat.le_of_ble_eq_true rfl) ?_
  refine s_not5 hI (fun f0 v0 μ0 τ0 e0 x0 => ?_) (fun v0 c0 q0 μ0 τ0 e0 o0 I0 => ?_)
  · refine Zw_istore_1 dX11_both5_4 rfl ?_
    refine Zw_aload_0 dX11_both5_5 ?_
    refine Zw_bipush (v := 97) dX11_both5_6 (by decide) ?_
    refine Zw_bipush (v := 110) dX11_both5_8 (by decide) ?_
    refine Zw_bipush (v := 100) dX11_both5_10 (by decide) ?_
    refine Zw_iconst (v := 0) dX11_both5_12 (by decide) ?_
    refine Zw_iconst (v := 0) dX11_both5_13 (by decide) ?_
    refine Zw_iconst (v := 0) dX11_both5_14 (by decide) ?_
    refine Zw_iconst (v := 0) dX11_both5_15 (by decide) ?_
    refine Zw_iconst (v := 0) dX11_both5_16 (by decide) ?_
    refine Zw_V8 (k := 2) lm_X11_177 dX11_both5_17 (by decide) (by first | decide | assumption | omega) (by first | rfl | assumption) (by rfl) (Nat.le_of_ble_eq_true rfl) ?_
    refine s_wordB x0.2.1 ?_
    refine Zw_if_eq 49 dX11_both5_20 (by decide) (fun _ => ?_) (fun c => absurd c (by decide))
    refine Zw_iload_1 dX11_both5_49 ?_
    refine Zw_ireturn dX11_both5_50 (by first | rfl | assumption) ?_
    exact hF _ _ _ _ (by unfold dB; unfold d_bin; rw [e0]) x0
  · refine Zw_istore_1 dX11_both5_4 rfl ?_
    exact l_both5 (μ0 := μ) (R := dB b nm n 0 pos) hF hD 161 v0 c0 q0 μ0 τ0 (by omega) o0 I0 (by unfold dB; unfold d_bin; rw [e0])
set_option maxRecDepth 20000 in
theorem l_either5 {Q : zQ} {fr n : Nat} {b nm : Nat → Int32} {μ0 : zMu} {R : dR} (hF : ∀ f v μ2 τ2, R = .inl f → mX μ0 μ2 f → Q (some (.int v)) μ2 τ2) (hD : ∀ v c q μ2 τ2, R = .inr (v, c, q) → mOff μ0 μ2 → mI fr n 5 b nm μ2 τ2 q → Q (some (.int v)) μ2 τ2) : ∀ m v c q μ τ, 161 ≤ m + q → mOff μ0 μ → mI fr n 5 b nm μ τ q → d_loop b n t_or (dB b nm n 0) m v c q = R → Zw 9 RX11 cX11_either5 3 (some .int) Q 5 [.ref 61, .int v, .null] [] μ τ
  | 0, v, c, q, μ, τ, hm, hO, hI, hR => absurd hm (by have := hI.2.1; have := hI.1.2.1; omega)
  | m + 1, v, c, q, μ, τ, hm, hO, hI, hR => by
    have hqn := hI.2.1
    refine Zw_aload_0 dX11_either5_5 ?_
    refine Zw_bipush (v := 111) dX11_either5_6 (by decide) ?_
    refine Zw_bipush (v := 114) dX11_either5_8 (by decide) ?_
    refine Zw_iconst (v := 0) dX11_either5_10 (by decide) ?_
    refine Zw_iconst (v := 0) dX11_either5_11 (by decide) ?_
    refine Zw_iconst (v := 0) dX11_either5_12 (by decide) ?_
    refine Zw_iconst (v := 0) dX11_either5_13 (by decide) ?_
    refine Zw_iconst (v := 0) dX11_either5_14 (by decide) ?_
    refine Zw_iconst (v := 0) dX11_either5_15 (by decide) ?_
    refine Zw_V8 (k := 2) lm_X11_177 dX11_either5_16 (by decide) (by first | decide | assumption | omega) (by first | rfl | assumption) (by rfl) (Nat.le_of_ble_eq_true rfl) ?_
    refine s_word (w := 3) hI.1 hI.2.1 hI.2.2.2.2.1 hI.2.2.2.2.2 (by decide) (by decide +kernel) (fun k1 => ?_) (fun k1 => ?_)
    all_goals rw [mw_tok (by decide), show k_wt 3 = 1 from rfl] at k1
    have ht : t_or (k_tok b n q) = true := decide_eq_true k1
    rotate_left
    have ht : ¬ t_or (k_tok b n q) = true := fun e => k1 (of_decide_eq_true e)
    rotate_right
    · refine Zw_if_eq 48 dX11_either5_19 (by decide) (fun c => absurd c (by decide)) (fun _ => ?_)
      refine Zw_aload_0 dX11_either5_22 ?_
      refine Zw_V0 (k := 1) lm_X11_174 dX11_either5_23 (by decide) (by first | decide | assumption | omega) (by first | rfl | assumption) (by rfl) (Nat.le_of_ble_eq_true rfl) ?_
      refine s_nx hI (by omega) (by omega) (fun μ2 τ2 o2 I2 => ?_)
      have hup := k_nx_up (b := b) (n := n) (i := q) (by omega)
      refine Zw_aload_0 dX11_either5_26 ?_
      refine Zw_V0 (k := 8) lm_X11_226 dX11_either5_27 (by decide) (by first | decide | assumption | omega) (by first | rfl | assumption) (by rfl) (Nat.le_of_ble_eq_true rfl) ?_
      refine s_both5 I2 (fun f1 v1 μ1 τ1 e1 x1 => ?_) (fun v1 c1 q1 μ1 τ1 e1 o1 I1 => ?_)
      · refine Zw_istore_2 dX11_either5_30 rfl ?_
        refine Zw_iload_1 dX11_either5_31 ?_
        refine Zw_if_ne 39 dX11_either5_32 (by decide) (fun c32 => ?_) (fun c32 => ?_)
        · refine Zw_iconst (v := 1) dX11_either5_39 (by decide) ?_
          refine Zw_goto 44 dX11_either5_40 (by decide) ?_
          refine Zw_istore_1 dX11_either5_44 rfl ?_
          refine Zw_goto 5 dX11_either5_45 (by decide) ?_
          refine Zw_aload_0 dX11_either5_5 ?_
          refine Zw_bipush (v := 111) dX11_either5_6 (by decide) ?_
          refine Zw_bipush (v := 114) dX11_either5_8 (by decide) ?_
          refine Zw_iconst (v := 0) dX11_either5_10 (by decide) ?_
          refine Zw_iconst (v := 0) dX11_either5_11 (by decide) ?_
          refine Zw_iconst (v := 0) dX11_either5_12 (by decide) ?_
          refine Zw_iconst (v := 0) dX11_either5_13 (by decide) ?_
          refine Zw_iconst (v := 0) dX11_either5_14 (by decide) ?_
          refine Zw_iconst (v := 0) dX11_either5_15 (by decide) ?_
          refine Zw_V8 (k := 2) lm_X11_177 dX11_either5_16 (by decide) (by first | decide | assumption | omega) (by first | rfl | assumption) (by rfl) (Nat.le_of_ble_eq_true rfl) ?_
          refine s_wordB x1.2.1 ?_
          refine Zw_if_eq 48 dX11_either5_19 (by decide) (fun _ => ?_) (fun c => absurd c (by decide))
          refine Zw_iload_1 dX11_either5_48 ?_
          refine Zw_ireturn dX11_either5_49 (by first | rfl | assumption) ?_
          rw [d_loop_s, if_pos ht, e1] at hR
          exact hF _ _ _ _ hR.symm (mX.tr (hO.tr o2) x1)
        · refine Zw_iload_2 dX11_either5_35 ?_
          refine Zw_if_eq 43 dX11_either5_36 (by decide) (fun c36 => ?_) (fun c36 => ?_)
          · refine Zw_iconst (v := 0) dX11_either5_43 (by decide) ?_
            refine Zw_istore_1 dX11_either5_44 rfl ?_
            refine Zw_goto 5 dX11_either5_45 (by decide) ?_
            refine Zw_aload_0 dX11_either5_5 ?_
            refine Zw_bipush (v := 111) dX11_either5_6 (by decide) ?_
            refine Zw_bipush (v := 114) dX11_either5_8 (by decide) ?_
            refine Zw_iconst (v := 0) dX11_either5_10 (by decide) ?_
            refine Zw_iconst (v := 0) dX11_either5_11 (by decide) ?_
            refine Zw_iconst (v := 0) dX11_either5_12 (by decide) ?_
            refine Zw_iconst (v := 0) dX11_either5_13 (by decide) ?_
            refine Zw_iconst (v := 0) dX11_either5_14 (by decide) ?_
            refine Zw_iconst (v := 0) dX11_either5_15 (by decide) ?_
            refine Zw_V8 (k := 2) lm_X11_177 dX11_either5_16 (by decide) (by first | decide | assumption | omega) (by first | rfl | assumption) (by rfl) (Nat.le_of_ble_eq_true rfl) ?_
            refine s_wordB x1.2.1 ?_
            refine Zw_if_eq 48 dX11_either5_19 (by decide) (fun _ => ?_) (fun c => absurd c (by decide))
            refine Zw_iload_1 dX11_either5_48 ?_
            refine Zw_ireturn dX11_either5_49 (by first | rfl | assumption) ?_
            rw [d_loop_s, if_pos ht, e1] at hR
            exact hF _ _ _ _ hR.symm (mX.tr (hO.tr o2) x1)
          · refine Zw_iconst (v := 1) dX11_either5_39 (by decide) ?_
            refine Zw_goto 44 dX11_either5_40 (by decide) ?_
            refine Zw_istore_1 dX11_either5_44 rfl ?_
            refine Zw_goto 5 dX11_either5_45 (by decide) ?_
            refine Zw_aload_0 dX11_either5_5 ?_
            refine Zw_bipush (v := 111) dX11_either5_6 (by decide) ?_
            refine Zw_bipush (v := 114) dX11_either5_8 (by decide) ?_
            refine Zw_iconst (v := 0) dX11_either5_10 (by decide) ?_
            refine Zw_iconst (v := 0) dX11_either5_11 (by decide) ?_
            refine Zw_iconst (v := 0) dX11_either5_12 (by decide) ?_
            refine Zw_iconst (v := 0) dX11_either5_13 (by decide) ?_
            refine Zw_iconst (v := 0) dX11_either5_14 (by decide) ?_
            refine Zw_iconst (v := 0) dX11_either5_15 (by decide) ?_
            refine Zw_V8 (k := 2) lm_X11_177 dX11_either5_16 (by decide) (by first | decide | assumption | omega) (by first | rfl | assumption) (by rfl) (Nat.le_of_ble_eq_true rfl) ?_
            refine s_wordB x1.2.1 ?_
            refine Zw_if_eq 48 dX11_either5_19 (by decide) (fun _ => ?_) (fun c => absurd c (by decide))
            refine Zw_iload_1 dX11_either5_48 ?_
            refine Zw_ireturn dX11_either5_49 (by first | rfl | assumption) ?_
            rw [d_loop_s, if_pos ht, e1] at hR
            exact hF _ _ _ _ hR.symm (mX.tr (hO.tr o2) x1)
      · refine Zw_istore_2 dX11_either5_30 rfl ?_
        refine Zw_iload_1 dX11_either5_31 ?_
        refine Zw_if_ne 39 dX11_either5_32 (by decide) (fun c32 => ?_) (fun c32 => ?_)
        · refine Zw_iconst (v := 1) dX11_either5_39 (by decide) ?_
          refine Zw_goto 44 dX11_either5_40 (by decide) ?_
          refine Zw_istore_1 dX11_either5_44 rfl ?_
          refine Zw_goto 5 dX11_either5_45 (by decide) ?_
          rw [show (1 : Int32) = q_joined (nI 1) v v1 by rw [qj1, if_pos (Or.inl c32)]]
          refine Zw_drop (L' := [.ref 61, .int (q_joined (nI 1) v v1), .null]) ⟨Or.inr rfl, Or.inr rfl, Or.inl rfl, trivial⟩ (Nat.le_of_ble_eq_true rfl) ?_
          rw [d_loop_s, if_pos ht, e1] at hR
          rw [k1, d_jn] at hR
          have hup1 := dB_up b nm n 0 _ _ _ _ hup.2 e1
          exact l_either5 hF hD m _ _ q1 μ1 τ1 (by omega) ((hO.tr o2).tr o1) I1 hR
        · refine Zw_iload_2 dX11_either5_35 ?_
          refine Zw_if_eq 43 dX11_either5_36 (by decide) (fun c36 => ?_) (fun c36 => ?_)
          · refine Zw_iconst (v := 0) dX11_either5_43 (by decide) ?_
            refine Zw_istore_1 dX11_either5_44 rfl ?_
            refine Zw_goto 5 dX11_either5_45 (by decide) ?_
            rw [show (0 : Int32) = q_joined (nI 1) v v1 by rw [qj1, if_neg (fun e => e.elim (fun a => a c32) (fun a => a c36))]]
            refine Zw_drop (L' := [.ref 61, .int (q_joined (nI 1) v v1), .null]) ⟨Or.inr rfl, Or.inr rfl, Or.inl rfl, trivial⟩ (Nat.le_of_ble_eq_true rfl) ?_
            rw [d_loop_s, if_pos ht, e1] at hR
            rw [k1, d_jn] at hR
            have hup1 := dB_up b nm n 0 _ _ _ _ hup.2 e1
            exact l_either5 hF hD m _ _ q1 μ1 τ1 (by omega) ((hO.tr o2).tr o1) I1 hR
          · refine Zw_iconst (v := 1) dX11_either5_39 (by decide) ?_
            refine Zw_goto 44 dX11_either5_40 (by decide) ?_
            refine Zw_istore_1 dX11_either5_44 rfl ?_
            refine Zw_goto 5 dX11_either5_45 (by decide) ?_
            rw [show (1 : Int32) = q_joined (nI 1) v v1 by rw [qj1, if_pos (Or.inr c36)]]
            refine Zw_drop (L' := [.ref 61, .int (q_joined (nI 1) v v1), .null]) ⟨Or.inr rfl, Or.inr rfl, Or.inl rfl, trivial⟩ (Nat.le_of_ble_eq_true rfl) ?_
            rw [d_loop_s, if_pos ht, e1] at hR
            rw [k1, d_jn] at hR
            have hup1 := dB_up b nm n 0 _ _ _ _ hup.2 e1
            exact l_either5 hF hD m _ _ q1 μ1 τ1 (by omega) ((hO.tr o2).tr o1) I1 hR
    · refine Zw_if_eq 48 dX11_either5_19 (by decide) (fun _ => ?_) (fun c => absurd c (by decide))
      refine Zw_iload_1 dX11_either5_48 ?_
      refine Zw_ireturn dX11_either5_49 (by first | rfl | assumption) ?_
      rw [d_loop_s, if_neg ht] at hR
      exact hD _ _ _ _ _ hR.symm hO hI
set_option maxRecDepth 20000 in
theorem s_either5 {fr n pos : Nat} {b nm : Nat → Int32} {Q : zQ} {μ : zMu} {τ : Int64} (hI : mI fr n 5 b nm μ τ pos) (hF : ∀ f v μ2 τ2, dE b nm n 0 pos = .inl f → mX μ μ2 f → Q (some (.int v)) μ2 τ2) (hD : ∀ v c q μ2 τ2, dE b nm n 0 pos = .inr (v, c, q) → mOff μ μ2 → mI fr n 5 b nm μ2 τ2 q → Q (some (.int v)) μ2 τ2) : Zc 9 yX11_either5 cX11_either5 3 (some .int) [.ref 61] μ τ Q := by
  refine Zc.mk 2 [.ref 61, .null, .null] rfl (by decide) (Nat.le_of_ble_eq_true rfl) ?_
  refine Zw_aload_0 dX11_either5_0 ?_
  refine Zw_V0 (k := 8) lm_X11_226 dX11_either5_1 (by decide) (by first | decide | assumption | omega) (by first | rfl | assumption) (by rfl) (Nat.le_of_ble_eq_true rfl) ?_
  refine s_both5 hI (fun f0 v0 μ0 τ0 e0 x0 => ?_) (fun v0 c0 q0 μ0 τ0 e0 o0 I0 => ?_)
  · refine Zw_istore_1 dX11_either5_4 rfl ?_
    refine Zw_aload_0 dX11_either5_5 ?_
    refine Zw_bipush (v := 111) dX11_either5_6 (by decide) ?_
    refine Zw_bipush (v := 114) dX11_either5_8 (by decide) ?_
    refine Zw_iconst (v := 0) dX11_either5_10 (by decide) ?_
    refine Zw_iconst (v := 0) dX11_either5_11 (by decide) ?_
    refine Zw_iconst (v := 0) dX11_either5_12 (by decide) ?_
    refine Zw_iconst (v := 0) dX11_either5_13 (by decide) ?_
    refine Zw_iconst (v := 0) dX11_either5_14 (by decide) ?_
    refine Zw_iconst (v := 0) dX11_either5_15 (by decide) ?_
    refine Zw_V8 (k := 2) lm_X11_177 dX11_either5_16 (by decide) (by first | decide | assumption | omega) (by first | rfl | assumption) (by rfl) (Nat.le_of_ble_eq_true rfl) ?_
    refine s_wordB x0.2.1 ?_
    refine Zw_if_eq 48 dX11_either5_19 (by decide) (fun _ => ?_) (fun c => absurd c (by decide))
    refine Zw_iload_1 dX11_either5_48 ?_
    refine Zw_ireturn dX11_either5_49 (by first | rfl | assumption) ?_
    exact hF _ _ _ _ (by rw [dE_s]; unfold d_bin; rw [e0]) x0
  · refine Zw_istore_1 dX11_either5_4 rfl ?_
    exact l_either5 (μ0 := μ) (R := dE b nm n 0 pos) hF hD 161 v0 c0 q0 μ0 τ0 (by omega) o0 I0 (by rw [dE_s]; unfold d_bin; rw [e0])
