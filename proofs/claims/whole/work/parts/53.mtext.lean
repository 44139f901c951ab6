def m_new (μ : zMu) (n : Nat) (kd nu on : Int32) : zMu := zup (zup (zup (zup (zup μ 67 n kd) 68 (3 * n) nu) 68 (3 * n + 1) on) 68 (3 * n + 2) 0) 61 11 (nI (n + 1))
def m_fl (it : Nat → Int32) (sz fr : Nat) : Nat → Nat → Nat → zMu → Nat → Int32 × zMu × Nat
  | 0, _, came, μ, n => (nI came, μ, n)
  | m + 1, k, came, μ, n => if fr + 3 * k + 3 ≤ sz then
      (if q_okF (it (fr + 3 * k)) (it (fr + 3 * k + 1)) (it (fr + 3 * k + 2)) = true ∧ n < 5 then m_fl it sz fr m (k + 1) (came + 1) (m_new μ n (it (fr + 3 * k)) (it (fr + 3 * k + 1)) (it (fr + 3 * k + 2))) (n + 1)
       else m_fl it sz fr m (k + 1) came μ n)
      else (-12, μ, n)
theorem m_fl_s (it : Nat → Int32) (sz fr m k came : Nat) (μ : zMu) (n : Nat) : m_fl it sz fr (m + 1) k came μ n = if fr + 3 * k + 3 ≤ sz then
      (if q_okF (it (fr + 3 * k)) (it (fr + 3 * k + 1)) (it (fr + 3 * k + 2)) = true ∧ n < 5 then m_fl it sz fr m (k + 1) (came + 1) (m_new μ n (it (fr + 3 * k)) (it (fr + 3 * k + 1)) (it (fr + 3 * k + 2))) (n + 1)
       else m_fl it sz fr m (k + 1) came μ n)
      else (-12, μ, n) := rfl
set_option maxRecDepth 20000 in
theorem s_mfindersB {s so fm m : Int32} {Q : zQ} {μ : zMu} {τ : Int64} (hbad : ¬ (vp_in s 4 ∧ vp_in so 3 ∧ vp_in m 6)) (h : Q (some (.int (-2))) μ τ) : Zc 3 yX11_finders cX11_finders 8 (some .int) [.ref 61, .int s, .int so, .int fm, .int m] μ τ Q := by
  refine Zc.mk 3 [.ref 61, .int s, .int so, .int fm, .int m, .null, .null, .null] rfl (by decide) (Nat.le_of_ble_eq_true rfl) ?_
  refine Zw_iload_1 dX11_finders_0 ?_
  refine Zw_S1 (k := 1) lm_X11_383 dX11_finders_1 (by decide) (Nat.le_of_ble_eq_true rfl) ?_
  refine s_isSheet (fun b1 => ?_) (fun b1 => ?_)
  · refine Zw_if_eq 32 dX11_finders_4 (by decide) (fun c => absurd c (by decide)) (fun _ => ?_)
    refine Zw_iload_2 dX11_finders_7 ?_
    refine Zw_i2l dX11_finders_8 ?_
    refine Zw_lconst (v := 0) dX11_finders_9 (by decide) ?_
    refine Zw_ldc2 dX11_finders_10 zw19 ?_
    refine Zw_S3 (k := 0) lm_X11_76 dX11_finders_13 (by decide) (Nat.le_of_ble_eq_true rfl) ?_
    refine s_in0 3 (by decide) (fun b2 => ?_) (fun b2 => ?_)
    · refine Zw_if_eq 32 dX11_finders_16 (by decide) (fun c => absurd c (by decide)) (fun _ => ?_)
      refine Zw_iload_4 dX11_finders_19 ?_
      refine Zw_i2l dX11_finders_21 ?_
      refine Zw_lconst (v := 0) dX11_finders_22 (by decide) ?_
      refine Zw_ldc2 dX11_finders_23 zw28 ?_
      refine Zw_S3 (k := 0) lm_X11_76 dX11_finders_26 (by decide) (Nat.le_of_ble_eq_true rfl) ?_
      refine s_in0 6 (by decide) (fun b3 => ?_) (fun b3 => ?_)
      · refine Zw_if_ne 35 dX11_finders_29 (by decide) (fun _ => ?_) (fun c => absurd c (by decide))
        exact absurd ⟨b1, b2, b3⟩ hbad
      · refine Zw_if_ne 35 dX11_finders_29 (by decide) (fun c => absurd c (by decide)) (fun _ => ?_)
        refine Zw_bipush (v := (-2)) dX11_finders_32 (by decide) ?_
        refine Zw_ireturn dX11_finders_34 (by first | rfl | assumption) ?_
        exact h
    · refine Zw_if_eq 32 dX11_finders_16 (by decide) (fun _ => ?_) (fun c => absurd c (by decide))
      refine Zw_bipush (v := (-2)) dX11_finders_32 (by decide) ?_
      refine Zw_ireturn dX11_finders_34 (by first | rfl | assumption) ?_
      exact h
  · refine Zw_if_eq 32 dX11_finders_4 (by decide) (fun _ => ?_) (fun c => absurd c (by decide))
    refine Zw_bipush (v := (-2)) dX11_finders_32 (by decide) ?_
    refine Zw_ireturn dX11_finders_34 (by first | rfl | assumption) ?_
    exact h
set_option maxRecDepth 20000 in
theorem s_mfindersU {a : Nat} {so fm m : Int32} {Q : zQ} {μ : zMu} {τ : Int64} (ha : a < 4) (hso : vp_in so 3) (hm : vp_in m 6) (hth : μ 74 a = 1) (hun : ¬ μ 75 a = so) (h : Q (some (.int (-13))) μ τ) : Zc 3 yX11_finders cX11_finders 8 (some .int) [.ref 61, .int (nI a), .int so, .int fm, .int m] μ τ Q := by
  refine Zc.mk 3 [.ref 61, .int (nI a), .int so, .int fm, .int m, .null, .null, .null] rfl (by decide) (Nat.le_of_ble_eq_true rfl) ?_
  refine Zw_iload_1 dX11_finders_0 ?_
  refine Zw_S1 (k := 1) lm_X11_383 dX11_finders_1 (by decide) (Nat.le_of_ble_eq_true rfl) ?_
  refine s_isSheet (fun _ => ?_) (fun a0 => absurd (vp_in_nI ha (by omega)) a0)
  refine Zw_if_eq 32 dX11_finders_4 (by decide) (fun c => absurd c (by decide)) (fun _ => ?_)
  refine Zw_iload_2 dX11_finders_7 ?_
  refine Zw_i2l dX11_finders_8 ?_
  refine Zw_lconst (v := 0) dX11_finders_9 (by decide) ?_
  refine Zw_ldc2 dX11_finders_10 zw19 ?_
  refine Zw_S3 (k := 0) lm_X11_76 dX11_finders_13 (by decide) (Nat.le_of_ble_eq_true rfl) ?_
  refine s_in0 3 (by decide) (fun _ => ?_) (fun a0 => absurd hso a0)
  refine Zw_if_eq 32 dX11_finders_16 (by decide) (fun c => absurd c (by decide)) (fun _ => ?_)
  refine Zw_iload_4 dX11_finders_19 ?_
  refine Zw_i2l dX11_finders_21 ?_
  refine Zw_lconst (v := 0) dX11_finders_22 (by decide) ?_
  refine Zw_ldc2 dX11_finders_23 zw28 ?_
  refine Zw_S3 (k := 0) lm_X11_76 dX11_finders_26 (by decide) (Nat.le_of_ble_eq_true rfl) ?_
  refine s_in0 6 (by decide) (fun _ => ?_) (fun a0 => absurd hm a0)
  refine Zw_if_ne 35 dX11_finders_29 (by decide) (fun _ => ?_) (fun c => absurd c (by decide))
  refine Zw_aload_0 dX11_finders_35 ?_
  refine Zw_getr 74 lf_X11_53 dX11_finders_36 (by first | decide | assumption | omega) (by first | rfl | assumption) (by rfl) ?_
  refine Zw_iload_1 dX11_finders_39 ?_
  refine Zw_zaldnv (a) (1) dX11_finders_40 (by first | decide | assumption | omega) (by first | rfl | assumption) rfl (by omega) (by decide) hth ?_
  refine Zw_if_eq 57 dX11_finders_41 (by decide) (fun c => absurd c (by decide)) (fun _ => ?_)
  refine Zw_aload_0 dX11_finders_44 ?_
  refine Zw_getr 75 lf_X11_57 dX11_finders_45 (by first | decide | assumption | omega) (by first | rfl | assumption) (by rfl) ?_
  refine Zw_iload_1 dX11_finders_48 ?_
  refine Zw_ialdn (a) dX11_finders_49 (by first | decide | assumption | omega) (by first | rfl | assumption) rfl (by omega) (by decide) ?_
  refine Zw_iload_2 dX11_finders_50 ?_
  refine Zw_icmp_eq 57 dX11_finders_51 (by decide) (fun c51 => absurd c51 hun) (fun c51 => ?_)
  refine Zw_bipush (v := (-13)) dX11_finders_54 (by decide) ?_
  refine Zw_ireturn dX11_finders_56 (by first | rfl | assumption) ?_
  exact h
set_option maxRecDepth 20000 in
theorem s_mfindersN {a : Nat} {so fm m : Int32} {Q : zQ} {μ : zMu} {τ : Int64} (ha : a < 4) (hso : vp_in so 3) (hm : vp_in m 6) (hth : μ 74 a = 0) (h : Q (some (.int (-11))) μ τ) : Zc 3 yX11_finders cX11_finders 8 (some .int) [.ref 61, .int (nI a), .int so, .int fm, .int m] μ τ Q := by
  refine Zc.mk 3 [.ref 61, .int (nI a), .int so, .int fm, .int m, .null, .null, .null] rfl (by decide) (Nat.le_of_ble_eq_true rfl) ?_
  refine Zw_iload_1 dX11_finders_0 ?_
  refine Zw_S1 (k := 1) lm_X11_383 dX11_finders_1 (by decide) (Nat.le_of_ble_eq_true rfl) ?_
  refine s_isSheet (fun _ => ?_) (fun a0 => absurd (vp_in_nI ha (by omega)) a0)
  refine Zw_if_eq 32 dX11_finders_4 (by decide) (fun c => absurd c (by decide)) (fun _ => ?_)
  refine Zw_iload_2 dX11_finders_7 ?_
  refine Zw_i2l dX11_finders_8 ?_
  refine Zw_lconst (v := 0) dX11_finders_9 (by decide) ?_
  refine Zw_ldc2 dX11_finders_10 zw19 ?_
  refine Zw_S3 (k := 0) lm_X11_76 dX11_finders_13 (by decide) (Nat.le_of_ble_eq_true rfl) ?_
  refine s_in0 3 (by decide) (fun _ => ?_) (fun a0 => absurd hso a0)
  refine Zw_if_eq 32 dX11_finders_16 (by decide) (fun c => absurd c (by decide)) (fun _ => ?_)
  refine Zw_iload_4 dX11_finders_19 ?_
  refine Zw_i2l dX11_finders_21 ?_
  refine Zw_lconst (v := 0) dX11_finders_22 (by decide) ?_
  refine Zw_ldc2 dX11_finders_23 zw28 ?_
  refine Zw_S3 (k := 0) lm_X11_76 dX11_finders_26 (by decide) (Nat.le_of_ble_eq_true rfl) ?_
  refine s_in0 6 (by decide) (fun _ => ?_) (fun a0 => absurd hm a0)
  refine Zw_if_ne 35 dX11_finders_29 (by decide) (fun _ => ?_) (fun c => absurd c (by decide))
  refine Zw_aload_0 dX11_finders_35 ?_
  refine Zw_getr 74 lf_X11_53 dX11_finders_36 (by first | decide | assumption | omega) (by first | rfl | assumption) (by rfl) ?_
  refine Zw_iload_1 dX11_finders_39 ?_
  refine Zw_zaldnv (a) (0) dX11_finders_40 (by first | decide | assumption | omega) (by first | rfl | assumption) rfl (by omega) (by decide) hth ?_
  refine Zw_if_eq 57 dX11_finders_41 (by decide) (fun _ => ?_) (fun c => absurd c (by decide))
  refine Zw_aload_0 dX11_finders_57 ?_
  refine Zw_getr 74 lf_X11_53 dX11_finders_58 (by first | decide | assumption | omega) (by first | rfl | assumption) (by rfl) ?_
  refine Zw_iload_1 dX11_finders_61 ?_
  refine Zw_zaldnv (a) (0) dX11_finders_62 (by first | decide | assumption | omega) (by first | rfl | assumption) rfl (by omega) (by decide) hth ?_
  refine Zw_if_ne 69 dX11_finders_63 (by decide) (fun c => absurd c (by decide)) (fun _ => ?_)
  refine Zw_bipush (v := (-11)) dX11_finders_66 (by decide) ?_
  refine Zw_ireturn dX11_finders_68 (by first | rfl | assumption) ?_
  exact h
set_option maxRecDepth 20000 in
theorem s_mfinders0 {a : Nat} {so fm : Int32} {Q : zQ} {μ : zMu} {τ : Int64} (ha : a < 4) (hso : vp_in so 3) (hth : μ 74 a = 1) (hun : μ 75 a = so) (h : Q (some (.int 0)) μ τ) : Zc 3 yX11_finders cX11_finders 8 (some .int) [.ref 61, .int (nI a), .int so, .int fm, .int 0] μ τ Q := by
  refine Zc.mk 3 [.ref 61, .int (nI a), .int so, .int fm, .int 0, .null, .null, .null] rfl (by decide) (Nat.le_of_ble_eq_true rfl) ?_
  refine Zw_iload_1 dX11_finders_0 ?_
  refine Zw_S1 (k := 1) lm_X11_383 dX11_finders_1 (by decide) (Nat.le_of_ble_eq_true rfl) ?_
  refine s_isSheet (fun _ => ?_) (fun a0 => absurd (vp_in_nI ha (by omega)) a0)
  refine Zw_if_eq 32 dX11_finders_4 (by decide) (fun c => absurd c (by decide)) (fun _ => ?_)
  refine Zw_iload_2 dX11_finders_7 ?_
  refine Zw_i2l dX11_finders_8 ?_
  refine Zw_lconst (v := 0) dX11_finders_9 (by decide) ?_
  refine Zw_ldc2 dX11_finders_10 zw19 ?_
  refine Zw_S3 (k := 0) lm_X11_76 dX11_finders_13 (by decide) (Nat.le_of_ble_eq_true rfl) ?_
  refine s_in0 3 (by decide) (fun _ => ?_) (fun a0 => absurd hso a0)
  refine Zw_if_eq 32 dX11_finders_16 (by decide) (fun c => absurd c (by decide)) (fun _ => ?_)
  refine Zw_iload_4 dX11_finders_19 ?_
  refine Zw_i2l dX11_finders_21 ?_
  refine Zw_lconst (v := 0) dX11_finders_22 (by decide) ?_
  refine Zw_ldc2 dX11_finders_23 zw28 ?_
  refine Zw_S3 (k := 0) lm_X11_76 dX11_finders_26 (by decide) (Nat.le_of_ble_eq_true rfl) ?_
  refine s_in0 6 (by decide) (fun _ => ?_) (fun a0 => absurd (by unfold vp_in; decide) a0)
  refine Zw_if_ne 35 dX11_finders_29 (by decide) (fun _ => ?_) (fun c => absurd c (by decide))
  refine Zw_aload_0 dX11_finders_35 ?_
  refine Zw_getr 74 lf_X11_53 dX11_finders_36 (by first | decide | assumption | omega) (by first | rfl | assumption) (by rfl) ?_
  refine Zw_iload_1 dX11_finders_39 ?_
  refine Zw_zaldnv (a) (1) dX11_finders_40 (by first | decide | assumption | omega) (by first | rfl | assumption) rfl (by omega) (by decide) hth ?_
  refine Zw_if_eq 57 dX11_finders_41 (by decide) (fun c => absurd c (by decide)) (fun _ => ?_)
  refine Zw_aload_0 dX11_finders_44 ?_
  refine Zw_getr 75 lf_X11_57 dX11_finders_45 (by first | decide | assumption | omega) (by first | rfl | assumption) (by rfl) ?_
  refine Zw_iload_1 dX11_finders_48 ?_
  refine Zw_ialdn (a) dX11_finders_49 (by first | decide | assumption | omega) (by first | rfl | assumption) rfl (by omega) (by decide) ?_
  refine Zw_iload_2 dX11_finders_50 ?_
  refine Zw_icmp_eq 57 dX11_finders_51 (by decide) (fun c51 => ?_) (fun c51 => absurd hun c51)
  refine Zw_aload_0 dX11_finders_57 ?_
  refine Zw_getr 74 lf_X11_53 dX11_finders_58 (by first | decide | assumption | omega) (by first | rfl | assumption) (by rfl) ?_
  refine Zw_iload_1 dX11_finders_61 ?_
  refine Zw_zaldnv (a) (1) dX11_finders_62 (by first | decide | assumption | omega) (by first | rfl | assumption) rfl (by omega) (by decide) hth ?_
  refine Zw_if_ne 69 dX11_finders_63 (by decide) (fun _ => ?_) (fun c => absurd c (by decide))
  refine Zw_iconst (v := 0) dX11_finders_69 (by decide) ?_
  refine Zw_istore_5 dX11_finders_70 rfl ?_
  refine Zw_iconst (v := 0) dX11_finders_72 (by decide) ?_
  refine Zw_istore_6 dX11_finders_73 rfl ?_
  refine Zw_iload_6 dX11_finders_75 ?_
  refine Zw_iload_4 dX11_finders_77 ?_
  refine Zw_icmp_ge 167 dX11_finders_79 (by decide) (fun _ => ?_) (fun c => absurd c (by decide))
  refine Zw_iload_5 dX11_finders_167 ?_
  refine Zw_ireturn dX11_finders_169 (by first | rfl | assumption) ?_
  exact h
set_option maxRecDepth 20000 in
theorem s_mfindersG {a m0 : Nat} {so fm : Int32} {Q : zQ} {μ : zMu} {τ : Int64} (ha : a < 4) (hso : vp_in so 3) (hth : μ 74 a = 1) (hun : μ 75 a = so) (hm6 : m0 ≤ 5) (hm0 : m0 ≠ 0) (hneg : fm < 0) (h : Q (some (.int (-12))) μ τ) : Zc 3 yX11_finders cX11_finders 8 (some .int) [.ref 61, .int (nI a), .int so, .int fm, .int (nI m0)] μ τ Q := by
  refine Zc.mk 3 [.ref 61, .int (nI a), .int so, .int fm, .int (nI m0), .null, .null, .null] rfl (by decide) (Nat.le_of_ble_eq_true rfl) ?_
  refine Zw_iload_1 dX11_finders_0 ?_
  refine Zw_S1 (k := 1) lm_X11_383 dX11_finders_1 (by decide) (Nat.le_of_ble_eq_true rfl) ?_
  refine s_isSheet (fun _ => ?_) (fun a0 => absurd (vp_in_nI ha (by omega)) a0)
  refine Zw_if_eq 32 dX11_finders_4 (by decide) (fun c => absurd c (by decide)) (fun _ => ?_)
  refine Zw_iload_2 dX11_finders_7 ?_
  refine Zw_i2l dX11_finders_8 ?_
  refine Zw_lconst (v := 0) dX11_finders_9 (by decide) ?_
  refine Zw_ldc2 dX11_finders_10 zw19 ?_
  refine Zw_S3 (k := 0) lm_X11_76 dX11_finders_13 (by decide) (Nat.le_of_ble_eq_true rfl) ?_
  refine s_in0 3 (by decide) (fun _ => ?_) (fun a0 => absurd hso a0)
  refine Zw_if_eq 32 dX11_finders_16 (by decide) (fun c => absurd c (by decide)) (fun _ => ?_)
  refine Zw_iload_4 dX11_finders_19 ?_
  refine Zw_i2l dX11_finders_21 ?_
  refine Zw_lconst (v := 0) dX11_finders_22 (by decide) ?_
  refine Zw_ldc2 dX11_finders_23 zw28 ?_
  refine Zw_S3 (k := 0) lm_X11_76 dX11_finders_26 (by decide) (Nat.le_of_ble_eq_true rfl) ?_
  refine s_in0 6 (by decide) (fun _ => ?_) (fun a0 => absurd (vp_in_nI (by omega) (by omega)) a0)
  refine Zw_if_ne 35 dX11_finders_29 (by decide) (fun _ => ?_) (fun c => absurd c (by decide))
  refine Zw_aload_0 dX11_finders_35 ?_
  refine Zw_getr 74 lf_X11_53 dX11_finders_36 (by first | decide | assumption | omega) (by first | rfl | assumption) (by rfl) ?_
  refine Zw_iload_1 dX11_finders_39 ?_
  refine Zw_zaldnv (a) (1) dX11_finders_40 (by first | decide | assumption | omega) (by first | rfl | assumption) rfl (by omega) (by decide) hth ?_
  refine Zw_if_eq 57 dX11_finders_41 (by decide) (fun c => absurd c (by decide)) (fun _ => ?_)
  refine Zw_aload_0 dX11_finders_44 ?_
  refine Zw_getr 75 lf_X11_57 dX11_finders_45 (by first | decide | assumption | omega) (by first | rfl | assumption) (by rfl) ?_
  refine Zw_iload_1 dX11_finders_48 ?_
  refine Zw_ialdn (a) dX11_finders_49 (by first | decide | assumption | omega) (by first | rfl | assumption) rfl (by omega) (by decide) ?_
  refine Zw_iload_2 dX11_finders_50 ?_
  refine Zw_icmp_eq 57 dX11_finders_51 (by decide) (fun c51 => ?_) (fun c51 => absurd hun c51)
  refine Zw_aload_0 dX11_finders_57 ?_
  refine Zw_getr 74 lf_X11_53 dX11_finders_58 (by first | decide | assumption | omega) (by first | rfl | assumption) (by rfl) ?_
  refine Zw_iload_1 dX11_finders_61 ?_
  refine Zw_zaldnv (a) (1) dX11_finders_62 (by first | decide | assumption | omega) (by first | rfl | assumption) rfl (by omega) (by decide) hth ?_
  refine Zw_if_ne 69 dX11_finders_63 (by decide) (fun _ => ?_) (fun c => absurd c (by decide))
  refine Zw_iconst (v := 0) dX11_finders_69 (by decide) ?_
  refine Zw_istore_5 dX11_finders_70 rfl ?_
  refine Zw_iconst (v := 0) dX11_finders_72 (by decide) ?_
  refine Zw_istore_6 dX11_finders_73 rfl ?_
  refine Zw_iload_6 dX11_finders_75 ?_
  refine Zw_iload_4 dX11_finders_77 ?_
  refine Zw_nicmp_ge (0) (m0) 167 dX11_finders_79 (by decide) rfl rfl (by omega) (by omega) (fun c79 => ?_) (fun c79 => ?_)
  · refine Zw_iload_5 dX11_finders_167 ?_
    refine Zw_ireturn dX11_finders_169 (by first | rfl | assumption) ?_
    exfalso
    omega
  · refine Zw_iload_3 dX11_finders_82 ?_
    refine Zw_if_lt 103 dX11_finders_83 (by decide) (fun c83 => ?_) (fun c83 => absurd hneg c83)
    refine Zw_bipush (v := (-12)) dX11_finders_103 (by decide) ?_
    refine Zw_ireturn dX11_finders_105 (by first | rfl | assumption) ?_
    exact h
set_option maxRecDepth 20000 in
theorem l_mfl {Q : zQ} {τ : Int64} {a fr m0 sz : Nat} {so : Int32} {it : Nat → Int32} {R : Int32 × zMu × Nat} (ha : a < 4) (hszb : sz ≤ 40) (hm6 : m0 ≤ 5) (hfr : fr < 2 ^ 31) (h : Q (some (.int R.1)) R.2.1 τ) : ∀ m k came μ n, m0 - k < m → k ≤ m0 → came ≤ k → n ≤ 5 → μ 61 11 = nI n → μ 76 a = nI sz → (∀ j, j < 40 → μ 77 (40 * a + j) = it j) → m_fl it sz fr (m0 - k) k came μ n = R → Zw 3 RX11 cX11_finders 8 (some .int) Q 75 [.ref 61, .int (nI a), .int so, .int (nI fr), .int (nI m0), .int (nI came), .int (nI k), .null] [] μ τ
  | 0, k, _, _, _, hm, _, _, _, _, _, _, _ => absurd hm (by omega)
  | m + 1, k, came, μ, n, hm, hk, hck, hn, hnn, hsz, hit, hV => by
    refine Zw_iload_6 dX11_finders_75 ?_
    refine Zw_iload_4 dX11_finders_77 ?_
    refine Zw_nicmp_ge (k) (m0) 167 dX11_finders_79 (by decide) rfl rfl (by omega) (by omega) (fun c79 => ?_) (fun c79 => ?_)
    · refine Zw_iload_5 dX11_finders_167 ?_
      refine Zw_ireturn dX11_finders_169 (by first | rfl | assumption) ?_
      @@R169
    · refine Zw_iload_3 dX11_finders_82 ?_
      refine Zw_if_lt 103 dX11_finders_83 (by decide) (fun c83 => absurd c83 (nI_pos (by omega))) (fun c83 => ?_)
      refine Zw_iload_3 dX11_finders_86 ?_
      refine Zw_aload_0 dX11_finders_87 ?_
      refine Zw_getr 76 lf_X11_60 dX11_finders_88 (by first | decide | assumption | omega) (by first | rfl | assumption) (by rfl) ?_
      refine Zw_iload_1 dX11_finders_91 ?_
      refine Zw_ialdnv (a) (nI sz) dX11_finders_92 (by first | decide | assumption | omega) (by first | rfl | assumption) rfl (by omega) (by decide) hsz ?_
      refine Zw_iconst (v := 3) dX11_finders_93 (by decide) ?_
      refine Zw_iload_6 dX11_finders_94 ?_
      refine Zw_nmul (3) (k) dX11_finders_96 rfl rfl ?_
      refine Zw_isub dX11_finders_97 ?_
      refine Zw_iconst (v := 3) dX11_finders_98 (by decide) ?_
      refine Zw_isub dX11_finders_99 ?_
      refine Zw_icmp_le 106 dX11_finders_100 (by decide) (fun c100 => ?_) (fun c100 => ?_)
      · refine Zw_bipush (v := 40) dX11_finders_106 (by decide) ?_
        refine Zw_iload_1 dX11_finders_108 ?_
        refine Zw_nmul (40) (a) dX11_finders_109 rfl rfl ?_
        refine Zw_iload_3 dX11_finders_110 ?_
        refine Zw_nadd ((40 * a)) (fr) dX11_finders_111 rfl rfl ?_
        refine Zw_iconst (v := 3) dX11_finders_112 (by decide) ?_
        refine Zw_iload_6 dX11_finders_113 ?_
        refine Zw_nmul (3) (k) dX11_finders_115 rfl rfl ?_
        refine Zw_nadd (((40 * a) + fr)) ((3 * k)) dX11_finders_116 rfl rfl ?_
        refine Zw_istore_7 dX11_finders_117 rfl ?_
        refine Zw_iload_5 dX11_finders_119 ?_
        refine Zw_aload_0 dX11_finders_121 ?_
        refine Zw_aload_0 dX11_finders_122 ?_
        refine Zw_getr 77 lf_X11_63 dX11_finders_123 (by first | decide | assumption | omega) (by first | rfl | assumption) (by rfl) ?_
        refine Zw_iload_7 dX11_finders_126 ?_
        refine Zw_ialdn ((((40 * a) + fr) + (3 * k))) dX11_finders_128 (by first | decide | assumption | omega) (by first | rfl | assumption) rfl (by omega) (by decide) ?_
        refine Zw_aload_0 dX11_finders_129 ?_
        refine Zw_getr 77 lf_X11_63 dX11_finders_130 (by first | decide | assumption | omega) (by first | rfl | assumption) (by rfl) ?_
        refine Zw_iload_7 dX11_finders_133 ?_
        refine Zw_iconst (v := 1) dX11_finders_135 (by decide) ?_
        refine Zw_nadd ((((40 * a) + fr) + (3 * k))) (1) dX11_finders_136 rfl rfl ?_
        refine Zw_ialdn (((((40 * a) + fr) + (3 * k)) + 1)) dX11_finders_137 (by first | decide | assumption | omega) (by first | rfl | assumption) rfl (by omega) (by decide) ?_
        refine Zw_aload_0 dX11_finders_138 ?_
        refine Zw_getr 77 lf_X11_63 dX11_finders_139 (by first | decide | assumption | omega) (by first | rfl | assumption) (by rfl) ?_
        refine Zw_iload_7 dX11_finders_142 ?_
        refine Zw_iconst (v := 2) dX11_finders_144 (by decide) ?_
        refine Zw_nadd ((((40 * a) + fr) + (3 * k))) (2) dX11_finders_145 rfl rfl ?_
        refine Zw_ialdn (((((40 * a) + fr) + (3 * k)) + 2)) dX11_finders_146 (by first | decide | assumption | omega) (by first | rfl | assumption) rfl (by omega) (by decide) ?_
        refine Zw_V3 (k := 2) lm_X11_415 dX11_finders_147 (by decide) (by first | decide | assumption | omega) (by first | rfl | assumption) (by rfl) (Nat.le_of_ble_eq_true rfl) ?_
        have hk3 : fr + 3 * k + 3 ≤ sz := by omega
        have i0 : μ 77 (40 * a + fr + 3 * k) = it (fr + 3 * k) := by rw [show 40 * a + fr + 3 * k = 40 * a + (fr + 3 * k) by omega]; exact hit _ (by omega)
        have i1 : μ 77 (40 * a + fr + 3 * k + 1) = it (fr + 3 * k + 1) := by rw [show 40 * a + fr + 3 * k + 1 = 40 * a + (fr + 3 * k + 1) by omega]; exact hit _ (by omega)
        have i2 : μ 77 (40 * a + fr + 3 * k + 2) = it (fr + 3 * k + 2) := by rw [show 40 * a + fr + 3 * k + 2 = 40 * a + (fr + 3 * k + 2) by omega]; exact hit _ (by omega)
        rw [i0, i1, i2]
        by_cases hq : vp_in (it (fr + 3 * k)) 6 ∧ vp_in (it (fr + 3 * k + 1)) 10 ∧ vp_in (it (fr + 3 * k + 2)) 8
        · by_cases hn5 : n < 5
          · refine s_mfinder n hq hnn hn5 ?_
            replace hq := q_okF_iff.mpr hq
            refine Zw_if_lt 157 dX11_finders_150 (by decide) (fun c150 => absurd c150 (nI_pos (by omega))) (fun c150 => ?_)
            refine Zw_iconst (v := 1) dX11_finders_153 (by decide) ?_
            refine Zw_goto 158 dX11_finders_154 (by decide) ?_
            refine Zw_nadd (came) (1) dX11_finders_158 rfl rfl ?_
            refine Zw_istore_5 dX11_finders_159 rfl ?_
            refine Zw_iinc_6 dX11_finders_161 rfl (zincn _) ?_
            refine Zw_goto 75 dX11_finders_164 (by decide) ?_
            refine Zw_drop (L' := [.ref 61, .int (nI a), .int so, .int (nI fr), .int (nI m0), .int (nI (came + 1)), .int (nI (k + 1)), .null]) ⟨Or.inr rfl, Or.inr rfl, Or.inr rfl, Or.inr rfl, Or.inr rfl, Or.inr rfl, Or.inr rfl, Or.inl rfl, trivial⟩ (Nat.le_of_ble_eq_true rfl) ?_
            rw [show m0 - k = (m0 - (k + 1)) + 1 by omega, m_fl_s, if_pos hk3, if_pos ⟨hq, hn5⟩] at hV
            exact l_mfl ha hszb hm6 h m (k + 1) (came + 1) _ (n + 1) (by omega) (by omega) (by omega) (by omega) (by simp [m_new, zup_at]) (by rw [m_new, zup_ne (by decide), zup_ne (by decide), zup_ne (by decide), zup_ne (by decide), zup_ne (by decide)]; exact hsz) (fun j hj => by rw [m_new, zup_ne (by decide), zup_ne (by decide), zup_ne (by decide), zup_ne (by decide), zup_ne (by decide)]; exact hit j hj) hV
          · obtain rfl : n = 5 := by omega
            refine s_mfinderF hq hnn ?_
            refine Zw_if_lt 157 dX11_finders_150 (by decide) (fun c150 => ?_) (fun c150 => absurd c150 XX)
            refine Zw_iconst (v := 0) dX11_finders_157 (by decide) ?_
            refine Zw_nadd (came) (0) dX11_finders_158 rfl rfl ?_
            refine Zw_istore_5 dX11_finders_159 rfl ?_
            refine Zw_iinc_6 dX11_finders_161 rfl (zincn _) ?_
            refine Zw_goto 75 dX11_finders_164 (by decide) ?_
            refine Zw_drop (L' := [.ref 61, .int (nI a), .int so, .int (nI fr), .int (nI m0), .int (nI came), .int (nI (k + 1)), .null]) ⟨Or.inr rfl, Or.inr rfl, Or.inr rfl, Or.inr rfl, Or.inr rfl, Or.inr rfl, Or.inr rfl, Or.inl rfl, trivial⟩ (Nat.le_of_ble_eq_true rfl) ?_
            rw [show m0 - k = (m0 - (k + 1)) + 1 by omega, m_fl_s, if_pos hk3, if_neg (fun e => absurd e.2 (by omega))] at hV
            exact l_mfl ha hszb hm6 h m (k + 1) came _ n (by omega) (by omega) (by omega) hn hnn hsz hit hV
        · refine s_mfinderB hq ?_
          refine Zw_if_lt 157 dX11_finders_150 (by decide) (fun c150 => ?_) (fun c150 => absurd c150 XX)
          refine Zw_iconst (v := 0) dX11_finders_157 (by decide) ?_
          refine Zw_nadd (came) (0) dX11_finders_158 rfl rfl ?_
          refine Zw_istore_5 dX11_finders_159 rfl ?_
          refine Zw_iinc_6 dX11_finders_161 rfl (zincn _) ?_
          refine Zw_goto 75 dX11_finders_164 (by decide) ?_
          refine Zw_drop (L' := [.ref 61, .int (nI a), .int so, .int (nI fr), .int (nI m0), .int (nI came), .int (nI (k + 1)), .null]) ⟨Or.inr rfl, Or.inr rfl, Or.inr rfl, Or.inr rfl, Or.inr rfl, Or.inr rfl, Or.inr rfl, Or.inl rfl, trivial⟩ (Nat.le_of_ble_eq_true rfl) ?_
          rw [show m0 - k = (m0 - (k + 1)) + 1 by omega, m_fl_s, if_pos hk3, if_neg (fun e => hq (q_okF_iff.mp e.1))] at hV
          exact l_mfl ha hszb hm6 h m (k + 1) came _ n (by omega) (by omega) (by omega) hn hnn hsz hit hV
      · refine Zw_bipush (v := (-12)) dX11_finders_103 (by decide) ?_
        refine Zw_ireturn dX11_finders_105 (by first | rfl | assumption) ?_
        @@R105
