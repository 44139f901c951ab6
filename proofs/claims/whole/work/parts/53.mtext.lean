theorem fl_sub {k sz : Nat} (hs : sz ≤ 40) (hk : k ≤ 5) : (nI sz - nI (3 * k) - 3).toInt = (sz : Int) - 3 * k - 3 := by
  have e1 : (nI sz - nI (3 * k)).toInt = (sz : Int) - (3 * k : Nat) := pk_sub_toInt (by omega) (by omega)
  rw [Int32.toInt_sub, e1, show (3 : Int32).toInt = 3 from by decide]
  rw [Int.bmod_eq_of_le (by omega) (by omega)]
  omega
theorem fl_ge {k sz fr : Nat} (hs : sz ≤ 40) (hk : k ≤ 5) (hf : fr < 2 ^ 31) (h : nI fr ≤ nI sz - nI (3 * k) - 3) : fr + 3 * k + 3 ≤ sz := by
  have := Int32.le_iff_toInt_le.mp h
  rw [fl_sub hs hk, nI_toInt hf] at this
  omega
theorem fl_le {k sz fr : Nat} (hs : sz ≤ 40) (hk : k ≤ 5) (hf : fr < 2 ^ 31) (h : fr + 3 * k + 3 ≤ sz) : nI fr ≤ nI sz - nI (3 * k) - 3 := by
  apply Int32.le_iff_toInt_le.mpr
  rw [fl_sub hs hk, nI_toInt hf]
  omega
def m_new (μ : zMu) (n : Nat) (kd nu on : Int32) : zMu := zup (zup (zup (zup (zup μ 67 n kd) 68 (3 * n) nu) 68 (3 * n + 1) on) 68 (3 * n + 2) 0) 61 11 (nI (n + 1))
def m_fl (it : Nat → Int32) (sz fr : Nat) : Nat → Nat → Nat → zMu → Nat → Int32 × zMu × Nat
  | 0, _, came, μ, n => (nI came, μ, n)
  | m + 1, k, came, μ, n => if fr + 3 * k + 3 ≤ sz then
      (if q_okF (it (fr + 3 * k)) (it (fr + 3 * k + 1)) (it (fr + 3 * k + 2)) = true ∧ n < 5 then m_fl it sz fr m (k + 1) (came + 1) (m_new μ n (it (fr + 3 * k)) (it (fr + 3 * k + 1)) (it (fr + 3 * k + 2))) (n + 1)
       else m_fl it sz fr m (k + 1) came μ n)
      else (-12, μ, n)
theorem m_fl_s (it : Nat → Int32) (sz fr m k came : Nat) (μ : zMu) (n : Nat) : m_fl it sz fr (m + 1) k came μ n = if fr + 3 * k + 3 ≤ sz then
      (if q_okF (it (fr + 3 * k)) (it (fr + 3 * k + 1)) (it (fr + 3 * k + 2)) = true ∧ n < 5 then m_fl it sz fr m (k + 1) (came + 1) (m_new μ n (it (fr + 3 * k)) (it (fr + 3 * k + 1)) (it (fr + 3 * k + 2))) (n + 1)
       else m_fl it sz fr m (k + 1) came μ n)
      else (-12, μ, n) := rfl
set_option maxRecDepth 20000 in
theorem s_mfindersB {s so fm m : Int32} {Q : zQ} {μ : zMu} {τ : Int64} (hbad : ¬ (vp_in s 4 ∧ vp_in so 3 ∧ vp_in m 6)) (h : Q (some (.int (-2))) μ τ) : Zc 3 yX11_finders cX11_finders 8 (some .int) [.ref 61, .int s, .int so, .int fm, .int m] μ τ Q := by
  refine Zc.mk 3 [.ref 61, .int s, .int so, .int fm, .int m, .null, .null, .null] rfl (by decide) (Nat.le_of_ble_eq_true rfl) ?_
  refine Zw_iload_1 dX11_finders_0 ?_
  refine Zw_S1 (k := 1) lm_X11_383 dX11_finders_1 (by decide) (Nat.le_of_ble_eq_true rfl) ?_
  refine s_isSheet (fun b1 => ?_) (fun b1 => ?_)
  · refine Zw_if_eq 32 dX11_finders_4 (by decide) (fun c => absurd c (by decide)) (fun _ => ?_)
    refine Zw_iload_2 dX11_finders_7 ?_
    refine Zw_i2l dX11_finders_8 ?_
    refine Zw_lconst (v := 0) dX11_finders_9 (by decide) ?_
    refine Zw_ldc2 dX11_finders_10 zw19 ?_
    refine Zw_S3 (k := 0) lm_X11_76 dX11_finders_13 (by decide) (Nat.le_of_ble_eq_true rfl) ?_
    refine s_in0 3 (by decide) (fun b2 => ?_) (fun b2 => ?_)
    · refine Zw_if_eq 32 dX11_finders_16 (by decide) (fun c => absurd c (by decide)) (fun _ => ?_)
      refine Zw_iload_4 dX11_finders_19 ?_
      refine Zw_i2l dX11_finders_21 ?_
      refine Zw_lconst (v := 0) dX11_finders_22 (by decide) ?_
      refine Zw_ldc2 dX11_finders_23 zw28 ?_
      refine Zw_S3 (k := 0) lm_X11_76 dX11_finders_26 (by decide) (Nat.le_of_ble_eq_true rfl) ?_
      refine s_in0 6 (by decide) (fun b3 => ?_) (fun b3 => ?_)
      · refine Zw_if_ne 35 dX11_finders_29 (by decide) (fun _ => ?_) (fun c => absurd c (by decide))
        exact absurd ⟨b1, b2, b3⟩ hbad
      · refine Zw_if_ne 35 dX11_finders_29 (by decide) (fun c => absurd c (by decide)) (fun _ => ?_)
        refine Zw_bipush (v := (-2)) dX11_finders_32 (by decide) ?_
        refine Zw_ireturn dX11_finders_34 (by first | rfl | assumption) ?_
        exact h
    · refine Zw_if_eq 32 dX11_finders_16 (by decide) (fun _ => ?_) (fun c => absurd c (by decide))
      refine Zw_bipush (v := (-2)) dX11_finders_32 (by decide) ?_
      refine Zw_ireturn dX11_finders_34 (by first | rfl | assumption) ?_
      exact h
  · refine Zw_if_eq 32 dX11_finders_4 (by decide) (fun _ => ?_) (fun c => absurd c (by decide))
    refine Zw_bipush (v := (-2)) dX11_finders_32 (by decide) ?_
    refine Zw_ireturn dX11_finders_34 (by first | rfl | assumption) ?_
    exact h
set_option maxRecDepth 20000 in
theorem s_mfindersU {a : Nat} {so fm m : Int32} {Q : zQ} {μ : zMu} {τ : Int64} (ha : a < 4) (hso : vp_in so 3) (hm : vp_in m 6) (hth : μ 74 a = 1) (hun : ¬ μ 75 a = so) (h : Q (some (.int (-13))) μ τ) : Zc 3 yX11_finders cX11_finders 8 (some .int) [.ref 61, .int (nI a), .int so, .int fm, .int m] μ τ Q := by
  refine Zc.mk 3 [.ref 61, .int (nI a), .int so, .int fm, .int m, .null, .null, .null] rfl (by decide) (Nat.le_of_ble_eq_true rfl) ?_
  refine Zw_iload_1 dX11_finders_0 ?_
  refine Zw_S1 (k := 1) lm_X11_383 dX11_finders_1 (by decide) (Nat.le_of_ble_eq_true rfl) ?_
  refine s_isSheet (fun _ => ?_) (fun a0 => absurd (vp_in_nI ha (by omega)) a0)
  refine Zw_if_eq 32 dX11_finders_4 (by decide) (fun c => absurd c (by decide)) (fun _ => ?_)
  refine Zw_iload_2 dX11_finders_7 ?_
  refine Zw_i2l dX11_finders_8 ?_
  refine Zw_lconst (v := 0) dX11_finders_9 (by decide) ?_
  refine Zw_ldc2 dX11_finders_10 zw19 ?_
  refine Zw_S3 (k := 0) lm_X11_76 dX11_finders_13 (by decide) (Nat.le_of_ble_eq_true rfl) ?_
  refine s_in0 3 (by decide) (fun _ => ?_) (fun a0 => absurd hso a0)
  refine Zw_if_eq 32 dX11_finders_16 (by decide) (fun c => absurd c (by decide)) (fun _ => ?_)
  refine Zw_iload_4 dX11_finders_19 ?_
  refine Zw_i2l dX11_finders_21 ?_
  refine Zw_lconst (v := 0) dX11_finders_22 (by decide) ?_
  refine Zw_ldc2 dX11_finders_23 zw28 ?_
  refine Zw_S3 (k := 0) lm_X11_76 dX11_finders_26 (by decide) (Nat.le_of_ble_eq_true rfl) ?_
  refine s_in0 6 (by decide) (fun _ => ?_) (fun a0 => absurd hm a0)
  refine Zw_if_ne 35 dX11_finders_29 (by decide) (fun _ => ?_) (fun c => absurd c (by decide))
  refine Zw_aload_0 dX11_finders_35 ?_
  refine Zw_getr 74 lf_X11_53 dX11_finders_36 (by first | decide | assumption | omega) (by first | rfl | assumption) (by rfl) ?_
  refine Zw_iload_1 dX11_finders_39 ?_
  refine Zw_zaldnv (a) (1) dX11_finders_40 (by first | decide | assumption | omega) (by first | rfl | assumption) rfl (by omega) (by decide) hth ?_
  refine Zw_if_eq 57 dX11_finders_41 (by decide) (fun c => absurd c (by decide)) (fun _ => ?_)
  refine Zw_aload_0 dX11_finders_44 ?_
  refine Zw_getr 75 lf_X11_57 dX11_finders_45 (by first | decide | assumption | omega) (by first | rfl | assumption) (by rfl) ?_
  refine Zw_iload_1 dX11_finders_48 ?_
  refine Zw_ialdn (a) dX11_finders_49 (by first | decide | assumption | omega) (by first | rfl | assumption) rfl (by omega) (by decide) ?_
  refine Zw_iload_2 dX11_finders_50 ?_
  refine Zw_icmp_eq 57 dX11_finders_51 (by decide) (fun c51 => absurd c51 hun) (fun c51 => ?_)
  refine Zw_bipush (v := (-13)) dX11_finders_54 (by decide) ?_
  refine Zw_ireturn dX11_finders_56 (by first | rfl | assumption) ?_
  exact h
set_option maxRecDepth 20000 in
theorem s_mfindersN {a : Nat} {so fm m : Int32} {Q : zQ} {μ : zMu} {τ : Int64} (ha : a < 4) (hso : vp_in so 3) (hm : vp_in m 6) (hth : μ 74 a = 0) (h : Q (some (.int (-11))) μ τ) : Zc 3 yX11_finders cX11_finders 8 (some .int) [.ref 61, .int (nI a), .int so, .int fm, .int m] μ τ Q := by
  refine Zc.mk 3 [.ref 61, .int (nI a), .int so, .int fm, .int m, .null, .null, .null] rfl (by decide) (Nat.le_of_ble_eq_true rfl) ?_
  refine Zw_iload_1 dX11_finders_0 ?_
  refine Zw_S1 (k := 1) lm_X11_383 dX11_finders_1 (by decide) (Nat.le_of_ble_eq_true rfl) ?_
  refine s_isSheet (fun _ => ?_) (fun a0 => absurd (vp_in_nI ha (by omega)) a0)
  refine Zw_if_eq 32 dX11_finders_4 (by decide) (fun c => absurd c (by decide)) (fun _ => ?_)
  refine Zw_iload_2 dX11_finders_7 ?_
  refine Zw_i2l dX11_finders_8 ?_
  refine Zw_lconst (v := 0) dX11_finders_9 (by decide) ?_
  refine Zw_ldc2 dX11_finders_10 zw19 ?_
  refine Zw_S3 (k := 0) lm_X11_76 dX11_finders_13 (by decide) (Nat.le_of_ble_eq_true rfl) ?_
  refine s_in0 3 (by decide) (fun _ => ?_) (fun a0 => absurd hso a0)
  refine Zw_if_eq 32 dX11_finders_16 (by decide) (fun c => absurd c (by decide)) (fun _ => ?_)
  refine Zw_iload_4 dX11_finders_19 ?_
  refine Zw_i2l dX11_finders_21 ?_
  refine Zw_lconst (v := 0) dX11_finders_22 (by decide) ?_
  refine Zw_ldc2 dX11_finders_23 zw28 ?_
  refine Zw_S3 (k := 0) lm_X11_76 dX11_finders_26 (by decide) (Nat.le_of_ble_eq_true rfl) ?_
  refine s_in0 6 (by decide) (fun _ => ?_) (fun a0 => absurd hm a0)
  refine Zw_if_ne 35 dX11_finders_29 (by decide) (fun _ => ?_) (fun c => absurd c (by decide))
  refine Zw_aload_0 dX11_finders_35 ?_
  refine Zw_getr 74 lf_X11_53 dX11_finders_36 (by first | decide | assumption | omega) (by first | rfl | assumption) (by rfl) ?_
  refine Zw_iload_1 dX11_finders_39 ?_
  refine Zw_zaldnv (a) (0) dX11_finders_40 (by first | decide | assumption | omega) (by first | rfl | assumption) rfl (by omega) (by decide) hth ?_
  refine Zw_if_eq 57 dX11_finders_41 (by decide) (fun _ => ?_) (fun c => absurd c (by decide))
  refine Zw_aload_0 dX11_finders_57 ?_
  refine Zw_getr 74 lf_X11_53 dX11_finders_58 (by first | decide | assumption | omega) (by first | rfl | assumption) (by rfl) ?_
  refine Zw_iload_1 dX11_finders_61 ?_
  refine Zw_zaldnv (a) (0) dX11_finders_62 (by first | decide | assumption | omega) (by first | rfl | assumption) rfl (by omega) (by decide) hth ?_
  refine Zw_if_ne 69 dX11_finders_63 (by decide) (fun c => absurd c (by decide)) (fun _ => ?_)
  refine Zw_bipush (v := (-11)) dX11_finders_66 (by decide) ?_
  refine Zw_ireturn dX11_finders_68 (by first | rfl | assumption) ?_
  exact h
set_option maxRecDepth 20000 in
theorem s_mfinders0 {a : Nat} {so fm : Int32} {Q : zQ} {μ : zMu} {τ : Int64} (ha : a < 4) (hso : vp_in so 3) (hth : μ 74 a = 1) (hun : μ 75 a = so) (h : Q (some (.int 0)) μ τ) : Zc 3 yX11_finders cX11_finders 8 (some .int) [.ref 61, .int (nI a), .int so, .int fm, .int 0] μ τ Q := by
  refine Zc.mk 3 [.ref 61, .int (nI a), .int so, .int fm, .int 0, .null, .null, .null] rfl (by decide) (Nat.le_of_ble_eq_true rfl) ?_
  refine Zw_iload_1 dX11_finders_0 ?_
  refine Zw_S1 (k := 1) lm_X11_383 dX11_finders_1 (by decide) (Nat.le_of_ble_eq_true rfl) ?_
  refine s_isSheet (fun _ => ?_) (fun a0 => absurd (vp_in_nI ha (by omega)) a0)
  refine Zw_if_eq 32 dX11_finders_4 (by decide) (fun c => absurd c (by decide)) (fun _ => ?_)
  refine Zw_iload_2 dX11_finders_7 ?_
  refine Zw_i2l dX11_finders_8 ?_
  refine Zw_lconst (v := 0) dX11_finders_9 (by decide) ?_
  refine Zw_ldc2 dX11_finders_10 zw19 ?_
  refine Zw_S3 (k := 0) lm_X11_76 dX11_finders_13 (by decide) (Nat.le_of_ble_eq_true rfl) ?_
  refine s_in0 3 (by decide) (fun _ => ?_) (fun a0 => absurd hso a0)
  refine Zw_if_eq 32 dX11_finders_16 (by decide) (fun c => absurd c (by decide)) (fun _ => ?_)
  refine Zw_iload_4 dX11_finders_19 ?_
  refine Zw_i2l dX11_finders_21 ?_
  refine Zw_lconst (v := 0) dX11_finders_22 (by decide) ?_
  refine Zw_ldc2 dX11_finders_23 zw28 ?_
  refine Zw_S3 (k := 0) lm_X11_76 dX11_finders_26 (by decide) (Nat.le_of_ble_eq_true rfl) ?_
  refine s_in0 6 (by decide) (fun _ => ?_) (fun a0 => absurd (by unfold vp_in; decide) a0)
  refine Zw_if_ne 35 dX11_finders_29 (by decide) (fun _ => ?_) (fun c => absurd c (by decide))
  refine Zw_aload_0 dX11_finders_35 ?_
  refine Zw_getr 74 lf_X11_53 dX11_finders_36 (by first | decide | assumption | omega) (by first | rfl | assumption) (by rfl) ?_
  refine Zw_iload_1 dX11_finders_39 ?_
  refine Zw_zaldnv (a) (1) dX11_finders_40 (by first | decide | assumption | omega) (by first | rfl | assumption) rfl (by omega) (by decide) hth ?_
  refine Zw_if_eq 57 dX11_finders_41 (by decide) (fun c => absurd c (by decide)) (fun _ => ?_)
  refine Zw_aload_0 dX11_finders_44 ?_
  refine Zw_getr 75 lf_X11_57 dX11_finders_45 (by first | decide | assumption | omega) (by first | rfl | assumption) (by rfl) ?_
  refine Zw_iload_1 dX11_finders_48 ?_
  refine Zw_ialdn (a) dX11_finders_49 (by first | decide | assumption | omega) (by first | rfl | assumption) rfl (by omega) (by decide) ?_
  refine Zw_iload_2 dX11_finders_50 ?_
  refine Zw_icmp_eq 57 dX11_finders_51 (by decide) (fun c51 => ?_) (fun c51 => absurd hun c51)
  refine Zw_aload_0 dX11_finders_57 ?_
  refine Zw_getr 74 lf_X11_53 dX11_finders_58 (by first | decide | assumption | omega) (by first | rfl | assumption) (by rfl) ?_
  refine Zw_iload_1 dX11_finders_61 ?_
  refine Zw_zaldnv (a) (1) dX11_finders_62 (by first | decide | assumption | omega) (by first | rfl | assumption) rfl (by omega) (by decide) hth ?_
  refine Zw_if_ne 69 dX11_finders_63 (by decide) (fun _ => ?_) (fun c => absurd c (by decide))
  refine Zw_iconst (v := 0) dX11_finders_69 (by decide) ?_
  refine Zw_istore_5 dX11_finders_70 rfl ?_
  refine Zw_iconst (v := 0) dX11_finders_72 (by decide) ?_
  refine Zw_istore_6 dX11_finders_73 rfl ?_
  refine Zw_iload_6 dX11_finders_75 ?_
  refine Zw_iload_4 dX11_finders_77 ?_
  refine Zw_icmp_ge 167 dX11_finders_79 (by decide) (fun _ => ?_) (fun c => absurd c (by decide))
  refine Zw_iload_5 dX11_finders_167 ?_
  refine Zw_ireturn dX11_finders_169 (by first | rfl | assumption) ?_
  exact h
set_option maxRecDepth 20000 in
theorem s_mfindersG {a m0 : Nat} {so fm : Int32} {Q : zQ} {μ : zMu} {τ : Int64} (ha : a < 4) (hso : vp_in so 3) (hth : μ 74 a = 1) (hun : μ 75 a = so) (hm6 : m0 ≤ 5) (hm0 : m0 ≠ 0) (hneg : fm < 0) (h : Q (some (.int (-12))) μ τ) : Zc 3 yX11_finders cX11_finders 8 (some .int) [.ref 61, .int (nI a), .int so, .int fm, .int (nI m0)] μ τ Q := by
  refine Zc.mk 3 [.ref 61, .int (nI a), .int so, .int fm, .int (nI m0), .null, .null, .null] rfl (by decide) (Nat.le_of_ble_eq_true rfl) ?_
  refine Zw_iload_1 dX11_finders_0 ?_
  refine Zw_S1 (k := 1) lm_X11_383 dX11_finders_1 (by decide) (Nat.le_of_ble_eq_true rfl) ?_
  refine s_isSheet (fun _ => ?_) (fun a0 => absurd (vp_in_nI ha (by omega)) a0)
  refine Zw_if_eq 32 dX11_finders_4 (by decide) (fun c => absurd c (by decide)) (fun _ => ?_)
  refine Zw_iload_2 dX11_finders_7 ?_
  refine Zw_i2l dX11_finders_8 ?_
  refine Zw_lconst (v := 0) dX11_finders_9 (by decide) ?_
  refine Zw_ldc2 dX11_finders_10 zw19 ?_
  refine Zw_S3 (k := 0) lm_X11_76 dX11_finders_13 (by decide) (Nat.le_of_ble_eq_true rfl) ?_
  refine s_in0 3 (by decide) (fun _ => ?_) (fun a0 => absurd hso a0)
  refine Zw_if_eq 32 dX11_finders_16 (by decide) (fun c => absurd c (by decide)) (fun _ => ?_)
  refine Zw_iload_4 dX11_finders_19 ?_
  refine Zw_i2l dX11_finders_21 ?_
  refine Zw_lconst (v := 0) dX11_finders_22 (by decide) ?_
  refine Zw_ldc2 dX11_finders_23 zw28 ?_
  refine Zw_S3 (k := 0) lm_X11_76 dX11_finders_26 (by decide) (Nat.le_of_ble_eq_true rfl) ?_
  refine s_in0 6 (by decide) (fun _ => ?_) (fun a0 => absurd (vp_in_nI (by omega) (by omega)) a0)
  refine Zw_if_ne 35 dX11_finders_29 (by decide) (fun _ => ?_) (fun c => absurd c (by decide))
  refine Zw_aload_0 dX11_finders_35 ?_
  refine Zw_getr 74 lf_X11_53 dX11_finders_36 (by first | decide | assumption | omega) (by first | rfl | assumption) (by rfl) ?_
  refine Zw_iload_1 dX11_finders_39 ?_
  refine Zw_zaldnv (a) (1) dX11_finders_40 (by first | decide | assumption | omega) (by first | rfl | assumption) rfl (by omega) (by decide) hth ?_
  refine Zw_if_eq 57 dX11_finders_41 (by decide) (fun c => absurd c (by decide)) (fun _ => ?_)
  refine Zw_aload_0 dX11_finders_44 ?_
  refine Zw_getr 75 lf_X11_57 dX11_finders_45 (by first | decide | assumption | omega) (by first | rfl | assumption) (by rfl) ?_
  refine Zw_iload_1 dX11_finders_48 ?_
  refine Zw_ialdn (a) dX11_finders_49 (by first | decide | assumption | omega) (by first | rfl | assumption) rfl (by omega) (by decide) ?_
  refine Zw_iload_2 dX11_finders_50 ?_
  refine Zw_icmp_eq 57 dX11_finders_51 (by decide) (fun c51 => ?_) (fun c51 => absurd hun c51)
  refine Zw_aload_0 dX11_finders_57 ?_
  refine Zw_getr 74 lf_X11_53 dX11_finders_58 (by first | decide | assumption | omega) (by first | rfl | assumption) (by rfl) ?_
  refine Zw_iload_1 dX11_finders_61 ?_
  refine Zw_zaldnv (a) (1) dX11_finders_62 (by first | decide | assumption | omega) (by first | rfl | assumption) rfl (by omega) (by decide) hth ?_
  refine Zw_if_ne 69 dX11_finders_63 (by decide) (fun _ => ?_) (fun c => absurd c (by decide))
  refine Zw_iconst (v := 0) dX11_finders_69 (by decide) ?_
  refine Zw_istore_5 dX11_finders_70 rfl ?_
  refine Zw_iconst (v := 0) dX11_finders_72 (by decide) ?_
  refine Zw_istore_6 dX11_finders_73 rfl ?_
  refine Zw_iload_6 dX11_finders_75 ?_
  refine Zw_iload_4 dX11_finders_77 ?_
  refine Zw_nicmp_ge (0) (m0) 167 dX11_finders_79 (by decide) rfl rfl (by omega) (by omega) (fun c79 => ?_) (fun c79 => ?_)
  · refine Zw_iload_5 dX11_finders_167 ?_
    refine Zw_ireturn dX11_finders_169 (by first | rfl | assumption) ?_
    exfalso
    omega
  · refine Zw_iload_3 dX11_finders_82 ?_
    refine Zw_if_lt 103 dX11_finders_83 (by decide) (fun c83 => ?_) (fun c83 => absurd hneg c83)
    refine Zw_bipush (v := (-12)) dX11_finders_103 (by decide) ?_
    refine Zw_ireturn dX11_finders_105 (by first | rfl | assumption) ?_
    exact h
set_option maxRecDepth 20000 in
theorem l_mfl {Q : zQ} {τ : Int64} {a fr m0 sz : Nat} {so : Int32} {it : Nat → Int32} {R : Int32 × zMu × Nat} (ha : a < 4) (hszb : sz ≤ 40) (hm6 : m0 ≤ 5) (hfr : fr < 2 ^ 31) (h : Q (some (.int R.1)) R.2.1 τ) : ∀ m k came μ n, m0 - k < m → k ≤ m0 → came ≤ k → n ≤ 5 → μ 61 11 = nI n → μ 76 a = nI sz → (∀ j, j < 40 → μ 77 (40 * a + j) = it j) → m_fl it sz fr (m0 - k) k came μ n = R → Zw 3 RX11 cX11_finders 8 (some .int) Q 75 [.ref 61, .int (nI a), .int so, .int (nI fr), .int (nI m0), .int (nI came), .int (nI k), .null] [] μ τ
  | 0, k, _, _, _, hm, _, _, _, _, _, _, _ => absurd hm (by omega)
  | m + 1, k, came, μ, n, hm, hk, hck, hn, hnn, hsz, hit, hV => by
    refine Zw_iload_6 dX11_finders_75 ?_
    refine Zw_iload_4 dX11_finders_77 ?_
    refine Zw_nicmp_ge (k) (m0) 167 dX11_finders_79 (by decide) rfl rfl (by omega) (by omega) (fun c79 => ?_) (fun c79 => ?_)
    · refine Zw_iload_5 dX11_finders_167 ?_
      refine Zw_ireturn dX11_finders_169 (by first | rfl | assumption) ?_
      obtain rfl : k = m0 := by omega
      rw [show k - k = 0 by omega] at hV
      subst hV
      exact h
    · refine Zw_iload_3 dX11_finders_82 ?_
      refine Zw_if_lt 103 dX11_finders_83 (by decide) (fun c83 => absurd c83 (nI_pos (by omega))) (fun c83 => ?_)
      refine Zw_iload_3 dX11_finders_86 ?_
      refine Zw_aload_0 dX11_finders_87 ?_
      refine Zw_getr 76 lf_X11_60 dX11_finders_88 (by first | decide | assumption | omega) (by first | rfl | assumption) (by rfl) ?_
      refine Zw_iload_1 dX11_finders_91 ?_
      refine Zw_ialdnv (a) (nI sz) dX11_finders_92 (by first | decide | assumption | omega) (by first | rfl | assumption) rfl (by omega) (by decide) hsz ?_
      refine Zw_iconst (v := 3) dX11_finders_93 (by decide) ?_
      refine Zw_iload_6 dX11_finders_94 ?_
      refine Zw_nmul (3) (k) dX11_finders_96 rfl rfl ?_
      refine Zw_isub dX11_finders_97 ?_
      refine Zw_iconst (v := 3) dX11_finders_98 (by decide) ?_
      refine Zw_isub dX11_finders_99 ?_
      refine Zw_icmp_le 106 dX11_finders_100 (by decide) (fun c100 => ?_) (fun c100 => ?_)
      · have hk3 : fr + 3 * k + 3 ≤ sz := fl_ge hszb (by omega) hfr c100
        refine Zw_bipush (v := 40) dX11_finders_106 (by decide) ?_
        refine Zw_iload_1 dX11_finders_108 ?_
        refine Zw_nmul (40) (a) dX11_finders_109 rfl rfl ?_
        refine Zw_iload_3 dX11_finders_110 ?_
        refine Zw_nadd ((40 * a)) (fr) dX11_finders_111 rfl rfl ?_
        refine Zw_iconst (v := 3) dX11_finders_112 (by decide) ?_
        refine Zw_iload_6 dX11_finders_113 ?_
        refine Zw_nmul (3) (k) dX11_finders_115 rfl rfl ?_
        refine Zw_nadd (((40 * a) + fr)) ((3 * k)) dX11_finders_116 rfl rfl ?_
        refine Zw_istore_7 dX11_finders_117 rfl ?_
        refine Zw_iload_5 dX11_finders_119 ?_
        refine Zw_aload_0 dX11_finders_121 ?_
        refine Zw_aload_0 dX11_finders_122 ?_
        refine Zw_getr 77 lf_X11_63 dX11_finders_123 (by first | decide | assumption | omega) (by first | rfl | assumption) (by rfl) ?_
        refine Zw_iload_7 dX11_finders_126 ?_
        refine Zw_ialdn ((((40 * a) + fr) + (3 * k))) dX11_finders_128 (by first | decide | assumption | omega) (by first | rfl | assumption) rfl (by omega) (by decide) ?_
        refine Zw_aload_0 dX11_finders_129 ?_
        refine Zw_getr 77 lf_X11_63 dX11_finders_130 (by first | decide | assumption | omega) (by first | rfl | assumption) (by rfl) ?_
        refine Zw_iload_7 dX11_finders_133 ?_
        refine Zw_iconst (v := 1) dX11_finders_135 (by decide) ?_
        refine Zw_nadd ((((40 * a) + fr) + (3 * k))) (1) dX11_finders_136 rfl rfl ?_
        refine Zw_ialdn (((((40 * a) + fr) + (3 * k)) + 1)) dX11_finders_137 (by first | decide | assumption | omega) (by first | rfl | assumption) rfl (by omega) (by decide) ?_
        refine Zw_aload_0 dX11_finders_138 ?_
        refine Zw_getr 77 lf_X11_63 dX11_finders_139 (by first | decide | assumption | omega) (by first | rfl | assumption) (by rfl) ?_
        refine Zw_iload_7 dX11_finders_142 ?_
        refine Zw_iconst (v := 2) dX11_finders_144 (by decide) ?_
        refine Zw_nadd ((((40 * a) + fr) + (3 * k))) (2) dX11_finders_145 rfl rfl ?_
        refine Zw_ialdn (((((40 * a) + fr) + (3 * k)) + 2)) dX11_finders_146 (by first | decide | assumption | omega) (by first | rfl | assumption) rfl (by omega) (by decide) ?_
        refine Zw_V3 (k := 2) lm_X11_415 dX11_finders_147 (by decide) (by first | decide | assumption | omega) (by first | rfl | assumption) (by rfl) (Nat.le_of_ble_eq_true rfl) ?_
        have i0 : μ 77 (40 * a + fr + 3 * k) = it (fr + 3 * k) := by rw [show 40 * a + fr + 3 * k = 40 * a + (fr + 3 * k) by omega]; exact hit _ (by omega)
        have i1 : μ 77 (40 * a + fr + 3 * k + 1) = it (fr + 3 * k + 1) := by rw [show 40 * a + fr + 3 * k + 1 = 40 * a + (fr + 3 * k + 1) by omega]; exact hit _ (by omega)
        have i2 : μ 77 (40 * a + fr + 3 * k + 2) = it (fr + 3 * k + 2) := by rw [show 40 * a + fr + 3 * k + 2 = 40 * a + (fr + 3 * k + 2) by omega]; exact hit _ (by omega)
        rw [i0, i1, i2]
        by_cases hq : vp_in (it (fr + 3 * k)) 6 ∧ vp_in (it (fr + 3 * k + 1)) 10 ∧ vp_in (it (fr + 3 * k + 2)) 8
        · by_cases hn5 : n < 5
          · refine s_mfinder n hq hnn hn5 ?_
            replace hq := q_okF_iff.mpr hq
            refine Zw_if_lt 157 dX11_finders_150 (by decide) (fun c150 => absurd c150 (nI_pos (by omega))) (fun c150 => ?_)
            refine Zw_iconst (v := 1) dX11_finders_153 (by decide) ?_
            refine Zw_goto 158 dX11_finders_154 (by decide) ?_
            refine Zw_nadd (came) (1) dX11_finders_158 rfl rfl ?_
            refine Zw_istore_5 dX11_finders_159 rfl ?_
            refine Zw_iinc_6 dX11_finders_161 rfl (zincn _) ?_
            refine Zw_goto 75 dX11_finders_164 (by decide) ?_
            refine Zw_drop (L' := [.ref 61, .int (nI a), .int so, .int (nI fr), .int (nI m0), .int (nI (came + 1)), .int (nI (k + 1)), .null]) ⟨Or.inr rfl, Or.inr rfl, Or.inr rfl, Or.inr rfl, Or.inr rfl, Or.inr rfl, Or.inr rfl, Or.inl rfl, trivial⟩ (Nat.le_of_ble_eq_true rfl) ?_
            rw [show m0 - k = (m0 - (k + 1)) + 1 by omega, m_fl_s, if_pos hk3, if_pos ⟨hq, hn5⟩] at hV
            exact l_mfl ha hszb hm6 hfr h m (k + 1) (came + 1) _ (n + 1) (by omega) (by omega) (by omega) (by omega) (by simp [zup_at]) (by rw [zup_ne (by decide), zup_ne (by decide), zup_ne (by decide), zup_ne (by decide), zup_ne (by decide)]; exact hsz) (fun j hj => by rw [zup_ne (by decide), zup_ne (by decide), zup_ne (by decide), zup_ne (by decide), zup_ne (by decide)]; exact hit j hj) hV
          · obtain rfl : n = 5 := by omega
            refine s_mfinderF hq hnn ?_
            refine Zw_if_lt 157 dX11_finders_150 (by decide) (fun _ => ?_) (fun c => absurd c (by decide))
            refine Zw_iconst (v := 0) dX11_finders_157 (by decide) ?_
            refine Zw_nadd (came) (0) dX11_finders_158 rfl rfl ?_
            refine Zw_istore_5 dX11_finders_159 rfl ?_
            refine Zw_iinc_6 dX11_finders_161 rfl (zincn _) ?_
            refine Zw_goto 75 dX11_finders_164 (by decide) ?_
            refine Zw_drop (L' := [.ref 61, .int (nI a), .int so, .int (nI fr), .int (nI m0), .int (nI came), .int (nI (k + 1)), .null]) ⟨Or.inr rfl, Or.inr rfl, Or.inr rfl, Or.inr rfl, Or.inr rfl, Or.inr rfl, Or.inr rfl, Or.inl rfl, trivial⟩ (Nat.le_of_ble_eq_true rfl) ?_
            rw [show m0 - k = (m0 - (k + 1)) + 1 by omega, m_fl_s, if_pos hk3, if_neg (fun e => absurd e.2 (by omega))] at hV
            exact l_mfl ha hszb hm6 hfr h m (k + 1) came _ _ (by omega) (by omega) (by omega) hn hnn hsz hit hV
        · refine s_mfinderB hq ?_
          refine Zw_if_lt 157 dX11_finders_150 (by decide) (fun _ => ?_) (fun c => absurd c (by decide))
          refine Zw_iconst (v := 0) dX11_finders_157 (by decide) ?_
          refine Zw_nadd (came) (0) dX11_finders_158 rfl rfl ?_
          refine Zw_istore_5 dX11_finders_159 rfl ?_
          refine Zw_iinc_6 dX11_finders_161 rfl (zincn _) ?_
          refine Zw_goto 75 dX11_finders_164 (by decide) ?_
          refine Zw_drop (L' := [.ref 61, .int (nI a), .int so, .int (nI fr), .int (nI m0), .int (nI came), .int (nI (k + 1)), .null]) ⟨Or.inr rfl, Or.inr rfl, Or.inr rfl, Or.inr rfl, Or.inr rfl, Or.inr rfl, Or.inr rfl, Or.inl rfl, trivial⟩ (Nat.le_of_ble_eq_true rfl) ?_
          rw [show m0 - k = (m0 - (k + 1)) + 1 by omega, m_fl_s, if_pos hk3, if_neg (fun e => hq (q_okF_iff.mp e.1))] at hV
          exact l_mfl ha hszb hm6 hfr h m (k + 1) came _ _ (by omega) (by omega) (by omega) hn hnn hsz hit hV
      · refine Zw_bipush (v := (-12)) dX11_finders_103 (by decide) ?_
        refine Zw_ireturn dX11_finders_105 (by first | rfl | assumption) ?_
        have hk3 : ¬ fr + 3 * k + 3 ≤ sz := fun e => c100 (fl_le hszb (by omega) hfr e)
        rw [show m0 - k = (m0 - (k + 1)) + 1 by omega, m_fl_s, if_neg hk3] at hV
        subst hV
        exact h
set_option maxRecDepth 20000 in
theorem s_mfinders {a m0 fr sz : Nat} {so : Int32} {it : Nat → Int32} {Q : zQ} {μ : zMu} {τ : Int64} (ha : a < 4) (hso : vp_in so 3) (hth : μ 74 a = 1) (hun : μ 75 a = so) (hm6 : m0 ≤ 5) (hsz : μ 76 a = nI sz) (hszb : sz ≤ 40) (hfr : fr < 2 ^ 31) (hit : ∀ j, j < 40 → μ 77 (40 * a + j) = it j) (n : Nat) (hn5 : n ≤ 5) (hn : μ 61 11 = nI n) (h : Q (some (.int (m_fl it sz fr m0 0 0 μ n).1)) (m_fl it sz fr m0 0 0 μ n).2.1 τ) : Zc 3 yX11_finders cX11_finders 8 (some .int) [.ref 61, .int (nI a), .int so, .int (nI fr), .int (nI m0)] μ τ Q := by
  refine Zc.mk 3 [.ref 61, .int (nI a), .int so, .int (nI fr), .int (nI m0), .null, .null, .null] rfl (by decide) (Nat.le_of_ble_eq_true rfl) ?_
  refine Zw_iload_1 dX11_finders_0 ?_
  refine Zw_S1 (k := 1) lm_X11_383 dX11_finders_1 (by decide) (Nat.le_of_ble_eq_true rfl) ?_
  refine s_isSheet (fun _ => ?_) (fun a0 => absurd (vp_in_nI ha (by omega)) a0)
  refine Zw_if_eq 32 dX11_finders_4 (by decide) (fun c => absurd c (by decide)) (fun _ => ?_)
  refine Zw_iload_2 dX11_finders_7 ?_
  refine Zw_i2l dX11_finders_8 ?_
  refine Zw_lconst (v := 0) dX11_finders_9 (by decide) ?_
  refine Zw_ldc2 dX11_finders_10 zw19 ?_
  refine Zw_S3 (k := 0) lm_X11_76 dX11_finders_13 (by decide) (Nat.le_of_ble_eq_true rfl) ?_
  refine s_in0 3 (by decide) (fun _ => ?_) (fun a0 => absurd hso a0)
  refine Zw_if_eq 32 dX11_finders_16 (by decide) (fun c => absurd c (by decide)) (fun _ => ?_)
  refine Zw_iload_4 dX11_finders_19 ?_
  refine Zw_i2l dX11_finders_21 ?_
  refine Zw_lconst (v := 0) dX11_finders_22 (by decide) ?_
  refine Zw_ldc2 dX11_finders_23 zw28 ?_
  refine Zw_S3 (k := 0) lm_X11_76 dX11_finders_26 (by decide) (Nat.le_of_ble_eq_true rfl) ?_
  refine s_in0 6 (by decide) (fun _ => ?_) (fun a0 => absurd (vp_in_nI (by omega) (by omega)) a0)
  refine Zw_if_ne 35 dX11_finders_29 (by decide) (fun _ => ?_) (fun c => absurd c (by decide))
  refine Zw_aload_0 dX11_finders_35 ?_
  refine Zw_getr 74 lf_X11_53 dX11_finders_36 (by first | decide | assumption | omega) (by first | rfl | assumption) (by rfl) ?_
  refine Zw_iload_1 dX11_finders_39 ?_
  refine Zw_zaldnv (a) (1) dX11_finders_40 (by first | decide | assumption | omega) (by first | rfl | assumption) rfl (by omega) (by decide) hth ?_
  refine Zw_if_eq 57 dX11_finders_41 (by decide) (fun c => absurd c (by decide)) (fun _ => ?_)
  refine Zw_aload_0 dX11_finders_44 ?_
  refine Zw_getr 75 lf_X11_57 dX11_finders_45 (by first | decide | assumption | omega) (by first | rfl | assumption) (by rfl) ?_
  refine Zw_iload_1 dX11_finders_48 ?_
  refine Zw_ialdn (a) dX11_finders_49 (by first | decide | assumption | omega) (by first | rfl | assumption) rfl (by omega) (by decide) ?_
  refine Zw_iload_2 dX11_finders_50 ?_
  refine Zw_icmp_eq 57 dX11_finders_51 (by decide) (fun c51 => ?_) (fun c51 => absurd hun c51)
  refine Zw_aload_0 dX11_finders_57 ?_
  refine Zw_getr 74 lf_X11_53 dX11_finders_58 (by first | decide | assumption | omega) (by first | rfl | assumption) (by rfl) ?_
  refine Zw_iload_1 dX11_finders_61 ?_
  refine Zw_zaldnv (a) (1) dX11_finders_62 (by first | decide | assumption | omega) (by first | rfl | assumption) rfl (by omega) (by decide) hth ?_
  refine Zw_if_ne 69 dX11_finders_63 (by decide) (fun _ => ?_) (fun c => absurd c (by decide))
  refine Zw_iconst (v := 0) dX11_finders_69 (by decide) ?_
  refine Zw_istore_5 dX11_finders_70 rfl ?_
  refine Zw_iconst (v := 0) dX11_finders_72 (by decide) ?_
  refine Zw_istore_6 dX11_finders_73 rfl ?_
  exact l_mfl ha hszb hm6 hfr h (m0 + 1) 0 0 μ n (by omega) (by omega) (by omega) hn5 hn hsz hit rfl
set_option maxRecDepth 20000 in
theorem s_mtextF {Q : zQ} {μ : zMu} {τ : Int64} (hc : μ 61 3 = nI 6) (h : Q (some (.int (-4))) μ τ) : Zc 42 yX11_text cX11_text 2 (some .int) [.ref 61] μ τ Q := by
  refine Zc.mk 1 [.ref 61, .null] rfl (by decide) (Nat.le_of_ble_eq_true rfl) ?_
  refine Zw_aload_0 dX11_text_0 ?_
  refine Zw_getv (nI 6) lf_X11_70 dX11_text_1 (by first | decide | assumption | omega) (by first | rfl | assumption) (by rfl) hc ?_
  refine Zw_bipush (v := 6) dX11_text_4 (by decide) ?_
  refine Zw_icmp_ne 12 dX11_text_6 (by decide) (fun c => absurd c (by decide)) (fun _ => ?_)
  refine Zw_bipush (v := (-4)) dX11_text_9 (by decide) ?_
  refine Zw_ireturn dX11_text_11 (by first | rfl | assumption) ?_
  exact h
def mTx (cnt n : Nat) (μ μ2 : zMu) : Prop := zOff [61, 62, 63] μ μ2 ∧ (∀ s, s ≠ 3 → s ≠ 6 → (s < 18 ∨ 26 < s) → μ2 61 s = μ 61 s) ∧ μ2 61 6 = 0 ∧ (∀ i, i < n → μ2 62 (160 * cnt + i) = μ 64 i) ∧ (∀ x, (x < 160 * cnt ∨ 160 * cnt + 160 ≤ x) → μ2 62 x = μ 62 x) ∧ μ2 63 = upd (μ 63) cnt (nI n)
set_option maxRecDepth 20000 in
theorem l_mtext {Q : zQ} {μ0 : zMu} {τ : Int64} {cnt n : Nat} {nm : Nat → Int32} (hc : μ0 61 3 = nI cnt) (hc6 : cnt < 6) (hn : n ≤ 160) (hsz : μ0 61 6 = nI n) (hby : k_by (μ0 64) n) (hnm : ∀ j, j < 6 → μ0 61 (12 + j) = nm j) (hF : ∀ f μ2 τ2, mTx cnt n μ0 μ2 → μ2 61 3 = nI cnt → d_read (m_b μ2 cnt) nm n = .inl f → Q (some (.int (-100 - nI f))) μ2 τ2) (hD : ∀ r μ2 τ2, mTx cnt n μ0 μ2 → μ2 61 3 = nI (cnt + 1) → d_read (m_b μ2 cnt) nm n = .inr r → Q (some (.int (nI cnt))) μ2 τ2) : ∀ m i μ, n - i < m → i ≤ n → zOff [62] μ0 μ → (∀ j, j < i → μ 62 (160 * cnt + j) = μ0 64 j) → (∀ x, (x < 160 * cnt ∨ 160 * cnt + 160 ≤ x) → μ 62 x = μ0 62 x) → Zw 42 RX11 cX11_text 2 (some .int) Q 14 [.ref 61, .int (nI i)] [] μ τ
  | 0, i, _, hm, _, _, _, _ => absurd hm (by omega)
  | m + 1, i, μ, hm, hi, hO, hV, hU => by
    have e61 : μ 61 = μ0 61 := hO 61 (by simp)
    have e64 : μ 64 = μ0 64 := hO 64 (by simp)
    refine Zw_iload_1 dX11_text_14 ?_
    refine Zw_aload_0 dX11_text_15 ?_
    refine Zw_getv (nI n) lf_X11_125 dX11_text_16 (by first | decide | assumption | omega) (by first | rfl | assumption) (by rfl) (by rw [e61]; exact hsz) ?_
    refine Zw_nicmp_ge (i) (n) 49 dX11_text_19 (by decide) rfl rfl (by omega) (by omega) (fun c19 => ?_) (fun c19 => ?_)
    · refine Zw_aload_0 dX11_text_49 ?_
      refine Zw_getr 63 lf_X11_17 dX11_text_50 (by first | decide | assumption | omega) (by first | rfl | assumption) (by rfl) ?_
      refine Zw_aload_0 dX11_text_53 ?_
      refine Zw_getv (nI cnt) lf_X11_70 dX11_text_54 (by first | decide | assumption | omega) (by first | rfl | assumption) (by rfl) (by rw [e61]; exact hc) ?_
      refine Zw_aload_0 dX11_text_57 ?_
      refine Zw_getv (nI n) lf_X11_125 dX11_text_58 (by first | decide | assumption | omega) (by first | rfl | assumption) (by rfl) (by rw [e61]; exact hsz) ?_
      refine Zw_iastn (cnt) dX11_text_61 (by first | decide | assumption | omega) (by first | rfl | assumption) rfl (by omega) (by decide) ?_
      refine Zw_aload_0 dX11_text_62 ?_
      refine Zw_iconst (v := 0) dX11_text_63 (by decide) ?_
      refine Zw_put lp_X11_125 dX11_text_64 (by first | decide | assumption | omega) (by first | rfl | assumption) (by rfl) (by first | rfl | assumption) (by first | rfl | assumption) ?_
      refine Zw_aload_0 dX11_text_67 ?_
      refine Zw_aload_0 dX11_text_68 ?_
      refine Zw_getv (nI cnt) lf_X11_70 dX11_text_69 (by first | decide | assumption | omega) (by first | rfl | assumption) (by rfl) (by rw [zup_at, if_neg (by simp), zup_ne (by decide), e61]; exact hc) ?_
      refine Zw_iconst (v := 0) dX11_text_72 (by decide) ?_
      refine Zw_V2 (k := 41) lm_X11_326 dX11_text_73 (by decide) (by first | decide | assumption | omega) (by first | rfl | assumption) (by rfl) (Nat.le_of_ble_eq_true rfl) ?_
      obtain ⟨hz, k3, hz6⟩ : (zOff [61, 62, 63] μ0 (zup (zup μ 63 cnt (nI n)) 61 6 0)) ∧ (zup (zup μ 63 cnt (nI n)) 61 6 0) 61 3 = nI cnt ∧ (∀ s, s ≠ 6 → (zup (zup μ 63 cnt (nI n)) 61 6 0) 61 s = μ0 61 s) := ⟨((hO.sub (by simp)).up (by simp)).up (by simp), by rw [zup_at, if_neg (by simp), zup_ne (by decide), e61]; exact hc, fun s hs => by rw [zup_at, if_neg (by simp [hs]), zup_ne (by decide), e61]⟩
      have hrow : (zup (zup μ 63 cnt (nI n)) 61 6 0) 62 = μ 62 := by rw [zup_ne (by decide), zup_ne (by decide)]
      have hbb : k_by (m_b (zup (zup μ 63 cnt (nI n)) 61 6 0) cnt) n := fun q hq => by
        show ∃ v, v < 256 ∧ (zup (zup μ 63 cnt (nI n)) 61 6 0) 62 (160 * cnt + q) = nI v
        rw [hrow, hV q (by omega)]
        exact hby q hq
      refine s_read0 (n := n) (b := m_b (zup (zup μ 63 cnt (nI n)) 61 6 0) cnt) (nm := nm) hc6 (by rw [zup_ne (by decide), zup_at, if_pos ⟨rfl, rfl⟩]) hn rfl hbb (fun j hj => by rw [hz6 (12 + j) (by omega)]; exact hnm j hj) (fun f v μ2 τ2 e1 r1 hb1 hf1 => ?_) (fun r μ2 τ2 e1 r1 hb0 => ?_)
      all_goals
        have hmb2 : m_b μ2 cnt = m_b (zup (zup μ 63 cnt (nI n)) 61 6 0) cnt := by unfold m_b; rw [r1.1 62 (by simp)]
        have hz2 : zOff [61, 62, 63] μ0 μ2 ∧ (∀ s, s ≠ 3 → s ≠ 6 → (s < 18 ∨ 26 < s) → μ2 61 s = μ0 61 s) ∧ μ2 61 6 = 0 ∧ (∀ i, i < n → μ2 62 (160 * cnt + i) = μ0 64 i) ∧ (∀ x, (x < 160 * cnt ∨ 160 * cnt + 160 ≤ x) → μ2 62 x = μ0 62 x) ∧ μ2 63 = upd (μ0 63) cnt (nI n) := by
          refine ⟨hz.tr (r1.1.sub (by simp)), fun s h3 h6 h18 => ?_, ?_, fun q hq => ?_, fun x hx => ?_, ?_⟩
          · rw [r1.2 s h18]; exact hz6 s h6
          · rw [r1.2 6 (by omega), zup_at, if_pos ⟨rfl, rfl⟩]
          · rw [r1.1 62 (by simp), hrow]; exact hV q (by omega)
          · rw [r1.1 62 (by simp), hrow]; exact hU x hx
          · rw [r1.1 63 (by simp), zup_ne (by decide), zup_eq, hO 63 (by simp)]
      · refine Zw_istore_1 dX11_text_76 rfl ?_
        refine Zw_aload_0 dX11_text_77 ?_
        refine Zw_getv (1) lf_X11_158 dX11_text_78 (by first | decide | assumption | omega) (by first | rfl | assumption) (by rfl) hb1 ?_
        refine Zw_if_eq 92 dX11_text_81 (by decide) (fun c => absurd c (by decide)) (fun _ => ?_)
        refine Zw_bipush (v := (-100)) dX11_text_84 (by decide) ?_
        refine Zw_aload_0 dX11_text_86 ?_
        refine Zw_getv (nI f) lf_X11_162 dX11_text_87 (by first | decide | assumption | omega) (by first | rfl | assumption) (by rfl) hf1 ?_
        refine Zw_isub dX11_text_90 ?_
        refine Zw_ireturn dX11_text_91 (by first | rfl | assumption) ?_
        exact hF f μ2 τ2 ⟨hz2.1, hz2.2.1, hz2.2.2.1, hz2.2.2.2.1, hz2.2.2.2.2.1, hz2.2.2.2.2.2⟩ (by rw [r1.2 3 (by omega)]; exact k3) (by rw [hmb2]; exact e1)
      · refine Zw_istore_1 dX11_text_76 rfl ?_
        refine Zw_aload_0 dX11_text_77 ?_
        refine Zw_getv (0) lf_X11_158 dX11_text_78 (by first | decide | assumption | omega) (by first | rfl | assumption) (by rfl) hb0 ?_
        refine Zw_if_eq 92 dX11_text_81 (by decide) (fun _ => ?_) (fun c => absurd c (by decide))
        refine Zw_aload_0 dX11_text_92 ?_
        refine Zw_dup dX11_text_93 rfl ?_
        refine Zw_getv (nI cnt) lf_X11_70 dX11_text_94 (by first | decide | assumption | omega) (by first | rfl | assumption) (by rfl) (by rw [r1.2 3 (by omega)]; exact k3) ?_
        refine Zw_iconst (v := 1) dX11_text_97 (by decide) ?_
        refine Zw_nadd (cnt) (1) dX11_text_98 rfl rfl ?_
        refine Zw_put lp_X11_70 dX11_text_99 (by first | decide | assumption | omega) (by first | rfl | assumption) (by rfl) (by first | rfl | assumption) (by first | rfl | assumption) ?_
        refine Zw_aload_0 dX11_text_102 ?_
        refine Zw_getv (nI (cnt + 1)) lf_X11_70 dX11_text_103 (by first | decide | assumption | omega) (by first | rfl | assumption) (by rfl) (by rw [zup_at, if_pos ⟨rfl, rfl⟩]) ?_
        refine Zw_iconst (v := 1) dX11_text_106 (by decide) ?_
        refine Zw_nsub ((cnt + 1)) (1) dX11_text_107 rfl rfl (by omega) ?_
        refine Zw_ireturn dX11_text_108 (by first | rfl | assumption) ?_
        rw [show cnt + 1 - 1 = cnt by omega]
        refine hD r (zup μ2 61 3 (nI (cnt + 1))) τ2 ⟨hz2.1.up (by simp), fun s h3 h6 h18 => by rw [zup_at, if_neg (by simp [h3])]; exact hz2.2.1 s h3 h6 h18, by rw [zup_at, if_neg (by simp)]; exact hz2.2.2.1, by rw [zup_ne (by decide)]; exact hz2.2.2.2.1, by rw [zup_ne (by decide)]; exact hz2.2.2.2.2.1, by rw [zup_ne (by decide)]; exact hz2.2.2.2.2.2⟩ (by rw [zup_at, if_pos ⟨rfl, rfl⟩]) ?_
        rw [show m_b (zup μ2 61 3 (nI (cnt + 1))) cnt = m_b μ2 cnt by unfold m_b; rw [zup_ne (by decide)], hmb2]
        exact e1
    · refine Zw_aload_0 dX11_text_22 ?_
      refine Zw_getr 62 lf_X11_13 dX11_text_23 (by first | decide | assumption | omega) (by first | rfl | assumption) (by rfl) ?_
      refine Zw_sipush (v := 160) dX11_text_26 (by decide) ?_
      refine Zw_aload_0 dX11_text_29 ?_
      refine Zw_getv (nI cnt) lf_X11_70 dX11_text_30 (by first | decide | assumption | omega) (by first | rfl | assumption) (by rfl) (by rw [e61]; exact hc) ?_
      refine Zw_nmul (160) (cnt) dX11_text_33 rfl rfl ?_
      refine Zw_iload_1 dX11_text_34 ?_
      refine Zw_nadd ((160 * cnt)) (i) dX11_text_35 rfl rfl ?_
      refine Zw_aload_0 dX11_text_36 ?_
      refine Zw_getr 64 lf_X11_20 dX11_text_37 (by first | decide | assumption | omega) (by first | rfl | assumption) (by rfl) ?_
      refine Zw_iload_1 dX11_text_40 ?_
      refine Zw_ialdnv (i) (μ0 64 i) dX11_text_41 (by first | decide | assumption | omega) (by first | rfl | assumption) rfl (by omega) (by decide) (by rw [e64]) ?_
      refine Zw_iastn (((160 * cnt) + i)) dX11_text_42 (by first | decide | assumption | omega) (by first | rfl | assumption) rfl (by omega) (by decide) ?_
      refine Zw_iinc_1 dX11_text_43 rfl (zincn _) ?_
      refine Zw_goto 14 dX11_text_46 (by decide) ?_
      exact l_mtext hc hc6 hn hsz hby hnm hF hD m (i + 1) _ (by omega) (by omega) (hO.up (by simp)) (fun j hj => by rw [zup_at]; by_cases e : j = i <;> simp [e]; exact hV j (by omega)) (fun x hx => by rw [zup_at, if_neg (by omega)]; exact hU x hx)
set_option maxRecDepth 20000 in
theorem s_mtext {cnt n : Nat} {nm : Nat → Int32} {Q : zQ} {μ : zMu} {τ : Int64} (hc : μ 61 3 = nI cnt) (hc6 : cnt < 6) (hn : n ≤ 160) (hsz : μ 61 6 = nI n) (hby : k_by (μ 64) n) (hnm : ∀ j, j < 6 → μ 61 (12 + j) = nm j) (hF : ∀ f μ2 τ2, mTx cnt n μ μ2 → μ2 61 3 = nI cnt → d_read (m_b μ2 cnt) nm n = .inl f → Q (some (.int (-100 - nI f))) μ2 τ2) (hD : ∀ r μ2 τ2, mTx cnt n μ μ2 → μ2 61 3 = nI (cnt + 1) → d_read (m_b μ2 cnt) nm n = .inr r → Q (some (.int (nI cnt))) μ2 τ2) : Zc 42 yX11_text cX11_text 2 (some .int) [.ref 61] μ τ Q := by
  refine Zc.mk 1 [.ref 61, .null] rfl (by decide) (Nat.le_of_ble_eq_true rfl) ?_
  refine Zw_aload_0 dX11_text_0 ?_
  refine Zw_getv (nI cnt) lf_X11_70 dX11_text_1 (by first | decide | assumption | omega) (by first | rfl | assumption) (by rfl) hc ?_
  refine Zw_bipush (v := 6) dX11_text_4 (by decide) ?_
  refine Zw_icmp_ne 12 dX11_text_6 (by decide) (fun c6 => ?_) (fun c6 => absurd ((nI_eq (by omega) (by decide)).mp (show nI cnt = nI 6 from c6)) (by omega))
  refine Zw_iconst (v := 0) dX11_text_12 (by decide) ?_
  refine Zw_istore_1 dX11_text_13 rfl ?_
  exact l_mtext hc hc6 hn hsz hby hnm hF hD (n + 1) 0 _ (by omega) (by omega) zOff.rf (fun j hj => absurd hj (by omega)) (fun x hx => rfl)
