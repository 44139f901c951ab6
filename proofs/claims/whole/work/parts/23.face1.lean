def q_lim : Nat → Nat
  | 0 => 1000
  | 1 => 10
  | 2 => 8
  | 3 => 256
  | 4 => 10
  | _ => 8
def q_okset (n : Nat) (what of v : Int32) : Prop := vp_in what 6 ∧ vp_in v (q_lim what.toNatClampNeg) ∧ (what.toNatClampNeg < 4 ∨ vp_in of n)
set_option maxRecDepth 20000 in
theorem s_X_set {what of v : Int32} {Q : zQ} {μ : zMu} {τ : Int64} (n : Nat) (hn5 : n ≤ 5) (hn : μ 1 2 = nI n) (hbad : ¬ q_okset n what of v → Q (some (.int (-2))) μ τ) (hG : ∀ c, c < 4 → what = nI c → vp_in v (q_lim c) → Q (some (.int (μ 1 (3 + c)))) (zup μ 1 (3 + c) v) τ) (hF : ∀ c, 4 ≤ c → c < 6 → ∀ f, what = nI c → vp_in v (q_lim c) → f < n → of = nI f → Q (some (.int (μ (4 + f) (c - 3)))) (zup μ (4 + f) (c - 3) v) τ) : Zc 2 yX10_set cX10_set 5 (some .int) [.ref 0, .int what, .int of, .int v] μ τ Q := by
  refine Zc.mk 1 [.ref 0, .int what, .int of, .int v, .null] rfl (by decide) (Nat.le_of_ble_eq_true rfl) ?_
  refine Zw_iload_1 dX10_set_0 ?_
  refine Zw_gets (t := 0) (by decide) zw140 dX10_set_1 ?_
  refine Zw_tlen (t := 0) dX10_set_4 (by decide) rfl ?_
  refine Zw_S2 (k := 0) lm_X10_76 dX10_set_5 (by decide) (Nat.le_of_ble_eq_true rfl) ?_
  refine s_within 6 (by decide) (fun b1 => ?_) (fun b1 => ?_)
  · refine Zw_if_eq 23 dX10_set_8 (by decide) (fun c => absurd c (by decide)) (fun _ => ?_)
    obtain ⟨c, hc, rfl⟩ := vp_in_of b1 (by decide)
    match c, hc with
    | 0, _ =>
      refine Zw_iload_3 dX10_set_11 ?_
      refine Zw_gets (t := 0) (by decide) zw140 dX10_set_12 ?_
      refine Zw_iload_1 dX10_set_15 ?_
      refine Zw_tald (t := 0) (x := 1000) dX10_set_16 (by decide) (by first | assumption | exact vp_in_nI (by omega) (by omega) | exact vp_in_nI (by simp; omega) (by decide) | (unfold vp_in; decide)) (by decide) ?_
      refine Zw_S2 (k := 0) lm_X10_76 dX10_set_17 (by decide) (Nat.le_of_ble_eq_true rfl) ?_
      refine s_within 1000 (by decide) (fun b2 => ?_) (fun b2 => ?_)
      · refine Zw_if_ne 26 dX10_set_20 (by decide) (fun _ => ?_) (fun c => absurd c (by decide))
        refine Zw_iload_1 dX10_set_26 ?_
        refine Zw_iconst (v := 4) dX10_set_27 (by decide) ?_
        refine Zw_icmp_lt 48 dX10_set_28 (by decide) (fun _ => ?_) (fun c => absurd c (by decide))
        skip
        refine Zw_aload_0 dX10_set_48 ?_
        refine Zw_getr 1 lf_X10_10 dX10_set_49 (by first | decide | assumption | omega) (by first | rfl | assumption) (by rfl) ?_
        refine Zw_iload_2 dX10_set_52 ?_
        refine Zw_iload_1 dX10_set_53 ?_
        refine Zw_V2 (k := 1) lm_X10_84 dX10_set_54 (by decide) (by first | decide | assumption | omega) (by first | rfl | assumption) (by rfl) (Nat.le_of_ble_eq_true rfl) ?_
        refine s_known0 ?_
        refine Zw_istore_4 dX10_set_57 rfl ?_
        refine Zw_aload_0 dX10_set_59 ?_
        refine Zw_getr 1 lf_X10_10 dX10_set_60 (by first | decide | assumption | omega) (by first | rfl | assumption) (by rfl) ?_
        refine Zw_iload_2 dX10_set_63 ?_
        refine Zw_iload_1 dX10_set_64 ?_
        refine Zw_iload_3 dX10_set_65 ?_
        refine Zw_V3 (k := 1) lm_X10_88 dX10_set_66 (by decide) (by first | decide | assumption | omega) (by first | rfl | assumption) (by rfl) (Nat.le_of_ble_eq_true rfl) ?_
        refine s_become0 ?_
        refine Zw_iload_4 dX10_set_69 ?_
        refine Zw_ireturn dX10_set_71 (by first | rfl | assumption) ?_
        exact hG 0 (by decide) rfl b2
      · refine Zw_if_ne 26 dX10_set_20 (by decide) (fun c => absurd c (by decide)) (fun _ => ?_)
        refine Zw_bipush (v := (-2)) dX10_set_23 (by decide) ?_
        refine Zw_ireturn dX10_set_25 (by first | rfl | assumption) ?_
        exact hbad (fun e => b2 e.2.1)
    | 1, _ =>
      refine Zw_iload_3 dX10_set_11 ?_
      refine Zw_gets (t := 0) (by decide) zw140 dX10_set_12 ?_
      refine Zw_iload_1 dX10_set_15 ?_
      refine Zw_tald (t := 0) (x := 10) dX10_set_16 (by decide) (by first | assumption | exact vp_in_nI (by omega) (by omega) | exact vp_in_nI (by simp; omega) (by decide) | (unfold vp_in; decide)) (by decide) ?_
      refine Zw_S2 (k := 0) lm_X10_76 dX10_set_17 (by decide) (Nat.le_of_ble_eq_true rfl) ?_
      refine s_within 10 (by decide) (fun b2 => ?_) (fun b2 => ?_)
      · refine Zw_if_ne 26 dX10_set_20 (by decide) (fun _ => ?_) (fun c => absurd c (by decide))
        refine Zw_iload_1 dX10_set_26 ?_
        refine Zw_iconst (v := 4) dX10_set_27 (by decide) ?_
        refine Zw_icmp_lt 48 dX10_set_28 (by decide) (fun _ => ?_) (fun c => absurd c (by decide))
        skip
        refine Zw_aload_0 dX10_set_48 ?_
        refine Zw_getr 1 lf_X10_10 dX10_set_49 (by first | decide | assumption | omega) (by first | rfl | assumption) (by rfl) ?_
        refine Zw_iload_2 dX10_set_52 ?_
        refine Zw_iload_1 dX10_set_53 ?_
        refine Zw_V2 (k := 1) lm_X10_84 dX10_set_54 (by decide) (by first | decide | assumption | omega) (by first | rfl | assumption) (by rfl) (Nat.le_of_ble_eq_true rfl) ?_
        refine s_known1 ?_
        refine Zw_istore_4 dX10_set_57 rfl ?_
        refine Zw_aload_0 dX10_set_59 ?_
        refine Zw_getr 1 lf_X10_10 dX10_set_60 (by first | decide | assumption | omega) (by first | rfl | assumption) (by rfl) ?_
        refine Zw_iload_2 dX10_set_63 ?_
        refine Zw_iload_1 dX10_set_64 ?_
        refine Zw_iload_3 dX10_set_65 ?_
        refine Zw_V3 (k := 1) lm_X10_88 dX10_set_66 (by decide) (by first | decide | assumption | omega) (by first | rfl | assumption) (by rfl) (Nat.le_of_ble_eq_true rfl) ?_
        refine s_become1 ?_
        refine Zw_iload_4 dX10_set_69 ?_
        refine Zw_ireturn dX10_set_71 (by first | rfl | assumption) ?_
        exact hG 1 (by decide) rfl b2
      · refine Zw_if_ne 26 dX10_set_20 (by decide) (fun c => absurd c (by decide)) (fun _ => ?_)
        refine Zw_bipush (v := (-2)) dX10_set_23 (by decide) ?_
        refine Zw_ireturn dX10_set_25 (by first | rfl | assumption) ?_
        exact hbad (fun e => b2 e.2.1)
    | 2, _ =>
      refine Zw_iload_3 dX10_set_11 ?_
      refine Zw_gets (t := 0) (by decide) zw140 dX10_set_12 ?_
      refine Zw_iload_1 dX10_set_15 ?_
      refine Zw_tald (t := 0) (x := 8) dX10_set_16 (by decide) (by first | assumption | exact vp_in_nI (by omega) (by omega) | exact vp_in_nI (by simp; omega) (by decide) | (unfold vp_in; decide)) (by decide) ?_
      refine Zw_S2 (k := 0) lm_X10_76 dX10_set_17 (by decide) (Nat.le_of_ble_eq_true rfl) ?_
      refine s_within 8 (by decide) (fun b2 => ?_) (fun b2 => ?_)
      · refine Zw_if_ne 26 dX10_set_20 (by decide) (fun _ => ?_) (fun c => absurd c (by decide))
        refine Zw_iload_1 dX10_set_26 ?_
        refine Zw_iconst (v := 4) dX10_set_27 (by decide) ?_
        refine Zw_icmp_lt 48 dX10_set_28 (by decide) (fun _ => ?_) (fun c => absurd c (by decide))
        skip
        refine Zw_aload_0 dX10_set_48 ?_
        refine Zw_getr 1 lf_X10_10 dX10_set_49 (by first | decide | assumption | omega) (by first | rfl | assumption) (by rfl) ?_
        refine Zw_iload_2 dX10_set_52 ?_
        refine Zw_iload_1 dX10_set_53 ?_
        refine Zw_V2 (k := 1) lm_X10_84 dX10_set_54 (by decide) (by first | decide | assumption | omega) (by first | rfl | assumption) (by rfl) (Nat.le_of_ble_eq_true rfl) ?_
        refine s_known2 ?_
        refine Zw_istore_4 dX10_set_57 rfl ?_
        refine Zw_aload_0 dX10_set_59 ?_
        refine Zw_getr 1 lf_X10_10 dX10_set_60 (by first | decide | assumption | omega) (by first | rfl | assumption) (by rfl) ?_
        refine Zw_iload_2 dX10_set_63 ?_
        refine Zw_iload_1 dX10_set_64 ?_
        refine Zw_iload_3 dX10_set_65 ?_
        refine Zw_V3 (k := 1) lm_X10_88 dX10_set_66 (by decide) (by first | decide | assumption | omega) (by first | rfl | assumption) (by rfl) (Nat.le_of_ble_eq_true rfl) ?_
        refine s_become2 ?_
        refine Zw_iload_4 dX10_set_69 ?_
        refine Zw_ireturn dX10_set_71 (by first | rfl | assumption) ?_
        exact hG 2 (by decide) rfl b2
      · refine Zw_if_ne 26 dX10_set_20 (by decide) (fun c => absurd c (by decide)) (fun _ => ?_)
        refine Zw_bipush (v := (-2)) dX10_set_23 (by decide) ?_
        refine Zw_ireturn dX10_set_25 (by first | rfl | assumption) ?_
        exact hbad (fun e => b2 e.2.1)
    | 3, _ =>
      refine Zw_iload_3 dX10_set_11 ?_
      refine Zw_gets (t := 0) (by decide) zw140 dX10_set_12 ?_
      refine Zw_iload_1 dX10_set_15 ?_
      refine Zw_tald (t := 0) (x := 256) dX10_set_16 (by decide) (by first | assumption | exact vp_in_nI (by omega) (by omega) | exact vp_in_nI (by simp; omega) (by decide) | (unfold vp_in; decide)) (by decide) ?_
      refine Zw_S2 (k := 0) lm_X10_76 dX10_set_17 (by decide) (Nat.le_of_ble_eq_true rfl) ?_
      refine s_within 256 (by decide) (fun b2 => ?_) (fun b2 => ?_)
      · refine Zw_if_ne 26 dX10_set_20 (by decide) (fun _ => ?_) (fun c => absurd c (by decide))
        refine Zw_iload_1 dX10_set_26 ?_
        refine Zw_iconst (v := 4) dX10_set_27 (by decide) ?_
        refine Zw_icmp_lt 48 dX10_set_28 (by decide) (fun _ => ?_) (fun c => absurd c (by decide))
        skip
        refine Zw_aload_0 dX10_set_48 ?_
        refine Zw_getr 1 lf_X10_10 dX10_set_49 (by first | decide | assumption | omega) (by first | rfl | assumption) (by rfl) ?_
        refine Zw_iload_2 dX10_set_52 ?_
        refine Zw_iload_1 dX10_set_53 ?_
        refine Zw_V2 (k := 1) lm_X10_84 dX10_set_54 (by decide) (by first | decide | assumption | omega) (by first | rfl | assumption) (by rfl) (Nat.le_of_ble_eq_true rfl) ?_
        refine s_known3 ?_
        refine Zw_istore_4 dX10_set_57 rfl ?_
        refine Zw_aload_0 dX10_set_59 ?_
        refine Zw_getr 1 lf_X10_10 dX10_set_60 (by first | decide | assumption | omega) (by first | rfl | assumption) (by rfl) ?_
        refine Zw_iload_2 dX10_set_63 ?_
        refine Zw_iload_1 dX10_set_64 ?_
        refine Zw_iload_3 dX10_set_65 ?_
        refine Zw_V3 (k := 1) lm_X10_88 dX10_set_66 (by decide) (by first | decide | assumption | omega) (by first | rfl | assumption) (by rfl) (Nat.le_of_ble_eq_true rfl) ?_
        refine s_become3 ?_
        refine Zw_iload_4 dX10_set_69 ?_
        refine Zw_ireturn dX10_set_71 (by first | rfl | assumption) ?_
        exact hG 3 (by decide) rfl b2
      · refine Zw_if_ne 26 dX10_set_20 (by decide) (fun c => absurd c (by decide)) (fun _ => ?_)
        refine Zw_bipush (v := (-2)) dX10_set_23 (by decide) ?_
        refine Zw_ireturn dX10_set_25 (by first | rfl | assumption) ?_
        exact hbad (fun e => b2 e.2.1)
    | 4, _ =>
      refine Zw_iload_3 dX10_set_11 ?_
      refine Zw_gets (t := 0) (by decide) zw140 dX10_set_12 ?_
      refine Zw_iload_1 dX10_set_15 ?_
      refine Zw_tald (t := 0) (x := 10) dX10_set_16 (by decide) (by first | assumption | exact vp_in_nI (by omega) (by omega) | exact vp_in_nI (by simp; omega) (by decide) | (unfold vp_in; decide)) (by decide) ?_
      refine Zw_S2 (k := 0) lm_X10_76 dX10_set_17 (by decide) (Nat.le_of_ble_eq_true rfl) ?_
      refine s_within 10 (by decide) (fun b2 => ?_) (fun b2 => ?_)
      · refine Zw_if_ne 26 dX10_set_20 (by decide) (fun _ => ?_) (fun c => absurd c (by decide))
        refine Zw_iload_1 dX10_set_26 ?_
        refine Zw_iconst (v := 4) dX10_set_27 (by decide) ?_
        refine Zw_icmp_lt 48 dX10_set_28 (by decide) (fun c => absurd c (by decide)) (fun _ => ?_)
        refine Zw_iload_2 dX10_set_31 ?_
        refine Zw_aload_0 dX10_set_32 ?_
        refine Zw_getr 1 lf_X10_10 dX10_set_33 (by first | decide | assumption | omega) (by first | rfl | assumption) (by rfl) ?_
        refine Zw_geti lf_X10_80 dX10_set_36 (by first | decide | assumption | omega) (by first | rfl | assumption) (by rfl) ?_
        refine Zw_S2 (k := 0) lm_X10_76 dX10_set_39 (by decide) (Nat.le_of_ble_eq_true rfl) ?_
        refine s_within n (by rw [hn]; exact nI_toInt (by omega)) (fun b3 => ?_) (fun b3 => ?_)
        · refine Zw_if_ne 48 dX10_set_42 (by decide) (fun _ => ?_) (fun c => absurd c (by decide))
          obtain ⟨f, hf, rfl⟩ := vp_in_of b3 (by omega)
          refine Zw_aload_0 dX10_set_48 ?_
          refine Zw_getr 1 lf_X10_10 dX10_set_49 (by first | decide | assumption | omega) (by first | rfl | assumption) (by rfl) ?_
          refine Zw_iload_2 dX10_set_52 ?_
          refine Zw_iload_1 dX10_set_53 ?_
          refine Zw_V2 (k := 1) lm_X10_84 dX10_set_54 (by decide) (by first | decide | assumption | omega) (by first | rfl | assumption) (by rfl) (Nat.le_of_ble_eq_true rfl) ?_
          refine s_known4 n hn5 hn hf ?_
          refine Zw_istore_4 dX10_set_57 rfl ?_
          refine Zw_aload_0 dX10_set_59 ?_
          refine Zw_getr 1 lf_X10_10 dX10_set_60 (by first | decide | assumption | omega) (by first | rfl | assumption) (by rfl) ?_
          refine Zw_iload_2 dX10_set_63 ?_
          refine Zw_iload_1 dX10_set_64 ?_
          refine Zw_iload_3 dX10_set_65 ?_
          refine Zw_V3 (k := 1) lm_X10_88 dX10_set_66 (by decide) (by first | decide | assumption | omega) (by first | rfl | assumption) (by rfl) (Nat.le_of_ble_eq_true rfl) ?_
          refine s_become4 n hn5 hn hf ?_
          refine Zw_iload_4 dX10_set_69 ?_
          refine Zw_ireturn dX10_set_71 (by first | rfl | assumption) ?_
          exact hF 4 (by decide) (by decide) f rfl b2 hf rfl
        · refine Zw_if_ne 48 dX10_set_42 (by decide) (fun c => absurd c (by decide)) (fun _ => ?_)
          refine Zw_bipush (v := (-2)) dX10_set_45 (by decide) ?_
          refine Zw_ireturn dX10_set_47 (by first | rfl | assumption) ?_
          exact hbad (fun e => e.2.2.elim (fun e2 => absurd e2 (by decide)) b3)
      · refine Zw_if_ne 26 dX10_set_20 (by decide) (fun c => absurd c (by decide)) (fun _ => ?_)
        refine Zw_bipush (v := (-2)) dX10_set_23 (by decide) ?_
        refine Zw_ireturn dX10_set_25 (by first | rfl | assumption) ?_
        exact hbad (fun e => b2 e.2.1)
    | 5, _ =>
      refine Zw_iload_3 dX10_set_11 ?_
      refine Zw_gets (t := 0) (by decide) zw140 dX10_set_12 ?_
      refine Zw_iload_1 dX10_set_15 ?_
      refine Zw_tald (t := 0) (x := 8) dX10_set_16 (by decide) (by first | assumption | exact vp_in_nI (by omega) (by omega) | exact vp_in_nI (by simp; omega) (by decide) | (unfold vp_in; decide)) (by decide) ?_
      refine Zw_S2 (k := 0) lm_X10_76 dX10_set_17 (by decide) (Nat.le_of_ble_eq_true rfl) ?_
      refine s_within 8 (by decide) (fun b2 => ?_) (fun b2 => ?_)
      · refine Zw_if_ne 26 dX10_set_20 (by decide) (fun _ => ?_) (fun c => absurd c (by decide))
        refine Zw_iload_1 dX10_set_26 ?_
        refine Zw_iconst (v := 4) dX10_set_27 (by decide) ?_
        refine Zw_icmp_lt 48 dX10_set_28 (by decide) (fun c => absurd c (by decide)) (fun _ => ?_)
        refine Zw_iload_2 dX10_set_31 ?_
        refine Zw_aload_0 dX10_set_32 ?_
        refine Zw_getr 1 lf_X10_10 dX10_set_33 (by first | decide | assumption | omega) (by first | rfl | assumption) (by rfl) ?_
        refine Zw_geti lf_X10_80 dX10_set_36 (by first | decide | assumption | omega) (by first | rfl | assumption) (by rfl) ?_
        refine Zw_S2 (k := 0) lm_X10_76 dX10_set_39 (by decide) (Nat.le_of_ble_eq_true rfl) ?_
        refine s_within n (by rw [hn]; exact nI_toInt (by omega)) (fun b3 => ?_) (fun b3 => ?_)
        · refine Zw_if_ne 48 dX10_set_42 (by decide) (fun _ => ?_) (fun c => absurd c (by decide))
          obtain ⟨f, hf, rfl⟩ := vp_in_of b3 (by omega)
          refine Zw_aload_0 dX10_set_48 ?_
          refine Zw_getr 1 lf_X10_10 dX10_set_49 (by first | decide | assumption | omega) (by first | rfl | assumption) (by rfl) ?_
          refine Zw_iload_2 dX10_set_52 ?_
          refine Zw_iload_1 dX10_set_53 ?_
          refine Zw_V2 (k := 1) lm_X10_84 dX10_set_54 (by decide) (by first | decide | assumption | omega) (by first | rfl | assumption) (by rfl) (Nat.le_of_ble_eq_true rfl) ?_
          refine s_known5 n hn5 hn hf ?_
          refine Zw_istore_4 dX10_set_57 rfl ?_
          refine Zw_aload_0 dX10_set_59 ?_
          refine Zw_getr 1 lf_X10_10 dX10_set_60 (by first | decide | assumption | omega) (by first | rfl | assumption) (by rfl) ?_
          refine Zw_iload_2 dX10_set_63 ?_
          refine Zw_iload_1 dX10_set_64 ?_
          refine Zw_iload_3 dX10_set_65 ?_
          refine Zw_V3 (k := 1) lm_X10_88 dX10_set_66 (by decide) (by first | decide | assumption | omega) (by first | rfl | assumption) (by rfl) (Nat.le_of_ble_eq_true rfl) ?_
          refine s_become5 n hn5 hn hf ?_
          refine Zw_iload_4 dX10_set_69 ?_
          refine Zw_ireturn dX10_set_71 (by first | rfl | assumption) ?_
          exact hF 5 (by decide) (by decide) f rfl b2 hf rfl
        · refine Zw_if_ne 48 dX10_set_42 (by decide) (fun c => absurd c (by decide)) (fun _ => ?_)
          refine Zw_bipush (v := (-2)) dX10_set_45 (by decide) ?_
          refine Zw_ireturn dX10_set_47 (by first | rfl | assumption) ?_
          exact hbad (fun e => e.2.2.elim (fun e2 => absurd e2 (by decide)) b3)
      · refine Zw_if_ne 26 dX10_set_20 (by decide) (fun c => absurd c (by decide)) (fun _ => ?_)
        refine Zw_bipush (v := (-2)) dX10_set_23 (by decide) ?_
        refine Zw_ireturn dX10_set_25 (by first | rfl | assumption) ?_
        exact hbad (fun e => b2 e.2.1)
    | n + 6, hc => exact absurd hc (by omega)
  · refine Zw_if_eq 23 dX10_set_8 (by decide) (fun _ => ?_) (fun c => absurd c (by decide))
    refine Zw_bipush (v := (-2)) dX10_set_23 (by decide) ?_
    refine Zw_ireturn dX10_set_25 (by first | rfl | assumption) ?_
    exact hbad (fun e => b1 e.1)
set_option maxRecDepth 20000 in
theorem s_X_lane {one other on : Int32} {Q : zQ} {μ : zMu} {τ : Int64} (hbad : ¬ (vp_in one 8 ∧ vp_in other 8 ∧ one ≠ other ∧ vp_in on 2) → Q (some (.int (-2))) μ τ) (h1 : ∀ a b, a < 8 → b < 8 → b ≠ a → one = nI a → other = nI b → on = 1 → Q (some (.int ((μ 2 a >>> (nI b &&& 31)) &&& 1))) (zup (zup μ 2 a (μ 2 a ||| (1 <<< (nI b &&& 31)))) 2 b (μ 2 b ||| (1 <<< (nI a &&& 31)))) τ) (h0 : ∀ a b, a < 8 → b < 8 → b ≠ a → one = nI a → other = nI b → on = 0 → Q (some (.int ((μ 2 a >>> (nI b &&& 31)) &&& 1))) (zup (zup μ 2 a (μ 2 a &&& ((1 <<< (nI b &&& 31)) ^^^ (-1)))) 2 b (μ 2 b &&& ((1 <<< (nI a &&& 31)) ^^^ (-1)))) τ) : Zc 1 yX10_lane cX10_lane 5 (some .int) [.ref 0, .int one, .int other, .int on] μ τ Q := by
  refine Zc.mk 1 [.ref 0, .int one, .int other, .int on, .null] rfl (by decide) (Nat.le_of_ble_eq_true rfl) ?_
  refine Zw_iload_1 dX10_lane_0 ?_
  refine Zw_bipush (v := 8) dX10_lane_1 (by decide) ?_
  refine Zw_S2 (k := 0) lm_X10_76 dX10_lane_3 (by decide) (Nat.le_of_ble_eq_true rfl) ?_
  refine s_within 8 (by decide) (fun b1 => ?_) (fun b1 => ?_)
  · refine Zw_if_eq 31 dX10_lane_6 (by decide) (fun c => absurd c (by decide)) (fun _ => ?_)
    refine Zw_iload_2 dX10_lane_9 ?_
    refine Zw_bipush (v := 8) dX10_lane_10 (by decide) ?_
    refine Zw_S2 (k := 0) lm_X10_76 dX10_lane_12 (by decide) (Nat.le_of_ble_eq_true rfl) ?_
    refine s_within 8 (by decide) (fun b2 => ?_) (fun b2 => ?_)
    · refine Zw_if_eq 31 dX10_lane_15 (by decide) (fun c => absurd c (by decide)) (fun _ => ?_)
      refine Zw_iload_1 dX10_lane_18 ?_
      refine Zw_iload_2 dX10_lane_19 ?_
      refine Zw_icmp_eq 31 dX10_lane_20 (by decide) (fun c20 => ?_) (fun c20 => ?_)
      · refine Zw_bipush (v := (-2)) dX10_lane_31 (by decide) ?_
        refine Zw_ireturn dX10_lane_33 (by first | rfl | assumption) ?_
        exact hbad (fun e => e.2.2.1 c20)
      · refine Zw_iload_3 dX10_lane_23 ?_
        refine Zw_iconst (v := 2) dX10_lane_24 (by decide) ?_
        refine Zw_S2 (k := 0) lm_X10_76 dX10_lane_25 (by decide) (Nat.le_of_ble_eq_true rfl) ?_
        refine s_within 2 (by decide) (fun b4 => ?_) (fun b4 => ?_)
        · refine Zw_if_ne 34 dX10_lane_28 (by decide) (fun _ => ?_) (fun c => absurd c (by decide))
          obtain ⟨c, hc, rfl⟩ := vp_in_of b4 (by decide)
          match c, hc with
          | 0, _ =>
            refine Zw_aload_0 dX10_lane_34 ?_
            obtain ⟨a, ha, rfl⟩ := vp_in_of b1 (by decide)
            obtain ⟨b, hb, rfl⟩ := vp_in_of b2 (by decide)
            refine Zw_getr 1 lf_X10_10 dX10_lane_35 (by first | decide | assumption | omega) (by first | rfl | assumption) (by rfl) ?_
            refine Zw_getr 2 lf_X10_92 dX10_lane_38 (by first | decide | assumption | omega) (by first | rfl | assumption) (by rfl) ?_
            refine Zw_iload_1 dX10_lane_41 ?_
            refine Zw_ialdn (a) dX10_lane_42 (by first | decide | assumption | omega) (by first | rfl | assumption) rfl (by omega) (by decide) ?_
            refine Zw_iload_2 dX10_lane_43 ?_
            refine Zw_ishr dX10_lane_44 ?_
            refine Zw_iconst (v := 1) dX10_lane_45 (by decide) ?_
            refine Zw_iand dX10_lane_46 ?_
            refine Zw_istore_4 dX10_lane_47 rfl ?_
            refine Zw_aload_0 dX10_lane_49 ?_
            refine Zw_getr 1 lf_X10_10 dX10_lane_50 (by first | decide | assumption | omega) (by first | rfl | assumption) (by rfl) ?_
            refine Zw_iload_1 dX10_lane_53 ?_
            refine Zw_iload_2 dX10_lane_54 ?_
            refine Zw_iload_3 dX10_lane_55 ?_
            refine Zw_iconst (v := 1) dX10_lane_56 (by decide) ?_
            refine Zw_icmp_ne 64 dX10_lane_57 (by decide) (fun _ => ?_) (fun c => absurd c (by decide))
            refine Zw_iconst (v := 0) dX10_lane_64 (by decide) ?_
            refine Zw_V3 (k := 0) lm_X10_95 dX10_lane_65 (by decide) (by first | decide | assumption | omega) (by first | rfl | assumption) (by rfl) (Nat.le_of_ble_eq_true rfl) ?_
            refine s_putLane0 ha hb (fun e => c20 (by rw [e])) ?_
            refine Zw_iload_4 dX10_lane_68 ?_
            refine Zw_ireturn dX10_lane_70 (by first | rfl | assumption) ?_
            exact h0 a b ha hb (fun e => c20 (by rw [e])) rfl rfl rfl
          | 1, _ =>
            refine Zw_aload_0 dX10_lane_34 ?_
            obtain ⟨a, ha, rfl⟩ := vp_in_of b1 (by decide)
            obtain ⟨b, hb, rfl⟩ := vp_in_of b2 (by decide)
            refine Zw_getr 1 lf_X10_10 dX10_lane_35 (by first | decide | assumption | omega) (by first | rfl | assumption) (by rfl) ?_
            refine Zw_getr 2 lf_X10_92 dX10_lane_38 (by first | decide | assumption | omega) (by first | rfl | assumption) (by rfl) ?_
            refine Zw_iload_1 dX10_lane_41 ?_
            refine Zw_ialdn (a) dX10_lane_42 (by first | decide | assumption | omega) (by first | rfl | assumption) rfl (by omega) (by decide) ?_
            refine Zw_iload_2 dX10_lane_43 ?_
            refine Zw_ishr dX10_lane_44 ?_
            refine Zw_iconst (v := 1) dX10_lane_45 (by decide) ?_
            refine Zw_iand dX10_lane_46 ?_
            refine Zw_istore_4 dX10_lane_47 rfl ?_
            refine Zw_aload_0 dX10_lane_49 ?_
            refine Zw_getr 1 lf_X10_10 dX10_lane_50 (by first | decide | assumption | omega) (by first | rfl | assumption) (by rfl) ?_
            refine Zw_iload_1 dX10_lane_53 ?_
            refine Zw_iload_2 dX10_lane_54 ?_
            refine Zw_iload_3 dX10_lane_55 ?_
            refine Zw_iconst (v := 1) dX10_lane_56 (by decide) ?_
            refine Zw_icmp_ne 64 dX10_lane_57 (by decide) (fun c => absurd c (by decide)) (fun _ => ?_)
            refine Zw_iconst (v := 1) dX10_lane_60 (by decide) ?_
            refine Zw_goto 65 dX10_lane_61 (by decide) ?_
            refine Zw_V3 (k := 0) lm_X10_95 dX10_lane_65 (by decide) (by first | decide | assumption | omega) (by first | rfl | assumption) (by rfl) (Nat.le_of_ble_eq_true rfl) ?_
            refine s_putLane1 ha hb (fun e => c20 (by rw [e])) ?_
            refine Zw_iload_4 dX10_lane_68 ?_
            refine Zw_ireturn dX10_lane_70 (by first | rfl | assumption) ?_
            exact h1 a b ha hb (fun e => c20 (by rw [e])) rfl rfl rfl
          | n + 2, hc => exact absurd hc (by omega)
        · refine Zw_if_ne 34 dX10_lane_28 (by decide) (fun c => absurd c (by decide)) (fun _ => ?_)
          refine Zw_bipush (v := (-2)) dX10_lane_31 (by decide) ?_
          refine Zw_ireturn dX10_lane_33 (by first | rfl | assumption) ?_
          exact hbad (fun e => b4 e.2.2.2)
    · refine Zw_if_eq 31 dX10_lane_15 (by decide) (fun _ => ?_) (fun c => absurd c (by decide))
      refine Zw_bipush (v := (-2)) dX10_lane_31 (by decide) ?_
      refine Zw_ireturn dX10_lane_33 (by first | rfl | assumption) ?_
      exact hbad (fun e => b2 e.2.1)
  · refine Zw_if_eq 31 dX10_lane_6 (by decide) (fun _ => ?_) (fun c => absurd c (by decide))
    refine Zw_bipush (v := (-2)) dX10_lane_31 (by decide) ?_
    refine Zw_ireturn dX10_lane_33 (by first | rfl | assumption) ?_
    exact hbad (fun e => b1 e.1)
set_option maxRecDepth 20000 in
theorem s_X_finder {kd nu on : Int32} {Q : zQ} {μ : zMu} {τ : Int64} (n : Nat) (hn5 : n ≤ 5) (hn : μ 1 2 = nI n) (hbad : ¬ (vp_in kd 6 ∧ vp_in nu 10 ∧ vp_in on 8) → Q (some (.int (-2))) μ τ) (hfull : (vp_in kd 6 ∧ vp_in nu 10 ∧ vp_in on 8) → n = 5 → Q (some (.int (-4))) μ τ) (hok : (vp_in kd 6 ∧ vp_in nu 10 ∧ vp_in on 8) → n < 5 → Q (some (.int (nI n))) (zup (zup (zup (zup (zup μ (4 + n) 0 kd) (4 + n) 1 nu) (4 + n) 2 on) (4 + n) 3 0) 1 2 (nI (n + 1))) τ) : Zc 2 yX10_finder cX10_finder 4 (some .int) [.ref 0, .int kd, .int nu, .int on] μ τ Q := by
  refine Zc.mk 0 [.ref 0, .int kd, .int nu, .int on] rfl (by decide) (Nat.le_of_ble_eq_true rfl) ?_
  refine Zw_aload_0 dX10_finder_0 ?_
  refine Zw_getr 1 lf_X10_10 dX10_finder_1 (by first | decide | assumption | omega) (by first | rfl | assumption) (by rfl) ?_
  refine Zw_iload_1 dX10_finder_4 ?_
  refine Zw_iload_2 dX10_finder_5 ?_
  refine Zw_iload_3 dX10_finder_6 ?_
  refine Zw_V3 (k := 1) lm_X10_99 dX10_finder_7 (by decide) (by first | decide | assumption | omega) (by first | rfl | assumption) (by rfl) (Nat.le_of_ble_eq_true rfl) ?_
  refine s_addFinder n hn5 hn (fun e => ?_) (fun e1 e2 => ?_) (fun e1 e2 => ?_)
  · refine Zw_ireturn dX10_finder_10 (by first | rfl | assumption) ?_
    first | exact hbad e | exact hfull e1 e2 | exact hok e1 e2
  · refine Zw_ireturn dX10_finder_10 (by first | rfl | assumption) ?_
    first | exact hbad e | exact hfull e1 e2 | exact hok e1 e2
  · refine Zw_ireturn dX10_finder_10 (by first | rfl | assumption) ?_
    first | exact hbad e | exact hfull e1 e2 | exact hok e1 e2
def q_fld : Nat → Nat
  | 4 => 1
  | 5 => 2
  | 6 => 0
  | _ => 3
def q_oktold (n : Nat) (of what : Int32) : Prop := vp_in what 11 ∧ (4 ≤ what.toNatClampNeg → what.toNatClampNeg ≤ 8 → vp_in of n) ∧ (9 ≤ what.toNatClampNeg → vp_in of 8)
set_option maxRecDepth 20000 in
theorem s_X_told {of what : Int32} {n w cnt t : Nat} {Q : zQ} {μ : zMu} {τ : Int64} (hfd : x_fd μ n) (hr : x_rl μ cnt t) (hw : μ 1 3 = nI w) (hw2 : w < 2 ^ 31) (hbad : ¬ q_oktold n of what → Q (some (.int (-2))) μ τ) (hG : ∀ c, c < 4 → what = nI c → Q (some (.int (μ 1 (3 + c)))) μ τ) (hF : ∀ c, 4 ≤ c → c < 8 → ∀ f, what = nI c → f < n → of = nI f → Q (some (.int (μ (4 + f) (q_fld c)))) μ τ) (hE : ∀ f, what = 8 → f < n → of = nI f → ∀ kd nu, μ (4 + f) 0 = nI kd → kd < 6 → μ (4 + f) 1 = nI nu → nu < 10 → ∀ μ2, zOff [19, 20] μ μ2 → Q (some (.int (q_eyes (xs μ t) (μ 2) (μ 1 4) w kd nu))) μ2 τ) (hL : ∀ p, what = 9 → p < 8 → of = nI p → Q (some (.int (μ 2 p))) μ τ) (hN : ∀ p, what = 10 → p < 8 → of = nI p → ∀ μ2, zOff [19, 20] μ μ2 → Q (some (.int (q_next (xs μ t) (μ 2) (μ 1 4) (nI w) p))) μ2 τ) : Zc 4 yX10_told cX10_told 3 (some .int) [.ref 0, .int of, .int what] μ τ Q := by
  refine Zc.mk 0 [.ref 0, .int of, .int what] rfl (by decide) (Nat.le_of_ble_eq_true rfl) ?_
  have hn5 := hfd.1
  have hn := hfd.2.1
  refine Zw_iload_2 dX10_told_0 ?_
  refine Zw_bipush (v := 11) dX10_told_1 (by decide) ?_
  refine Zw_S2 (k := 0) lm_X10_76 dX10_told_3 (by decide) (Nat.le_of_ble_eq_true rfl) ?_
  refine s_within 11 (by decide) (fun b1 => ?_) (fun b1 => ?_)
  · refine Zw_if_ne 12 dX10_told_6 (by decide) (fun _ => ?_) (fun c => absurd c (by decide))
    obtain ⟨c, hc, rfl⟩ := vp_in_of b1 (by decide)
    match c, hc with
    | 0, _ =>
      refine Zw_iload_2 dX10_told_12 ?_
      refine Zw_bipush (v := 9) dX10_told_13 (by decide) ?_
      refine Zw_icmp_eq 24 dX10_told_15 (by decide) (fun c => absurd c (by decide)) (fun _ => ?_)
      refine Zw_iload_2 dX10_told_18 ?_
      refine Zw_bipush (v := 10) dX10_told_19 (by decide) ?_
      refine Zw_icmp_ne 70 dX10_told_21 (by decide) (fun _ => ?_) (fun c => absurd c (by decide))
      refine Zw_iload_2 dX10_told_70 ?_
      refine Zw_iconst (v := 4) dX10_told_71 (by decide) ?_
      refine Zw_icmp_lt 92 dX10_told_72 (by decide) (fun _ => ?_) (fun c => absurd c (by decide))
      skip
      refine Zw_iload_2 dX10_told_92 ?_
      refine Zw_bipush (v := 8) dX10_told_93 (by decide) ?_
      refine Zw_icmp_ne 117 dX10_told_95 (by decide) (fun _ => ?_) (fun c => absurd c (by decide))
      refine Zw_aload_0 dX10_told_117 ?_
      refine Zw_getr 1 lf_X10_10 dX10_told_118 (by first | decide | assumption | omega) (by first | rfl | assumption) (by rfl) ?_
      refine Zw_iload_1 dX10_told_121 ?_
      refine Zw_iload_2 dX10_told_122 ?_
      refine Zw_V2 (k := 1) lm_X10_84 dX10_told_123 (by decide) (by first | decide | assumption | omega) (by first | rfl | assumption) (by rfl) (Nat.le_of_ble_eq_true rfl) ?_
      refine s_known0 ?_
      refine Zw_ireturn dX10_told_126 (by first | rfl | assumption) ?_
      exact hG 0 (by decide) rfl
    | 1, _ =>
      refine Zw_iload_2 dX10_told_12 ?_
      refine Zw_bipush (v := 9) dX10_told_13 (by decide) ?_
      refine Zw_icmp_eq 24 dX10_told_15 (by decide) (fun c => absurd c (by decide)) (fun _ => ?_)
      refine Zw_iload_2 dX10_told_18 ?_
      refine Zw_bipush (v := 10) dX10_told_19 (by decide) ?_
      refine Zw_icmp_ne 70 dX10_told_21 (by decide) (fun _ => ?_) (fun c => absurd c (by decide))
      refine Zw_iload_2 dX10_told_70 ?_
      refine Zw_iconst (v := 4) dX10_told_71 (by decide) ?_
      refine Zw_icmp_lt 92 dX10_told_72 (by decide) (fun _ => ?_) (fun c => absurd c (by decide))
      skip
      refine Zw_iload_2 dX10_told_92 ?_
      refine Zw_bipush (v := 8) dX10_told_93 (by decide) ?_
      refine Zw_icmp_ne 117 dX10_told_95 (by decide) (fun _ => ?_) (fun c => absurd c (by decide))
      refine Zw_aload_0 dX10_told_117 ?_
      refine Zw_getr 1 lf_X10_10 dX10_told_118 (by first | decide | assumption | omega) (by first | rfl | assumption) (by rfl) ?_
      refine Zw_iload_1 dX10_told_121 ?_
      refine Zw_iload_2 dX10_told_122 ?_
      refine Zw_V2 (k := 1) lm_X10_84 dX10_told_123 (by decide) (by first | decide | assumption | omega) (by first | rfl | assumption) (by rfl) (Nat.le_of_ble_eq_true rfl) ?_
      refine s_known1 ?_
      refine Zw_ireturn dX10_told_126 (by first | rfl | assumption) ?_
      exact hG 1 (by decide) rfl
    | 2, _ =>
      refine Zw_iload_2 dX10_told_12 ?_
      refine Zw_bipush (v := 9) dX10_told_13 (by decide) ?_
      refine Zw_icmp_eq 24 dX10_told_15 (by decide) (fun c => absurd c (by decide)) (fun _ => ?_)
      refine Zw_iload_2 dX10_told_18 ?_
      refine Zw_bipush (v := 10) dX10_told_19 (by decide) ?_
      refine Zw_icmp_ne 70 dX10_told_21 (by decide) (fun _ => ?_) (fun c => absurd c (by decide))
      refine Zw_iload_2 dX10_told_70 ?_
      refine Zw_iconst (v := 4) dX10_told_71 (by decide) ?_
      refine Zw_icmp_lt 92 dX10_told_72 (by decide) (fun _ => ?_) (fun c => absurd c (by decide))
      skip
      refine Zw_iload_2 dX10_told_92 ?_
      refine Zw_bipush (v := 8) dX10_told_93 (by decide) ?_
      refine Zw_icmp_ne 117 dX10_told_95 (by decide) (fun _ => ?_) (fun c => absurd c (by decide))
      refine Zw_aload_0 dX10_told_117 ?_
      refine Zw_getr 1 lf_X10_10 dX10_told_118 (by first | decide | assumption | omega) (by first | rfl | assumption) (by rfl) ?_
      refine Zw_iload_1 dX10_told_121 ?_
      refine Zw_iload_2 dX10_told_122 ?_
      refine Zw_V2 (k := 1) lm_X10_84 dX10_told_123 (by decide) (by first | decide | assumption | omega) (by first | rfl | assumption) (by rfl) (Nat.le_of_ble_eq_true rfl) ?_
      refine s_known2 ?_
      refine Zw_ireturn dX10_told_126 (by first | rfl | assumption) ?_
      exact hG 2 (by decide) rfl
    | 3, _ =>
      refine Zw_iload_2 dX10_told_12 ?_
      refine Zw_bipush (v := 9) dX10_told_13 (by decide) ?_
      refine Zw_icmp_eq 24 dX10_told_15 (by decide) (fun c => absurd c (by decide)) (fun _ => ?_)
      refine Zw_iload_2 dX10_told_18 ?_
      refine Zw_bipush (v := 10) dX10_told_19 (by decide) ?_
      refine Zw_icmp_ne 70 dX10_told_21 (by decide) (fun _ => ?_) (fun c => absurd c (by decide))
      refine Zw_iload_2 dX10_told_70 ?_
      refine Zw_iconst (v := 4) dX10_told_71 (by decide) ?_
      refine Zw_icmp_lt 92 dX10_told_72 (by decide) (fun _ => ?_) (fun c => absurd c (by decide))
      skip
      refine Zw_iload_2 dX10_told_92 ?_
      refine Zw_bipush (v := 8) dX10_told_93 (by decide) ?_
      refine Zw_icmp_ne 117 dX10_told_95 (by decide) (fun _ => ?_) (fun c => absurd c (by decide))
      refine Zw_aload_0 dX10_told_117 ?_
      refine Zw_getr 1 lf_X10_10 dX10_told_118 (by first | decide | assumption | omega) (by first | rfl | assumption) (by rfl) ?_
      refine Zw_iload_1 dX10_told_121 ?_
      refine Zw_iload_2 dX10_told_122 ?_
      refine Zw_V2 (k := 1) lm_X10_84 dX10_told_123 (by decide) (by first | decide | assumption | omega) (by first | rfl | assumption) (by rfl) (Nat.le_of_ble_eq_true rfl) ?_
      refine s_known3 ?_
      refine Zw_ireturn dX10_told_126 (by first | rfl | assumption) ?_
      exact hG 3 (by decide) rfl
    | 4, _ =>
      refine Zw_iload_2 dX10_told_12 ?_
      refine Zw_bipush (v := 9) dX10_told_13 (by decide) ?_
      refine Zw_icmp_eq 24 dX10_told_15 (by decide) (fun c => absurd c (by decide)) (fun _ => ?_)
      refine Zw_iload_2 dX10_told_18 ?_
      refine Zw_bipush (v := 10) dX10_told_19 (by decide) ?_
      refine Zw_icmp_ne 70 dX10_told_21 (by decide) (fun _ => ?_) (fun c => absurd c (by decide))
      refine Zw_iload_2 dX10_told_70 ?_
      refine Zw_iconst (v := 4) dX10_told_71 (by decide) ?_
      refine Zw_icmp_lt 92 dX10_told_72 (by decide) (fun c => absurd c (by decide)) (fun _ => ?_)
      refine Zw_iload_1 dX10_told_75 ?_
      refine Zw_aload_0 dX10_told_76 ?_
      refine Zw_getr 1 lf_X10_10 dX10_told_77 (by first | decide | assumption | omega) (by first | rfl | assumption) (by rfl) ?_
      refine Zw_geti lf_X10_80 dX10_told_80 (by first | decide | assumption | omega) (by first | rfl | assumption) (by rfl) ?_
      refine Zw_S2 (k := 0) lm_X10_76 dX10_told_83 (by decide) (Nat.le_of_ble_eq_true rfl) ?_
      refine s_within n (by rw [hn]; exact nI_toInt (by omega)) (fun b3 => ?_) (fun b3 => ?_)
      · refine Zw_if_ne 92 dX10_told_86 (by decide) (fun _ => ?_) (fun c => absurd c (by decide))
        obtain ⟨f, hf, rfl⟩ := vp_in_of b3 (by omega)
        refine Zw_iload_2 dX10_told_92 ?_
        refine Zw_bipush (v := 8) dX10_told_93 (by decide) ?_
        refine Zw_icmp_ne 117 dX10_told_95 (by decide) (fun _ => ?_) (fun c => absurd c (by decide))
        refine Zw_aload_0 dX10_told_117 ?_
        refine Zw_getr 1 lf_X10_10 dX10_told_118 (by first | decide | assumption | omega) (by first | rfl | assumption) (by rfl) ?_
        refine Zw_iload_1 dX10_told_121 ?_
        refine Zw_iload_2 dX10_told_122 ?_
        refine Zw_V2 (k := 1) lm_X10_84 dX10_told_123 (by decide) (by first | decide | assumption | omega) (by first | rfl | assumption) (by rfl) (Nat.le_of_ble_eq_true rfl) ?_
        refine s_known4 n hn5 hn hf ?_
        refine Zw_ireturn dX10_told_126 (by first | rfl | assumption) ?_
        exact hF 4 (by decide) (by decide) f rfl hf rfl
      · refine Zw_if_ne 92 dX10_told_86 (by decide) (fun c => absurd c (by decide)) (fun _ => ?_)
        refine Zw_bipush (v := (-2)) dX10_told_89 (by decide) ?_
        refine Zw_ireturn dX10_told_91 (by first | rfl | assumption) ?_
        exact hbad (fun e => b3 (e.2.1 (by decide) (by decide)))
    | 5, _ =>
      refine Zw_iload_2 dX10_told_12 ?_
      refine Zw_bipush (v := 9) dX10_told_13 (by decide) ?_
      refine Zw_icmp_eq 24 dX10_told_15 (by decide) (fun c => absurd c (by decide)) (fun _ => ?_)
      refine Zw_iload_2 dX10_told_18 ?_
      refine Zw_bipush (v := 10) dX10_told_19 (by decide) ?_
      refine Zw_icmp_ne 70 dX10_told_21 (by decide) (fun _ => ?_) (fun c => absurd c (by decide))
      refine Zw_iload_2 dX10_told_70 ?_
      refine Zw_iconst (v := 4) dX10_told_71 (by decide) ?_
      refine Zw_icmp_lt 92 dX10_told_72 (by decide) (fun c => absurd c (by decide)) (fun _ => ?_)
      refine Zw_iload_1 dX10_told_75 ?_
      refine Zw_aload_0 dX10_told_76 ?_
      refine Zw_getr 1 lf_X10_10 dX10_told_77 (by first | decide | assumption | omega) (by first | rfl | assumption) (by rfl) ?_
      refine Zw_geti lf_X10_80 dX10_told_80 (by first | decide | assumption | omega) (by first | rfl | assumption) (by rfl) ?_
      refine Zw_S2 (k := 0) lm_X10_76 dX10_told_83 (by decide) (Nat.le_of_ble_eq_true rfl) ?_
      refine s_within n (by rw [hn]; exact nI_toInt (by omega)) (fun b3 => ?_) (fun b3 => ?_)
      · refine Zw_if_ne 92 dX10_told_86 (by decide) (fun _ => ?_) (fun c => absurd c (by decide))
        obtain ⟨f, hf, rfl⟩ := vp_in_of b3 (by omega)
        refine Zw_iload_2 dX10_told_92 ?_
        refine Zw_bipush (v := 8) dX10_told_93 (by decide) ?_
        refine Zw_icmp_ne 117 dX10_told_95 (by decide) (fun _ => ?_) (fun c => absurd c (by decide))
        refine Zw_aload_0 dX10_told_117 ?_
        refine Zw_getr 1 lf_X10_10 dX10_told_118 (by first | decide | assumption | omega) (by first | rfl | assumption) (by rfl) ?_
        refine Zw_iload_1 dX10_told_121 ?_
        refine Zw_iload_2 dX10_told_122 ?_
        refine Zw_V2 (k := 1) lm_X10_84 dX10_told_123 (by decide) (by first | decide | assumption | omega) (by first | rfl | assumption) (by rfl) (Nat.le_of_ble_eq_true rfl) ?_
        refine s_known5 n hn5 hn hf ?_
        refine Zw_ireturn dX10_told_126 (by first | rfl | assumption) ?_
        exact hF 5 (by decide) (by decide) f rfl hf rfl
      · refine Zw_if_ne 92 dX10_told_86 (by decide) (fun c => absurd c (by decide)) (fun _ => ?_)
        refine Zw_bipush (v := (-2)) dX10_told_89 (by decide) ?_
        refine Zw_ireturn dX10_told_91 (by first | rfl | assumption) ?_
        exact hbad (fun e => b3 (e.2.1 (by decide) (by decide)))
    | 6, _ =>
      refine Zw_iload_2 dX10_told_12 ?_
      refine Zw_bipush (v := 9) dX10_told_13 (by decide) ?_
      refine Zw_icmp_eq 24 dX10_told_15 (by decide) (fun c => absurd c (by decide)) (fun _ => ?_)
      refine Zw_iload_2 dX10_told_18 ?_
      refine Zw_bipush (v := 10) dX10_told_19 (by decide) ?_
      refine Zw_icmp_ne 70 dX10_told_21 (by decide) (fun _ => ?_) (fun c => absurd c (by decide))
      refine Zw_iload_2 dX10_told_70 ?_
      refine Zw_iconst (v := 4) dX10_told_71 (by decide) ?_
      refine Zw_icmp_lt 92 dX10_told_72 (by decide) (fun c => absurd c (by decide)) (fun _ => ?_)
      refine Zw_iload_1 dX10_told_75 ?_
      refine Zw_aload_0 dX10_told_76 ?_
      refine Zw_getr 1 lf_X10_10 dX10_told_77 (by first | decide | assumption | omega) (by first | rfl | assumption) (by rfl) ?_
      refine Zw_geti lf_X10_80 dX10_told_80 (by first | decide | assumption | omega) (by first | rfl | assumption) (by rfl) ?_
      refine Zw_S2 (k := 0) lm_X10_76 dX10_told_83 (by decide) (Nat.le_of_ble_eq_true rfl) ?_
      refine s_within n (by rw [hn]; exact nI_toInt (by omega)) (fun b3 => ?_) (fun b3 => ?_)
      · refine Zw_if_ne 92 dX10_told_86 (by decide) (fun _ => ?_) (fun c => absurd c (by decide))
        obtain ⟨f, hf, rfl⟩ := vp_in_of b3 (by omega)
        refine Zw_iload_2 dX10_told_92 ?_
        refine Zw_bipush (v := 8) dX10_told_93 (by decide) ?_
        refine Zw_icmp_ne 117 dX10_told_95 (by decide) (fun _ => ?_) (fun c => absurd c (by decide))
        refine Zw_aload_0 dX10_told_117 ?_
        refine Zw_getr 1 lf_X10_10 dX10_told_118 (by first | decide | assumption | omega) (by first | rfl | assumption) (by rfl) ?_
        refine Zw_iload_1 dX10_told_121 ?_
        refine Zw_iload_2 dX10_told_122 ?_
        refine Zw_V2 (k := 1) lm_X10_84 dX10_told_123 (by decide) (by first | decide | assumption | omega) (by first | rfl | assumption) (by rfl) (Nat.le_of_ble_eq_true rfl) ?_
        refine s_known6 n hn5 hn hf ?_
        refine Zw_ireturn dX10_told_126 (by first | rfl | assumption) ?_
        exact hF 6 (by decide) (by decide) f rfl hf rfl
      · refine Zw_if_ne 92 dX10_told_86 (by decide) (fun c => absurd c (by decide)) (fun _ => ?_)
        refine Zw_bipush (v := (-2)) dX10_told_89 (by decide) ?_
        refine Zw_ireturn dX10_told_91 (by first | rfl | assumption) ?_
        exact hbad (fun e => b3 (e.2.1 (by decide) (by decide)))
    | 7, _ =>
      refine Zw_iload_2 dX10_told_12 ?_
      refine Zw_bipush (v := 9) dX10_told_13 (by decide) ?_
      refine Zw_icmp_eq 24 dX10_told_15 (by decide) (fun c => absurd c (by decide)) (fun _ => ?_)
      refine Zw_iload_2 dX10_told_18 ?_
      refine Zw_bipush (v := 10) dX10_told_19 (by decide) ?_
      refine Zw_icmp_ne 70 dX10_told_21 (by decide) (fun _ => ?_) (fun c => absurd c (by decide))
      refine Zw_iload_2 dX10_told_70 ?_
      refine Zw_iconst (v := 4) dX10_told_71 (by decide) ?_
      refine Zw_icmp_lt 92 dX10_told_72 (by decide) (fun c => absurd c (by decide)) (fun _ => ?_)
      refine Zw_iload_1 dX10_told_75 ?_
      refine Zw_aload_0 dX10_told_76 ?_
      refine Zw_getr 1 lf_X10_10 dX10_told_77 (by first | decide | assumption | omega) (by first | rfl | assumption) (by rfl) ?_
      refine Zw_geti lf_X10_80 dX10_told_80 (by first | decide | assumption | omega) (by first | rfl | assumption) (by rfl) ?_
      refine Zw_S2 (k := 0) lm_X10_76 dX10_told_83 (by decide) (Nat.le_of_ble_eq_true rfl) ?_
      refine s_within n (by rw [hn]; exact nI_toInt (by omega)) (fun b3 => ?_) (fun b3 => ?_)
      · refine Zw_if_ne 92 dX10_told_86 (by decide) (fun _ => ?_) (fun c => absurd c (by decide))
        obtain ⟨f, hf, rfl⟩ := vp_in_of b3 (by omega)
        refine Zw_iload_2 dX10_told_92 ?_
        refine Zw_bipush (v := 8) dX10_told_93 (by decide) ?_
        refine Zw_icmp_ne 117 dX10_told_95 (by decide) (fun _ => ?_) (fun c => absurd c (by decide))
        refine Zw_aload_0 dX10_told_117 ?_
        refine Zw_getr 1 lf_X10_10 dX10_told_118 (by first | decide | assumption | omega) (by first | rfl | assumption) (by rfl) ?_
        refine Zw_iload_1 dX10_told_121 ?_
        refine Zw_iload_2 dX10_told_122 ?_
        refine Zw_V2 (k := 1) lm_X10_84 dX10_told_123 (by decide) (by first | decide | assumption | omega) (by first | rfl | assumption) (by rfl) (Nat.le_of_ble_eq_true rfl) ?_
        refine s_known7 n hn5 hn hf ?_
        refine Zw_ireturn dX10_told_126 (by first | rfl | assumption) ?_
        exact hF 7 (by decide) (by decide) f rfl hf rfl
      · refine Zw_if_ne 92 dX10_told_86 (by decide) (fun c => absurd c (by decide)) (fun _ => ?_)
        refine Zw_bipush (v := (-2)) dX10_told_89 (by decide) ?_
        refine Zw_ireturn dX10_told_91 (by first | rfl | assumption) ?_
        exact hbad (fun e => b3 (e.2.1 (by decide) (by decide)))
    | 8, _ =>
      refine Zw_iload_2 dX10_told_12 ?_
      refine Zw_bipush (v := 9) dX10_told_13 (by decide) ?_
      refine Zw_icmp_eq 24 dX10_told_15 (by decide) (fun c => absurd c (by decide)) (fun _ => ?_)
      refine Zw_iload_2 dX10_told_18 ?_
      refine Zw_bipush (v := 10) dX10_told_19 (by decide) ?_
      refine Zw_icmp_ne 70 dX10_told_21 (by decide) (fun _ => ?_) (fun c => absurd c (by decide))
      refine Zw_iload_2 dX10_told_70 ?_
      refine Zw_iconst (v := 4) dX10_told_71 (by decide) ?_
      refine Zw_icmp_lt 92 dX10_told_72 (by decide) (fun c => absurd c (by decide)) (fun _ => ?_)
      refine Zw_iload_1 dX10_told_75 ?_
      refine Zw_aload_0 dX10_told_76 ?_
      refine Zw_getr 1 lf_X10_10 dX10_told_77 (by first | decide | assumption | omega) (by first | rfl | assumption) (by rfl) ?_
      refine Zw_geti lf_X10_80 dX10_told_80 (by first | decide | assumption | omega) (by first | rfl | assumption) (by rfl) ?_
      refine Zw_S2 (k := 0) lm_X10_76 dX10_told_83 (by decide) (Nat.le_of_ble_eq_true rfl) ?_
      refine s_within n (by rw [hn]; exact nI_toInt (by omega)) (fun b3 => ?_) (fun b3 => ?_)
      · refine Zw_if_ne 92 dX10_told_86 (by decide) (fun _ => ?_) (fun c => absurd c (by decide))
        obtain ⟨f, hf, rfl⟩ := vp_in_of b3 (by omega)
        obtain ⟨kd, nu, a, g1, g2, g3, g4, g5, g6⟩ := hfd.2.2 f hf
        have hsf := zfin_s (show f < 5 by omega)
        refine Zw_iload_2 dX10_told_92 ?_
        refine Zw_bipush (v := 8) dX10_told_93 (by decide) ?_
        refine Zw_icmp_ne 117 dX10_told_95 (by decide) (fun c => absurd c (by decide)) (fun _ => ?_)
        refine Zw_aload_0 dX10_told_98 ?_
        refine Zw_getr 42 lf_X10_38 dX10_told_99 (by first | decide | assumption | omega) (by first | rfl | assumption) (by rfl) ?_
        refine Zw_aload_0 dX10_told_102 ?_
        refine Zw_getr 1 lf_X10_10 dX10_told_103 (by first | decide | assumption | omega) (by first | rfl | assumption) (by rfl) ?_
        refine Zw_getr 3 lf_X10_109 dX10_told_106 (by first | decide | assumption | omega) (by first | rfl | assumption) (by rfl) ?_
        refine Zw_iload_1 dX10_told_109 ?_
        refine Zw_aaldn (f) (4 + f) dX10_told_110 (by first | decide | assumption | omega) (by first | rfl | assumption) rfl (by omega) (zfin_g (by omega)) (by decide) ?_
        refine Zw_V1 (k := 3) lm_X10_113 dX10_told_111 (by decide) (by first | decide | assumption | omega) (by first | rfl | assumption) (by rfl) (Nat.le_of_ble_eq_true rfl) ?_
        refine s_eyes (by omega) hsf (by omega) hw2 hw hr g1 g2 g3 g4 (fun μ1 hO1 => ?_)
        refine Zw_goto 126 dX10_told_114 (by decide) ?_
        refine Zw_ireturn dX10_told_126 (by first | rfl | assumption) ?_
        exact hE f rfl hf rfl kd nu g1 g2 g3 g4 μ1 hO1
      · refine Zw_if_ne 92 dX10_told_86 (by decide) (fun c => absurd c (by decide)) (fun _ => ?_)
        refine Zw_bipush (v := (-2)) dX10_told_89 (by decide) ?_
        refine Zw_ireturn dX10_told_91 (by first | rfl | assumption) ?_
        exact hbad (fun e => b3 (e.2.1 (by decide) (by decide)))
    | 9, _ =>
      refine Zw_iload_2 dX10_told_12 ?_
      refine Zw_bipush (v := 9) dX10_told_13 (by decide) ?_
      refine Zw_icmp_eq 24 dX10_told_15 (by decide) (fun _ => ?_) (fun c => absurd c (by decide))
      refine Zw_iload_1 dX10_told_24 ?_
      refine Zw_bipush (v := 8) dX10_told_25 (by decide) ?_
      refine Zw_S2 (k := 0) lm_X10_76 dX10_told_27 (by decide) (Nat.le_of_ble_eq_true rfl) ?_
      refine s_within 8 (by decide) (fun b2 => ?_) (fun b2 => ?_)
      · refine Zw_if_ne 36 dX10_told_30 (by decide) (fun _ => ?_) (fun c => absurd c (by decide))
        obtain ⟨p, hp, rfl⟩ := vp_in_of b2 (by decide)
        refine Zw_iload_2 dX10_told_36 ?_
        refine Zw_bipush (v := 9) dX10_told_37 (by decide) ?_
        refine Zw_icmp_ne 54 dX10_told_39 (by decide) (fun c => absurd c (by decide)) (fun _ => ?_)
        refine Zw_aload_0 dX10_told_42 ?_
        refine Zw_getr 1 lf_X10_10 dX10_told_43 (by first | decide | assumption | omega) (by first | rfl | assumption) (by rfl) ?_
        refine Zw_getr 2 lf_X10_92 dX10_told_46 (by first | decide | assumption | omega) (by first | rfl | assumption) (by rfl) ?_
        refine Zw_iload_1 dX10_told_49 ?_
        refine Zw_ialdn (p) dX10_told_50 (by first | decide | assumption | omega) (by first | rfl | assumption) rfl (by omega) (by decide) ?_
        refine Zw_goto 69 dX10_told_51 (by decide) ?_
        refine Zw_ireturn dX10_told_69 (by first | rfl | assumption) ?_
        exact hL p rfl hp rfl
      · refine Zw_if_ne 36 dX10_told_30 (by decide) (fun c => absurd c (by decide)) (fun _ => ?_)
        refine Zw_bipush (v := (-2)) dX10_told_33 (by decide) ?_
        refine Zw_ireturn dX10_told_35 (by first | rfl | assumption) ?_
        exact hbad (fun e => b2 (e.2.2 (by decide)))
    | 10, _ =>
      refine Zw_iload_2 dX10_told_12 ?_
      refine Zw_bipush (v := 9) dX10_told_13 (by decide) ?_
      refine Zw_icmp_eq 24 dX10_told_15 (by decide) (fun c => absurd c (by decide)) (fun _ => ?_)
      refine Zw_iload_2 dX10_told_18 ?_
      refine Zw_bipush (v := 10) dX10_told_19 (by decide) ?_
      refine Zw_icmp_ne 70 dX10_told_21 (by decide) (fun c => absurd c (by decide)) (fun _ => ?_)
      refine Zw_iload_1 dX10_told_24 ?_
      refine Zw_bipush (v := 8) dX10_told_25 (by decide) ?_
      refine Zw_S2 (k := 0) lm_X10_76 dX10_told_27 (by decide) (Nat.le_of_ble_eq_true rfl) ?_
      refine s_within 8 (by decide) (fun b2 => ?_) (fun b2 => ?_)
      · refine Zw_if_ne 36 dX10_told_30 (by decide) (fun _ => ?_) (fun c => absurd c (by decide))
        obtain ⟨p, hp, rfl⟩ := vp_in_of b2 (by decide)
        refine Zw_iload_2 dX10_told_36 ?_
        refine Zw_bipush (v := 9) dX10_told_37 (by decide) ?_
        refine Zw_icmp_ne 54 dX10_told_39 (by decide) (fun _ => ?_) (fun c => absurd c (by decide))
        refine Zw_aload_0 dX10_told_54 ?_
        refine Zw_getr 42 lf_X10_38 dX10_told_55 (by first | decide | assumption | omega) (by first | rfl | assumption) (by rfl) ?_
        refine Zw_iload_1 dX10_told_58 ?_
        refine Zw_aload_0 dX10_told_59 ?_
        refine Zw_getr 1 lf_X10_10 dX10_told_60 (by first | decide | assumption | omega) (by first | rfl | assumption) (by rfl) ?_
        refine Zw_getv (nI w) lf_X10_103 dX10_told_63 (by first | decide | assumption | omega) (by first | rfl | assumption) (by rfl) hw ?_
        refine Zw_V2 (k := 2) lm_X10_106 dX10_told_66 (by decide) (by first | decide | assumption | omega) (by first | rfl | assumption) (by rfl) (Nat.le_of_ble_eq_true rfl) ?_
        refine s_next hp hr (fun μ1 hO1 => ?_)
        refine Zw_ireturn dX10_told_69 (by first | rfl | assumption) ?_
        exact hN p rfl hp rfl μ1 hO1
      · refine Zw_if_ne 36 dX10_told_30 (by decide) (fun c => absurd c (by decide)) (fun _ => ?_)
        refine Zw_bipush (v := (-2)) dX10_told_33 (by decide) ?_
        refine Zw_ireturn dX10_told_35 (by first | rfl | assumption) ?_
        exact hbad (fun e => b2 (e.2.2 (by decide)))
    | n + 11, hc => exact absurd hc (by omega)
  · refine Zw_if_ne 12 dX10_told_6 (by decide) (fun c => absurd c (by decide)) (fun _ => ?_)
    refine Zw_bipush (v := (-2)) dX10_told_9 (by decide) ?_
    refine Zw_ireturn dX10_told_11 (by first | rfl | assumption) ?_
    exact hbad (fun e => b1 e.1)
