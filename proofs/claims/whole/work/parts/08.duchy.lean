def q_under : Nat → Int32 → Bool
  | 0, a => a == 0
  | 1, a => a == 1 || a == 0
  | 2, a => a == 2 || a == 0
  | 3, a => a == 3 || (a == 1 || a == 0)
  | 4, a => a == 4 || (a == 2 || a == 0)
  | _, a => a == 5 || a == 0
set_option maxRecDepth 20000 in
theorem s_x_isUnder {k : Nat} {a : Int32} {Q : zQ} {μ : zMu} {τ : Int64} (hk : k < 78) (hs : zSh k = .inl (3, [0, 0, 0, 0])) (c : Nat) (hc : c < 6) (hkd : μ k 0 = nI c) (h1 : q_under c a = true → Q (some (.int 1)) μ τ) (h0 : q_under c a = false → Q (some (.int 0)) μ τ) : Zc 1 yX3_isUnder cX3_isUnder 4 (some .boolean) [.ref k, .int a] μ τ Q := by
  refine Zc.mk 2 [.ref k, .int a, .null, .null] rfl (by decide) (Nat.le_of_ble_eq_true rfl) ?_
  match c, hc, hkd with
  | 0, _, hkd =>
    refine Zw_aload_0 dX3_isUnder_0 ?_
    refine Zw_geti lf_X3_9 dX3_isUnder_1 (by first | decide | assumption | omega) (by first | rfl | assumption) (by rfl) ?_
    rw [hkd]
    show Zw _ _ _ _ _ _ _ _ (Value.int 0 :: _) _ _
    refine Zw_istore_2 dX3_isUnder_4 rfl ?_
    refine Zw_iconst (v := 0) dX3_isUnder_5 (by decide) ?_
    refine Zw_istore_3 dX3_isUnder_6 rfl ?_
    refine Zw_iload_3 dX3_isUnder_7 ?_
    refine Zw_bipush (v := 6) dX3_isUnder_8 (by decide) ?_
    refine Zw_icmp_ge 41 dX3_isUnder_10 (by decide) (fun c => absurd c (by decide)) (fun _ => ?_)
    refine Zw_iload_2 dX3_isUnder_13 ?_
    refine Zw_bipush (v := 6) dX3_isUnder_14 (by decide) ?_
    refine Zw_N2 (k := 0) lm_X3_24 dX3_isUnder_16 (by decide) (Nat.le_of_ble_eq_true rfl) ?_
    refine s_within 6 (by rfl) (fun _ => ?_) (fun a0 => absurd (by unfold vp_in; decide) a0)
    refine Zw_if_eq 41 dX3_isUnder_19 (by decide) (fun c => absurd c (by decide)) (fun _ => ?_)
    refine Zw_iload_2 dX3_isUnder_22 ?_
    refine Zw_iload_1 dX3_isUnder_23 ?_
    refine Zw_icmp_ne 29 dX3_isUnder_24 (by decide) (fun c24 => ?_) (fun c24 => ?_)
    · refine Zw_getsN (t := 1) (by decide) (by decide +kernel) dX3_isUnder_29 ?_
      refine Zw_iload_2 dX3_isUnder_32 ?_
      refine Zw_tald (t := 1) (x := (-1)) dX3_isUnder_33 (by decide) (by first | assumption | exact vp_in_nI (by omega) (by omega) | exact vp_in_nI (by simp; omega) (by decide) | (unfold vp_in; decide)) (by decide) ?_
      refine Zw_istore_2 dX3_isUnder_34 rfl ?_
      refine Zw_iinc_3 (y := 1) dX3_isUnder_35 rfl (by decide) ?_
      refine Zw_goto 7 dX3_isUnder_38 (by decide) ?_
      refine Zw_iload_3 dX3_isUnder_7 ?_
      refine Zw_bipush (v := 6) dX3_isUnder_8 (by decide) ?_
      refine Zw_icmp_ge 41 dX3_isUnder_10 (by decide) (fun c => absurd c (by decide)) (fun _ => ?_)
      refine Zw_iload_2 dX3_isUnder_13 ?_
      refine Zw_bipush (v := 6) dX3_isUnder_14 (by decide) ?_
      refine Zw_N2 (k := 0) lm_X3_24 dX3_isUnder_16 (by decide) (Nat.le_of_ble_eq_true rfl) ?_
      refine s_within 6 (by rfl) (fun a1 => absurd a1 (by unfold vp_in; decide)) (fun _ => ?_)
      refine Zw_if_eq 41 dX3_isUnder_19 (by decide) (fun _ => ?_) (fun c => absurd c (by decide))
      refine Zw_iconst (v := 0) dX3_isUnder_41 (by decide) ?_
      refine Zw_ireturn dX3_isUnder_42 (by first | rfl | assumption) ?_
      exact h0 (by simp [q_under, Ne.symm c24])
    · refine Zw_iconst (v := 1) dX3_isUnder_27 (by decide) ?_
      refine Zw_ireturn dX3_isUnder_28 (by first | rfl | assumption) ?_
      exact h1 (by subst c24; decide)
  | 1, _, hkd =>
    refine Zw_aload_0 dX3_isUnder_0 ?_
    refine Zw_geti lf_X3_9 dX3_isUnder_1 (by first | decide | assumption | omega) (by first | rfl | assumption) (by rfl) ?_
    rw [hkd]
    show Zw _ _ _ _ _ _ _ _ (Value.int 1 :: _) _ _
    refine Zw_istore_2 dX3_isUnder_4 rfl ?_
    refine Zw_iconst (v := 0) dX3_isUnder_5 (by decide) ?_
    refine Zw_istore_3 dX3_isUnder_6 rfl ?_
    refine Zw_iload_3 dX3_isUnder_7 ?_
    refine Zw_bipush (v := 6) dX3_isUnder_8 (by decide) ?_
    refine Zw_icmp_ge 41 dX3_isUnder_10 (by decide) (fun c => absurd c (by decide)) (fun _ => ?_)
    refine Zw_iload_2 dX3_isUnder_13 ?_
    refine Zw_bipush (v := 6) dX3_isUnder_14 (by decide) ?_
    refine Zw_N2 (k := 0) lm_X3_24 dX3_isUnder_16 (by decide) (Nat.le_of_ble_eq_true rfl) ?_
    refine s_within 6 (by rfl) (fun _ => ?_) (fun a0 => absurd (by unfold vp_in; decide) a0)
    refine Zw_if_eq 41 dX3_isUnder_19 (by decide) (fun c => absurd c (by decide)) (fun _ => ?_)
    refine Zw_iload_2 dX3_isUnder_22 ?_
    refine Zw_iload_1 dX3_isUnder_23 ?_
    refine Zw_icmp_ne 29 dX3_isUnder_24 (by decide) (fun c24 => ?_) (fun c24 => ?_)
    · refine Zw_getsN (t := 1) (by decide) (by decide +kernel) dX3_isUnder_29 ?_
      refine Zw_iload_2 dX3_isUnder_32 ?_
      refine Zw_tald (t := 1) (x := 0) dX3_isUnder_33 (by decide) (by first | assumption | exact vp_in_nI (by omega) (by omega) | exact vp_in_nI (by simp; omega) (by decide) | (unfold vp_in; decide)) (by decide) ?_
      refine Zw_istore_2 dX3_isUnder_34 rfl ?_
      refine Zw_iinc_3 (y := 1) dX3_isUnder_35 rfl (by decide) ?_
      refine Zw_goto 7 dX3_isUnder_38 (by decide) ?_
      refine Zw_iload_3 dX3_isUnder_7 ?_
      refine Zw_bipush (v := 6) dX3_isUnder_8 (by decide) ?_
      refine Zw_icmp_ge 41 dX3_isUnder_10 (by decide) (fun c => absurd c (by decide)) (fun _ => ?_)
      refine Zw_iload_2 dX3_isUnder_13 ?_
      refine Zw_bipush (v := 6) dX3_isUnder_14 (by decide) ?_
      refine Zw_N2 (k := 0) lm_X3_24 dX3_isUnder_16 (by decide) (Nat.le_of_ble_eq_true rfl) ?_
      refine s_within 6 (by rfl) (fun _ => ?_) (fun a0 => absurd (by unfold vp_in; decide) a0)
      refine Zw_if_eq 41 dX3_isUnder_19 (by decide) (fun c => absurd c (by decide)) (fun _ => ?_)
      refine Zw_iload_2 dX3_isUnder_22 ?_
      refine Zw_iload_1 dX3_isUnder_23 ?_
      refine Zw_icmp_ne 29 dX3_isUnder_24 (by decide) (fun c24_2 => ?_) (fun c24_2 => ?_)
      · refine Zw_getsN (t := 1) (by decide) (by decide +kernel) dX3_isUnder_29 ?_
        refine Zw_iload_2 dX3_isUnder_32 ?_
        refine Zw_tald (t := 1) (x := (-1)) dX3_isUnder_33 (by decide) (by first | assumption | exact vp_in_nI (by omega) (by omega) | exact vp_in_nI (by simp; omega) (by decide) | (unfold vp_in; decide)) (by decide) ?_
        refine Zw_istore_2 dX3_isUnder_34 rfl ?_
        refine Zw_iinc_3 (y := 2) dX3_isUnder_35 rfl (by decide) ?_
        refine Zw_goto 7 dX3_isUnder_38 (by decide) ?_
        refine Zw_iload_3 dX3_isUnder_7 ?_
        refine Zw_bipush (v := 6) dX3_isUnder_8 (by decide) ?_
        refine Zw_icmp_ge 41 dX3_isUnder_10 (by decide) (fun c => absurd c (by decide)) (fun _ => ?_)
        refine Zw_iload_2 dX3_isUnder_13 ?_
        refine Zw_bipush (v := 6) dX3_isUnder_14 (by decide) ?_
        refine Zw_N2 (k := 0) lm_X3_24 dX3_isUnder_16 (by decide) (Nat.le_of_ble_eq_true rfl) ?_
        refine s_within 6 (by rfl) (fun a1 => absurd a1 (by unfold vp_in; decide)) (fun _ => ?_)
        refine Zw_if_eq 41 dX3_isUnder_19 (by decide) (fun _ => ?_) (fun c => absurd c (by decide))
        refine Zw_iconst (v := 0) dX3_isUnder_41 (by decide) ?_
        refine Zw_ireturn dX3_isUnder_42 (by first | rfl | assumption) ?_
        exact h0 (by simp [q_under, Ne.symm c24, Ne.symm c24_2])
      · refine Zw_iconst (v := 1) dX3_isUnder_27 (by decide) ?_
        refine Zw_ireturn dX3_isUnder_28 (by first | rfl | assumption) ?_
        exact h1 (by subst c24_2; decide)
    · refine Zw_iconst (v := 1) dX3_isUnder_27 (by decide) ?_
      refine Zw_ireturn dX3_isUnder_28 (by first | rfl | assumption) ?_
      exact h1 (by subst c24; decide)
  | 2, _, hkd =>
    refine Zw_aload_0 dX3_isUnder_0 ?_
    refine Zw_geti lf_X3_9 dX3_isUnder_1 (by first | decide | assumption | omega) (by first | rfl | assumption) (by rfl) ?_
    rw [hkd]
    show Zw _ _ _ _ _ _ _ _ (Value.int 2 :: _) _ _
    refine Zw_istore_2 dX3_isUnder_4 rfl ?_
    refine Zw_iconst (v := 0) dX3_isUnder_5 (by decide) ?_
    refine Zw_istore_3 dX3_isUnder_6 rfl ?_
    refine Zw_iload_3 dX3_isUnder_7 ?_
    refine Zw_bipush (v := 6) dX3_isUnder_8 (by decide) ?_
    refine Zw_icmp_ge 41 dX3_isUnder_10 (by decide) (fun c => absurd c (by decide)) (fun _ => ?_)
    refine Zw_iload_2 dX3_isUnder_13 ?_
    refine Zw_bipush (v := 6) dX3_isUnder_14 (by decide) ?_
    refine Zw_N2 (k := 0) lm_X3_24 dX3_isUnder_16 (by decide) (Nat.le_of_ble_eq_true rfl) ?_
    refine s_within 6 (by rfl) (fun _ => ?_) (fun a0 => absurd (by unfold vp_in; decide) a0)
    refine Zw_if_eq 41 dX3_isUnder_19 (by decide) (fun c => absurd c (by decide)) (fun _ => ?_)
    refine Zw_iload_2 dX3_isUnder_22 ?_
    refine Zw_iload_1 dX3_isUnder_23 ?_
    refine Zw_icmp_ne 29 dX3_isUnder_24 (by decide) (fun c24 => ?_) (fun c24 => ?_)
    · refine Zw_getsN (t := 1) (by decide) (by decide +kernel) dX3_isUnder_29 ?_
      refine Zw_iload_2 dX3_isUnder_32 ?_
      refine Zw_tald (t := 1) (x := 0) dX3_isUnder_33 (by decide) (by first | assumption | exact vp_in_nI (by omega) (by omega) | exact vp_in_nI (by simp; omega) (by decide) | (unfold vp_in; decide)) (by decide) ?_
      refine Zw_istore_2 dX3_isUnder_34 rfl ?_
      refine Zw_iinc_3 (y := 1) dX3_isUnder_35 rfl (by decide) ?_
      refine Zw_goto 7 dX3_isUnder_38 (by decide) ?_
      refine Zw_iload_3 dX3_isUnder_7 ?_
      refine Zw_bipush (v := 6) dX3_isUnder_8 (by decide) ?_
      refine Zw_icmp_ge 41 dX3_isUnder_10 (by decide) (fun c => absurd c (by decide)) (fun _ => ?_)
      refine Zw_iload_2 dX3_isUnder_13 ?_
      refine Zw_bipush (v := 6) dX3_isUnder_14 (by decide) ?_
      refine Zw_N2 (k := 0) lm_X3_24 dX3_isUnder_16 (by decide) (Nat.le_of_ble_eq_true rfl) ?_
      refine s_within 6 (by rfl) (fun _ => ?_) (fun a0 => absurd (by unfold vp_in; decide) a0)
      refine Zw_if_eq 41 dX3_isUnder_19 (by decide) (fun c => absurd c (by decide)) (fun _ => ?_)
      refine Zw_iload_2 dX3_isUnder_22 ?_
      refine Zw_iload_1 dX3_isUnder_23 ?_
      refine Zw_icmp_ne 29 dX3_isUnder_24 (by decide) (fun c24_2 => ?_) (fun c24_2 => ?_)
      · refine Zw_getsN (t := 1) (by decide) (by decide +kernel) dX3_isUnder_29 ?_
        refine Zw_iload_2 dX3_isUnder_32 ?_
        refine Zw_tald (t := 1) (x := (-1)) dX3_isUnder_33 (by decide) (by first | assumption | exact vp_in_nI (by omega) (by omega) | exact vp_in_nI (by simp; omega) (by decide) | (unfold vp_in; decide)) (by decide) ?_
        refine Zw_istore_2 dX3_isUnder_34 rfl ?_
        refine Zw_iinc_3 (y := 2) dX3_isUnder_35 rfl (by decide) ?_
        refine Zw_goto 7 dX3_isUnder_38 (by decide) ?_
        refine Zw_iload_3 dX3_isUnder_7 ?_
        refine Zw_bipush (v := 6) dX3_isUnder_8 (by decide) ?_
        refine Zw_icmp_ge 41 dX3_isUnder_10 (by decide) (fun c => absurd c (by decide)) (fun _ => ?_)
        refine Zw_iload_2 dX3_isUnder_13 ?_
        refine Zw_bipush (v := 6) dX3_isUnder_14 (by decide) ?_
        refine Zw_N2 (k := 0) lm_X3_24 dX3_isUnder_16 (by decide) (Nat.le_of_ble_eq_true rfl) ?_
        refine s_within 6 (by rfl) (fun a1 => absurd a1 (by unfold vp_in; decide)) (fun _ => ?_)
        refine Zw_if_eq 41 dX3_isUnder_19 (by decide) (fun _ => ?_) (fun c => absurd c (by decide))
        refine Zw_iconst (v := 0) dX3_isUnder_41 (by decide) ?_
        refine Zw_ireturn dX3_isUnder_42 (by first | rfl | assumption) ?_
        exact h0 (by simp [q_under, Ne.symm c24, Ne.symm c24_2])
      · refine Zw_iconst (v := 1) dX3_isUnder_27 (by decide) ?_
        refine Zw_ireturn dX3_isUnder_28 (by first | rfl | assumption) ?_
        exact h1 (by subst c24_2; decide)
    · refine Zw_iconst (v := 1) dX3_isUnder_27 (by decide) ?_
      refine Zw_ireturn dX3_isUnder_28 (by first | rfl | assumption) ?_
      exact h1 (by subst c24; decide)
  | 3, _, hkd =>
    refine Zw_aload_0 dX3_isUnder_0 ?_
    refine Zw_geti lf_X3_9 dX3_isUnder_1 (by first | decide | assumption | omega) (by first | rfl | assumption) (by rfl) ?_
    rw [hkd]
    show Zw _ _ _ _ _ _ _ _ (Value.int 3 :: _) _ _
    refine Zw_istore_2 dX3_isUnder_4 rfl ?_
    refine Zw_iconst (v := 0) dX3_isUnder_5 (by decide) ?_
    refine Zw_istore_3 dX3_isUnder_6 rfl ?_
    refine Zw_iload_3 dX3_isUnder_7 ?_
    refine Zw_bipush (v := 6) dX3_isUnder_8 (by decide) ?_
    refine Zw_icmp_ge 41 dX3_isUnder_10 (by decide) (fun c => absurd c (by decide)) (fun _ => ?_)
    refine Zw_iload_2 dX3_isUnder_13 ?_
    refine Zw_bipush (v := 6) dX3_isUnder_14 (by decide) ?_
    refine Zw_N2 (k := 0) lm_X3_24 dX3_isUnder_16 (by decide) (Nat.le_of_ble_eq_true rfl) ?_
    refine s_within 6 (by rfl) (fun _ => ?_) (fun a0 => absurd (by unfold vp_in; decide) a0)
    refine Zw_if_eq 41 dX3_isUnder_19 (by decide) (fun c => absurd c (by decide)) (fun _ => ?_)
    refine Zw_iload_2 dX3_isUnder_22 ?_
    refine Zw_iload_1 dX3_isUnder_23 ?_
    refine Zw_icmp_ne 29 dX3_isUnder_24 (by decide) (fun c24 => ?_) (fun c24 => ?_)
    · refine Zw_getsN (t := 1) (by decide) (by decide +kernel) dX3_isUnder_29 ?_
      refine Zw_iload_2 dX3_isUnder_32 ?_
      refine Zw_tald (t := 1) (x := 1) dX3_isUnder_33 (by decide) (by first | assumption | exact vp_in_nI (by omega) (by omega) | exact vp_in_nI (by simp; omega) (by decide) | (unfold vp_in; decide)) (by decide) ?_
      refine Zw_istore_2 dX3_isUnder_34 rfl ?_
      refine Zw_iinc_3 (y := 1) dX3_isUnder_35 rfl (by decide) ?_
      refine Zw_goto 7 dX3_isUnder_38 (by decide) ?_
      refine Zw_iload_3 dX3_isUnder_7 ?_
      refine Zw_bipush (v := 6) dX3_isUnder_8 (by decide) ?_
      refine Zw_icmp_ge 41 dX3_isUnder_10 (by decide) (fun c => absurd c (by decide)) (fun _ => ?_)
      refine Zw_iload_2 dX3_isUnder_13 ?_
      refine Zw_bipush (v := 6) dX3_isUnder_14 (by decide) ?_
      refine Zw_N2 (k := 0) lm_X3_24 dX3_isUnder_16 (by decide) (Nat.le_of_ble_eq_true rfl) ?_
      refine s_within 6 (by rfl) (fun _ => ?_) (fun a0 => absurd (by unfold vp_in; decide) a0)
      refine Zw_if_eq 41 dX3_isUnder_19 (by decide) (fun c => absurd c (by decide)) (fun _ => ?_)
      refine Zw_iload_2 dX3_isUnder_22 ?_
      refine Zw_iload_1 dX3_isUnder_23 ?_
      refine Zw_icmp_ne 29 dX3_isUnder_24 (by decide) (fun c24_2 => ?_) (fun c24_2 => ?_)
      · refine Zw_getsN (t := 1) (by decide) (by decide +kernel) dX3_isUnder_29 ?_
        refine Zw_iload_2 dX3_isUnder_32 ?_
        refine Zw_tald (t := 1) (x := 0) dX3_isUnder_33 (by decide) (by first | assumption | exact vp_in_nI (by omega) (by omega) | exact vp_in_nI (by simp; omega) (by decide) | (unfold vp_in; decide)) (by decide) ?_
        refine Zw_istore_2 dX3_isUnder_34 rfl ?_
        refine Zw_iinc_3 (y := 2) dX3_isUnder_35 rfl (by decide) ?_
        refine Zw_goto 7 dX3_isUnder_38 (by decide) ?_
        refine Zw_iload_3 dX3_isUnder_7 ?_
        refine Zw_bipush (v := 6) dX3_isUnder_8 (by decide) ?_
        refine Zw_icmp_ge 41 dX3_isUnder_10 (by decide) (fun c => absurd c (by decide)) (fun _ => ?_)
        refine Zw_iload_2 dX3_isUnder_13 ?_
        refine Zw_bipush (v := 6) dX3_isUnder_14 (by decide) ?_
        refine Zw_N2 (k := 0) lm_X3_24 dX3_isUnder_16 (by decide) (Nat.le_of_ble_eq_true rfl) ?_
        refine s_within 6 (by rfl) (fun _ => ?_) (fun a0 => absurd (by unfold vp_in; decide) a0)
        refine Zw_if_eq 41 dX3_isUnder_19 (by decide) (fun c => absurd c (by decide)) (fun _ => ?_)
        refine Zw_iload_2 dX3_isUnder_22 ?_
        refine Zw_iload_1 dX3_isUnder_23 ?_
        refine Zw_icmp_ne 29 dX3_isUnder_24 (by decide) (fun c24_3 => ?_) (fun c24_3 => ?_)
        · refine Zw_getsN (t := 1) (by decide) (by decide +kernel) dX3_isUnder_29 ?_
          refine Zw_iload_2 dX3_isUnder_32 ?_
          refine Zw_tald (t := 1) (x := (-1)) dX3_isUnder_33 (by decide) (by first | assumption | exact vp_in_nI (by omega) (by omega) | exact vp_in_nI (by simp; omega) (by decide) | (unfold vp_in; decide)) (by decide) ?_
          refine Zw_istore_2 dX3_isUnder_34 rfl ?_
          refine Zw_iinc_3 (y := 3) dX3_isUnder_35 rfl (by decide) ?_
          refine Zw_goto 7 dX3_isUnder_38 (by decide) ?_
          refine Zw_iload_3 dX3_isUnder_7 ?_
          refine Zw_bipush (v := 6) dX3_isUnder_8 (by decide) ?_
          refine Zw_icmp_ge 41 dX3_isUnder_10 (by decide) (fun c => absurd c (by decide)) (fun _ => ?_)
          refine Zw_iload_2 dX3_isUnder_13 ?_
          refine Zw_bipush (v := 6) dX3_isUnder_14 (by decide) ?_
          refine Zw_N2 (k := 0) lm_X3_24 dX3_isUnder_16 (by decide) (Nat.le_of_ble_eq_true rfl) ?_
          refine s_within 6 (by rfl) (fun a1 => absurd a1 (by unfold vp_in; decide)) (fun _ => ?_)
          refine Zw_if_eq 41 dX3_isUnder_19 (by decide) (fun _ => ?_) (fun c => absurd c (by decide))
          refine Zw_iconst (v := 0) dX3_isUnder_41 (by decide) ?_
          refine Zw_ireturn dX3_isUnder_42 (by first | rfl | assumption) ?_
          exact h0 (by simp [q_under, Ne.symm c24, Ne.symm c24_2, Ne.symm c24_3])
        · refine Zw_iconst (v := 1) dX3_isUnder_27 (by decide) ?_
          refine Zw_ireturn dX3_isUnder_28 (by first | rfl | assumption) ?_
          exact h1 (by subst c24_3; decide)
      · refine Zw_iconst (v := 1) dX3_isUnder_27 (by decide) ?_
        refine Zw_ireturn dX3_isUnder_28 (by first | rfl | assumption) ?_
        exact h1 (by subst c24_2; decide)
    · refine Zw_iconst (v := 1) dX3_isUnder_27 (by decide) ?_
      refine Zw_ireturn dX3_isUnder_28 (by first | rfl | assumption) ?_
      exact h1 (by subst c24; decide)
  | 4, _, hkd =>
    refine Zw_aload_0 dX3_isUnder_0 ?_
    refine Zw_geti lf_X3_9 dX3_isUnder_1 (by first | decide | assumption | omega) (by first | rfl | assumption) (by rfl) ?_
    rw [hkd]
    show Zw _ _ _ _ _ _ _ _ (Value.int 4 :: _) _ _
    refine Zw_istore_2 dX3_isUnder_4 rfl ?_
    refine Zw_iconst (v := 0) dX3_isUnder_5 (by decide) ?_
    refine Zw_istore_3 dX3_isUnder_6 rfl ?_
    refine Zw_iload_3 dX3_isUnder_7 ?_
    refine Zw_bipush (v := 6) dX3_isUnder_8 (by decide) ?_
    refine Zw_icmp_ge 41 dX3_isUnder_10 (by decide) (fun c => absurd c (by decide)) (fun _ => ?_)
    refine Zw_iload_2 dX3_isUnder_13 ?_
    refine Zw_bipush (v := 6) dX3_isUnder_14 (by decide) ?_
    refine Zw_N2 (k := 0) lm_X3_24 dX3_isUnder_16 (by decide) (Nat.le_of_ble_eq_true rfl) ?_
    refine s_within 6 (by rfl) (fun _ => ?_) (fun a0 => absurd (by unfold vp_in; decide) a0)
    refine Zw_if_eq 41 dX3_isUnder_19 (by decide) (fun c => absurd c (by decide)) (fun _ => ?_)
    refine Zw_iload_2 dX3_isUnder_22 ?_
    refine Zw_iload_1 dX3_isUnder_23 ?_
    refine Zw_icmp_ne 29 dX3_isUnder_24 (by decide) (fun c24 => ?_) (fun c24 => ?_)
    · refine Zw_getsN (t := 1) (by decide) (by decide +kernel) dX3_isUnder_29 ?_
      refine Zw_iload_2 dX3_isUnder_32 ?_
      refine Zw_tald (t := 1) (x := 2) dX3_isUnder_33 (by decide) (by first | assumption | exact vp_in_nI (by omega) (by omega) | exact vp_in_nI (by simp; omega) (by decide) | (unfold vp_in; decide)) (by decide) ?_
      refine Zw_istore_2 dX3_isUnder_34 rfl ?_
      refine Zw_iinc_3 (y := 1) dX3_isUnder_35 rfl (by decide) ?_
      refine Zw_goto 7 dX3_isUnder_38 (by decide) ?_
      refine Zw_iload_3 dX3_isUnder_7 ?_
      refine Zw_bipush (v := 6) dX3_isUnder_8 (by decide) ?_
      refine Zw_icmp_ge 41 dX3_isUnder_10 (by decide) (fun c => absurd c (by decide)) (fun _ => ?_)
      refine Zw_iload_2 dX3_isUnder_13 ?_
      refine Zw_bipush (v := 6) dX3_isUnder_14 (by decide) ?_
      refine Zw_N2 (k := 0) lm_X3_24 dX3_isUnder_16 (by decide) (Nat.le_of_ble_eq_true rfl) ?_
      refine s_within 6 (by rfl) (fun _ => ?_) (fun a0 => absurd (by unfold vp_in; decide) a0)
      refine Zw_if_eq 41 dX3_isUnder_19 (by decide) (fun c => absurd c (by decide)) (fun _ => ?_)
      refine Zw_iload_2 dX3_isUnder_22 ?_
      refine Zw_iload_1 dX3_isUnder_23 ?_
      refine Zw_icmp_ne 29 dX3_isUnder_24 (by decide) (fun c24_2 => ?_) (fun c24_2 => ?_)
      · refine Zw_getsN (t := 1) (by decide) (by decide +kernel) dX3_isUnder_29 ?_
        refine Zw_iload_2 dX3_isUnder_32 ?_
        refine Zw_tald (t := 1) (x := 0) dX3_isUnder_33 (by decide) (by first | assumption | exact vp_in_nI (by omega) (by omega) | exact vp_in_nI (by simp; omega) (by decide) | (unfold vp_in; decide)) (by decide) ?_
        refine Zw_istore_2 dX3_isUnder_34 rfl ?_
        refine Zw_iinc_3 (y := 2) dX3_isUnder_35 rfl (by decide) ?_
        refine Zw_goto 7 dX3_isUnder_38 (by decide) ?_
        refine Zw_iload_3 dX3_isUnder_7 ?_
        refine Zw_bipush (v := 6) dX3_isUnder_8 (by decide) ?_
        refine Zw_icmp_ge 41 dX3_isUnder_10 (by decide) (fun c => absurd c (by decide)) (fun _ => ?_)
        refine Zw_iload_2 dX3_isUnder_13 ?_
        refine Zw_bipush (v := 6) dX3_isUnder_14 (by decide) ?_
        refine Zw_N2 (k := 0) lm_X3_24 dX3_isUnder_16 (by decide) (Nat.le_of_ble_eq_true rfl) ?_
        refine s_within 6 (by rfl) (fun _ => ?_) (fun a0 => absurd (by unfold vp_in; decide) a0)
        refine Zw_if_eq 41 dX3_isUnder_19 (by decide) (fun c => absurd c (by decide)) (fun _ => ?_)
        refine Zw_iload_2 dX3_isUnder_22 ?_
        refine Zw_iload_1 dX3_isUnder_23 ?_
        refine Zw_icmp_ne 29 dX3_isUnder_24 (by decide) (fun c24_3 => ?_) (fun c24_3 => ?_)
        · refine Zw_getsN (t := 1) (by decide) (by decide +kernel) dX3_isUnder_29 ?_
          refine Zw_iload_2 dX3_isUnder_32 ?_
          refine Zw_tald (t := 1) (x := (-1)) dX3_isUnder_33 (by decide) (by first | assumption | exact vp_in_nI (by omega) (by omega) | exact vp_in_nI (by simp; omega) (by decide) | (unfold vp_in; decide)) (by decide) ?_
          refine Zw_istore_2 dX3_isUnder_34 rfl ?_
          refine Zw_iinc_3 (y := 3) dX3_isUnder_35 rfl (by decide) ?_
          refine Zw_goto 7 dX3_isUnder_38 (by decide) ?_
          refine Zw_iload_3 dX3_isUnder_7 ?_
          refine Zw_bipush (v := 6) dX3_isUnder_8 (by decide) ?_
          refine Zw_icmp_ge 41 dX3_isUnder_10 (by decide) (fun c => absurd c (by decide)) (fun _ => ?_)
          refine Zw_iload_2 dX3_isUnder_13 ?_
          refine Zw_bipush (v := 6) dX3_isUnder_14 (by decide) ?_
          refine Zw_N2 (k := 0) lm_X3_24 dX3_isUnder_16 (by decide) (Nat.le_of_ble_eq_true rfl) ?_
          refine s_within 6 (by rfl) (fun a1 => absurd a1 (by unfold vp_in; decide)) (fun _ => ?_)
          refine Zw_if_eq 41 dX3_isUnder_19 (by decide) (fun _ => ?_) (fun c => absurd c (by decide))
          refine Zw_iconst (v := 0) dX3_isUnder_41 (by decide) ?_
          refine Zw_ireturn dX3_isUnder_42 (by first | rfl | assumption) ?_
          exact h0 (by simp [q_under, Ne.symm c24, Ne.symm c24_2, Ne.symm c24_3])
        · refine Zw_iconst (v := 1) dX3_isUnder_27 (by decide) ?_
          refine Zw_ireturn dX3_isUnder_28 (by first | rfl | assumption) ?_
          exact h1 (by subst c24_3; decide)
      · refine Zw_iconst (v := 1) dX3_isUnder_27 (by decide) ?_
        refine Zw_ireturn dX3_isUnder_28 (by first | rfl | assumption) ?_
        exact h1 (by subst c24_2; decide)
    · refine Zw_iconst (v := 1) dX3_isUnder_27 (by decide) ?_
      refine Zw_ireturn dX3_isUnder_28 (by first | rfl | assumption) ?_
      exact h1 (by subst c24; decide)
  | 5, _, hkd =>
    refine Zw_aload_0 dX3_isUnder_0 ?_
    refine Zw_geti lf_X3_9 dX3_isUnder_1 (by first | decide | assumption | omega) (by first | rfl | assumption) (by rfl) ?_
    rw [hkd]
    show Zw _ _ _ _ _ _ _ _ (Value.int 5 :: _) _ _
    refine Zw_istore_2 dX3_isUnder_4 rfl ?_
    refine Zw_iconst (v := 0) dX3_isUnder_5 (by decide) ?_
    refine Zw_istore_3 dX3_isUnder_6 rfl ?_
    refine Zw_iload_3 dX3_isUnder_7 ?_
    refine Zw_bipush (v := 6) dX3_isUnder_8 (by decide) ?_
    refine Zw_icmp_ge 41 dX3_isUnder_10 (by decide) (fun c => absurd c (by decide)) (fun _ => ?_)
    refine Zw_iload_2 dX3_isUnder_13 ?_
    refine Zw_bipush (v := 6) dX3_isUnder_14 (by decide) ?_
    refine Zw_N2 (k := 0) lm_X3_24 dX3_isUnder_16 (by decide) (Nat.le_of_ble_eq_true rfl) ?_
    refine s_within 6 (by rfl) (fun _ => ?_) (fun a0 => absurd (by unfold vp_in; decide) a0)
    refine Zw_if_eq 41 dX3_isUnder_19 (by decide) (fun c => absurd c (by decide)) (fun _ => ?_)
    refine Zw_iload_2 dX3_isUnder_22 ?_
    refine Zw_iload_1 dX3_isUnder_23 ?_
    refine Zw_icmp_ne 29 dX3_isUnder_24 (by decide) (fun c24 => ?_) (fun c24 => ?_)
    · refine Zw_getsN (t := 1) (by decide) (by decide +kernel) dX3_isUnder_29 ?_
      refine Zw_iload_2 dX3_isUnder_32 ?_
      refine Zw_tald (t := 1) (x := 0) dX3_isUnder_33 (by decide) (by first | assumption | exact vp_in_nI (by omega) (by omega) | exact vp_in_nI (by simp; omega) (by decide) | (unfold vp_in; decide)) (by decide) ?_
      refine Zw_istore_2 dX3_isUnder_34 rfl ?_
      refine Zw_iinc_3 (y := 1) dX3_isUnder_35 rfl (by decide) ?_
      refine Zw_goto 7 dX3_isUnder_38 (by decide) ?_
      refine Zw_iload_3 dX3_isUnder_7 ?_
      refine Zw_bipush (v := 6) dX3_isUnder_8 (by decide) ?_
      refine Zw_icmp_ge 41 dX3_isUnder_10 (by decide) (fun c => absurd c (by decide)) (fun _ => ?_)
      refine Zw_iload_2 dX3_isUnder_13 ?_
      refine Zw_bipush (v := 6) dX3_isUnder_14 (by decide) ?_
      refine Zw_N2 (k := 0) lm_X3_24 dX3_isUnder_16 (by decide) (Nat.le_of_ble_eq_true rfl) ?_
      refine s_within 6 (by rfl) (fun _ => ?_) (fun a0 => absurd (by unfold vp_in; decide) a0)
      refine Zw_if_eq 41 dX3_isUnder_19 (by decide) (fun c => absurd c (by decide)) (fun _ => ?_)
      refine Zw_iload_2 dX3_isUnder_22 ?_
      refine Zw_iload_1 dX3_isUnder_23 ?_
      refine Zw_icmp_ne 29 dX3_isUnder_24 (by decide) (fun c24_2 => ?_) (fun c24_2 => ?_)
      · refine Zw_getsN (t := 1) (by decide) (by decide +kernel) dX3_isUnder_29 ?_
        refine Zw_iload_2 dX3_isUnder_32 ?_
        refine Zw_tald (t := 1) (x := (-1)) dX3_isUnder_33 (by decide) (by first | assumption | exact vp_in_nI (by omega) (by omega) | exact vp_in_nI (by simp; omega) (by decide) | (unfold vp_in; decide)) (by decide) ?_
        refine Zw_istore_2 dX3_isUnder_34 rfl ?_
        refine Zw_iinc_3 (y := 2) dX3_isUnder_35 rfl (by decide) ?_
        refine Zw_goto 7 dX3_isUnder_38 (by decide) ?_
        refine Zw_iload_3 dX3_isUnder_7 ?_
        refine Zw_bipush (v := 6) dX3_isUnder_8 (by decide) ?_
        refine Zw_icmp_ge 41 dX3_isUnder_10 (by decide) (fun c => absurd c (by decide)) (fun _ => ?_)
        refine Zw_iload_2 dX3_isUnder_13 ?_
        refine Zw_bipush (v := 6) dX3_isUnder_14 (by decide) ?_
        refine Zw_N2 (k := 0) lm_X3_24 dX3_isUnder_16 (by decide) (Nat.le_of_ble_eq_true rfl) ?_
        refine s_within 6 (by rfl) (fun a1 => absurd a1 (by unfold vp_in; decide)) (fun _ => ?_)
        refine Zw_if_eq 41 dX3_isUnder_19 (by decide) (fun _ => ?_) (fun c => absurd c (by decide))
        refine Zw_iconst (v := 0) dX3_isUnder_41 (by decide) ?_
        refine Zw_ireturn dX3_isUnder_42 (by first | rfl | assumption) ?_
        exact h0 (by simp [q_under, Ne.symm c24, Ne.symm c24_2])
      · refine Zw_iconst (v := 1) dX3_isUnder_27 (by decide) ?_
        refine Zw_ireturn dX3_isUnder_28 (by first | rfl | assumption) ?_
        exact h1 (by subst c24_2; decide)
    · refine Zw_iconst (v := 1) dX3_isUnder_27 (by decide) ?_
      refine Zw_ireturn dX3_isUnder_28 (by first | rfl | assumption) ?_
      exact h1 (by subst c24; decide)
  | n + 6, hc, _ => exact absurd hc (by omega)
theorem zfin_g : ∀ {n : Nat}, n < 5 → ([4, 5, 6, 7, 8] : List Nat)[n]? = some (4 + n)
  | 0, _ => rfl | 1, _ => rfl | 2, _ => rfl | 3, _ => rfl | 4, _ => rfl | n + 5, h => absurd h (by omega)
theorem zkep_g : ∀ {n : Nat}, n < 5 → ([12, 13, 14, 15, 16] : List Nat)[n]? = some (12 + n)
  | 0, _ => rfl | 1, _ => rfl | 2, _ => rfl | 3, _ => rfl | 4, _ => rfl | n + 5, h => absurd h (by omega)
theorem zfin_q : ∀ {n : Nat}, n < 5 → ([4, 5, 6, 7, 8] : List Nat)[(nI n).toNatClampNeg]? = some (4 + n)
  | 0, _ => rfl | 1, _ => rfl | 2, _ => rfl | 3, _ => rfl | 4, _ => rfl | n + 5, h => absurd h (by omega)
theorem zfin_s : ∀ {n : Nat}, n < 5 → zSh (4 + n) = .inl (3, [0, 0, 0, 0])
  | 0, _ => rfl | 1, _ => rfl | 2, _ => rfl | 3, _ => rfl | 4, _ => rfl | n + 5, h => absurd h (by omega)
theorem zkep_q : ∀ {n : Nat}, n < 5 → ([12, 13, 14, 15, 16] : List Nat)[(nI n).toNatClampNeg]? = some (12 + n)
  | 0, _ => rfl | 1, _ => rfl | 2, _ => rfl | 3, _ => rfl | 4, _ => rfl | n + 5, h => absurd h (by omega)
theorem zkep_s : ∀ {n : Nat}, n < 5 → zSh (12 + n) = .inl (3, [0, 0, 0, 0])
  | 0, _ => rfl | 1, _ => rfl | 2, _ => rfl | 3, _ => rfl | 4, _ => rfl | n + 5, h => absurd h (by omega)
set_option maxRecDepth 20000 in
theorem s_x3_takeFrom {k q : Nat} {Q : zQ} {μ : zMu} {τ : Int64} (hk : k < 78) (hs : zSh k = .inl (3, [0, 0, 0, 0])) (hq : q < 78) (hs2 : zSh q = .inl (3, [0, 0, 0, 0])) (hne : q ≠ k) (h : ∀ μ2, zOff [k] μ μ2 → (∀ j, j < 4 → μ2 k j = μ q j) → Q none μ2 τ) : Zc 0 yX3_takeFrom cX3_takeFrom 2 none [.ref k, .ref q] μ τ Q := by
  refine Zc.mk 0 [.ref k, .ref q] rfl (by decide) (Nat.le_of_ble_eq_true rfl) ?_
  refine Zw_aload_0 dX3_takeFrom_0 ?_
  refine Zw_aload_1 dX3_takeFrom_1 ?_
  refine Zw_geti lf_X3_9 dX3_takeFrom_2 (by first | decide | assumption | omega) (by first | rfl | assumption) (by rfl) ?_
  refine Zw_put lp_X3_9 dX3_takeFrom_5 (by first | decide | assumption | omega) (by first | rfl | assumption) (by rfl) (by first | rfl | assumption) (by first | rfl | assumption) ?_
  refine Zw_aload_0 dX3_takeFrom_8 ?_
  refine Zw_aload_1 dX3_takeFrom_9 ?_
  refine Zw_geti lf_X3_15 dX3_takeFrom_10 (by first | decide | assumption | omega) (by first | rfl | assumption) (by rfl) ?_
  refine Zw_put lp_X3_15 dX3_takeFrom_13 (by first | decide | assumption | omega) (by first | rfl | assumption) (by rfl) (by first | rfl | assumption) (by first | rfl | assumption) ?_
  refine Zw_aload_0 dX3_takeFrom_16 ?_
  refine Zw_aload_1 dX3_takeFrom_17 ?_
  refine Zw_geti lf_X3_18 dX3_takeFrom_18 (by first | decide | assumption | omega) (by first | rfl | assumption) (by rfl) ?_
  refine Zw_put lp_X3_18 dX3_takeFrom_21 (by first | decide | assumption | omega) (by first | rfl | assumption) (by rfl) (by first | rfl | assumption) (by first | rfl | assumption) ?_
  refine Zw_aload_0 dX3_takeFrom_24 ?_
  refine Zw_aload_1 dX3_takeFrom_25 ?_
  refine Zw_geti lf_X3_21 dX3_takeFrom_26 (by first | decide | assumption | omega) (by first | rfl | assumption) (by rfl) ?_
  refine Zw_put lp_X3_21 dX3_takeFrom_29 (by first | decide | assumption | omega) (by first | rfl | assumption) (by rfl) (by first | rfl | assumption) (by first | rfl | assumption) ?_
  refine Zw_return dX3_takeFrom_32 ?_
  refine h _ (zOff.up (zOff.up (zOff.up (zOff.up zOff.rf (by simp)) (by simp)) (by simp)) (by simp)) (fun j hj => ?_)
  simp only [zup_at]
  match j, hj with
  | 0, _ => simp
  | 1, _ => simp [hne]
  | 2, _ => simp [hne]
  | 3, _ => simp [hne]
  | n + 4, hj => exact absurd hj (by omega)
set_option maxRecDepth 20000 in
theorem s_addFinder {kd nu on : Int32} {Q : zQ} {μ : zMu} {τ : Int64} (n : Nat) (hn5 : n ≤ 5) (hn : μ 1 2 = nI n) (hbad : ¬ (vp_in kd 6 ∧ vp_in nu 10 ∧ vp_in on 8) → Q (some (.int (-2))) μ τ) (hfull : (vp_in kd 6 ∧ vp_in nu 10 ∧ vp_in on 8) → n = 5 → Q (some (.int (-4))) μ τ) (hok : (vp_in kd 6 ∧ vp_in nu 10 ∧ vp_in on 8) → n < 5 → Q (some (.int (nI n))) (zup (zup (zup (zup (zup μ (4 + n) 0 kd) (4 + n) 1 nu) (4 + n) 2 on) (4 + n) 3 0) 1 2 (nI (n + 1))) τ) : Zc 1 yX2_addFinder cX2_addFinder 5 (some .int) [.ref 1, .int kd, .int nu, .int on] μ τ Q := by
  refine Zc.mk 1 [.ref 1, .int kd, .int nu, .int on, .null] rfl (by decide) (Nat.le_of_ble_eq_true rfl) ?_
  refine Zw_iload_1 dX2_addFinder_0 ?_
  refine Zw_bipush (v := 6) dX2_addFinder_1 (by decide) ?_
  refine Zw_N2 (k := 0) lm_X2_51 dX2_addFinder_3 (by decide) (Nat.le_of_ble_eq_true rfl) ?_
  refine s_within 6 (by rfl) (fun b1 => ?_) (fun b1 => ?_)
  · refine Zw_if_eq 27 dX2_addFinder_6 (by decide) (fun c => absurd c (by decide)) (fun _ => ?_)
    refine Zw_iload_2 dX2_addFinder_9 ?_
    refine Zw_bipush (v := 10) dX2_addFinder_10 (by decide) ?_
    refine Zw_N2 (k := 0) lm_X2_51 dX2_addFinder_12 (by decide) (Nat.le_of_ble_eq_true rfl) ?_
    refine s_within 10 (by rfl) (fun b2 => ?_) (fun b2 => ?_)
    · refine Zw_if_eq 27 dX2_addFinder_15 (by decide) (fun c => absurd c (by decide)) (fun _ => ?_)
      refine Zw_iload_3 dX2_addFinder_18 ?_
      refine Zw_bipush (v := 8) dX2_addFinder_19 (by decide) ?_
      refine Zw_N2 (k := 0) lm_X2_51 dX2_addFinder_21 (by decide) (Nat.le_of_ble_eq_true rfl) ?_
      refine s_within 8 (by rfl) (fun b3 => ?_) (fun b3 => ?_)
      · refine Zw_if_ne 30 dX2_addFinder_24 (by decide) (fun _ => ?_) (fun c => absurd c (by decide))
        refine Zw_aload_0 dX2_addFinder_30 ?_
        refine Zw_getv (nI n) lf_X2_36 dX2_addFinder_31 (by first | decide | assumption | omega) (by first | rfl | assumption) (by rfl) hn ?_
        refine Zw_iconst (v := 5) dX2_addFinder_34 (by decide) ?_
        refine Zw_nicmp_lt (n) (5) 41 dX2_addFinder_35 (by decide) rfl rfl (by omega) (by omega) (fun c35 => ?_) (fun c35 => ?_)
        · refine Zw_aload_0 dX2_addFinder_41 ?_
          refine Zw_getr 3 lf_X2_17 dX2_addFinder_42 (by first | decide | assumption | omega) (by first | rfl | assumption) (by rfl) ?_
          refine Zw_aload_0 dX2_addFinder_45 ?_
          refine Zw_getv (nI n) lf_X2_36 dX2_addFinder_46 (by first | decide | assumption | omega) (by first | rfl | assumption) (by rfl) hn ?_
          refine Zw_aaldn (n) (4 + n) dX2_addFinder_49 (by first | decide | assumption | omega) (by first | rfl | assumption) rfl (by omega) (zfin_g c35) (by decide) ?_
          have hsf := zfin_s c35
          refine Zw_astore_4 dX2_addFinder_50 rfl ?_
          refine Zw_aload_4 dX2_addFinder_52 ?_
          refine Zw_iload_1 dX2_addFinder_54 ?_
          refine Zw_put lp_X2_55 dX2_addFinder_55 (by first | decide | assumption | omega) (by first | rfl | assumption) (by rfl) (by first | rfl | assumption) (by first | rfl | assumption) ?_
          refine Zw_aload_4 dX2_addFinder_58 ?_
          refine Zw_iload_2 dX2_addFinder_60 ?_
          refine Zw_put lp_X2_58 dX2_addFinder_61 (by first | decide | assumption | omega) (by first | rfl | assumption) (by rfl) (by first | rfl | assumption) (by first | rfl | assumption) ?_
          refine Zw_aload_4 dX2_addFinder_64 ?_
          refine Zw_iload_3 dX2_addFinder_66 ?_
          refine Zw_put lp_X2_61 dX2_addFinder_67 (by first | decide | assumption | omega) (by first | rfl | assumption) (by rfl) (by first | rfl | assumption) (by first | rfl | assumption) ?_
          refine Zw_aload_4 dX2_addFinder_70 ?_
          refine Zw_iconst (v := 0) dX2_addFinder_72 (by decide) ?_
          refine Zw_put lp_X2_64 dX2_addFinder_73 (by first | decide | assumption | omega) (by first | rfl | assumption) (by rfl) (by first | rfl | assumption) (by first | rfl | assumption) ?_
          refine Zw_aload_0 dX2_addFinder_76 ?_
          refine Zw_dup dX2_addFinder_77 rfl ?_
          refine Zw_getv (nI n) lf_X2_36 dX2_addFinder_78 (by first | decide | assumption | omega) (by first | rfl | assumption) (by rfl) (by simp [zup_at, show ¬ (1 = 4 + n) by omega, hn]) ?_
          refine Zw_iconst (v := 1) dX2_addFinder_81 (by decide) ?_
          refine Zw_nadd (n) (1) dX2_addFinder_82 rfl rfl ?_
          refine Zw_put lp_X2_36 dX2_addFinder_83 (by first | decide | assumption | omega) (by first | rfl | assumption) (by rfl) (by first | rfl | assumption) (by first | rfl | assumption) ?_
          refine Zw_aload_0 dX2_addFinder_86 ?_
          refine Zw_getv (nI (n + 1)) lf_X2_36 dX2_addFinder_87 (by first | decide | assumption | omega) (by first | rfl | assumption) (by rfl) (by simp [zup_at]) ?_
          refine Zw_iconst (v := 1) dX2_addFinder_90 (by decide) ?_
          refine Zw_isub dX2_addFinder_91 ?_
          refine Zw_ireturn dX2_addFinder_92 (by first | rfl | assumption) ?_
          rw [show nI (n + 1) - 1 = nI n from nI_pred n]
          exact hok ⟨b1, b2, b3⟩ c35
        · refine Zw_bipush (v := (-4)) dX2_addFinder_38 (by decide) ?_
          refine Zw_ireturn dX2_addFinder_40 (by first | rfl | assumption) ?_
          exact hfull ⟨b1, b2, b3⟩ (by omega)
      · refine Zw_if_ne 30 dX2_addFinder_24 (by decide) (fun c => absurd c (by decide)) (fun _ => ?_)
        refine Zw_bipush (v := (-2)) dX2_addFinder_27 (by decide) ?_
        refine Zw_ireturn dX2_addFinder_29 (by first | rfl | assumption) ?_
        exact hbad (fun e => by first | exact b1 e.1 | exact b2 e.2.1 | exact b3 e.2.2)
    · refine Zw_if_eq 27 dX2_addFinder_15 (by decide) (fun _ => ?_) (fun c => absurd c (by decide))
      refine Zw_bipush (v := (-2)) dX2_addFinder_27 (by decide) ?_
      refine Zw_ireturn dX2_addFinder_29 (by first | rfl | assumption) ?_
      exact hbad (fun e => by first | exact b1 e.1 | exact b2 e.2.1 | exact b3 e.2.2)
  · refine Zw_if_eq 27 dX2_addFinder_6 (by decide) (fun _ => ?_) (fun c => absurd c (by decide))
    refine Zw_bipush (v := (-2)) dX2_addFinder_27 (by decide) ?_
    refine Zw_ireturn dX2_addFinder_29 (by first | rfl | assumption) ?_
    exact hbad (fun e => by first | exact b1 e.1 | exact b2 e.2.1 | exact b3 e.2.2)
set_option maxRecDepth 20000 in
theorem s_putLane1 {a b : Nat} {Q : zQ} {μ : zMu} {τ : Int64} (ha : a < 8) (hb : b < 8) (hab : b ≠ a) (h : Q none (zup (zup μ 2 a (μ 2 a ||| (1 <<< (nI b &&& 31)))) 2 b (μ 2 b ||| (1 <<< (nI a &&& 31)))) τ) : Zc 0 yX2_putLane cX2_putLane 4 none [.ref 1, .int (nI a), .int (nI b), .int 1] μ τ Q := by
  refine Zc.mk 0 [.ref 1, .int (nI a), .int (nI b), .int 1] rfl (by decide) (Nat.le_of_ble_eq_true rfl) ?_
  refine Zw_iload_3 dX2_putLane_0 ?_
  refine Zw_if_eq 31 dX2_putLane_1 (by decide) (fun c => absurd c (by decide)) (fun _ => ?_)
  refine Zw_aload_0 dX2_putLane_4 ?_
  refine Zw_getr 2 lf_X2_9 dX2_putLane_5 (by first | decide | assumption | omega) (by first | rfl | assumption) (by rfl) ?_
  refine Zw_iload_1 dX2_putLane_8 ?_
  refine Zw_dup2 dX2_putLane_9 rfl rfl ?_
  refine Zw_ialdn (a) dX2_putLane_10 (by first | decide | assumption | omega) (by first | rfl | assumption) rfl (by omega) (by decide) ?_
  refine Zw_iconst (v := 1) dX2_putLane_11 (by decide) ?_
  refine Zw_iload_2 dX2_putLane_12 ?_
  refine Zw_ishl dX2_putLane_13 ?_
  refine Zw_ior dX2_putLane_14 ?_
  refine Zw_iastn (a) dX2_putLane_15 (by first | decide | assumption | omega) (by first | rfl | assumption) rfl (by omega) (by decide) ?_
  refine Zw_aload_0 dX2_putLane_16 ?_
  refine Zw_getr 2 lf_X2_9 dX2_putLane_17 (by first | decide | assumption | omega) (by first | rfl | assumption) (by rfl) ?_
  refine Zw_iload_2 dX2_putLane_20 ?_
  refine Zw_dup2 dX2_putLane_21 rfl rfl ?_
  refine Zw_ialdnv (b) (μ 2 b) dX2_putLane_22 (by first | decide | assumption | omega) (by first | rfl | assumption) rfl (by omega) (by decide) (by simp [zup_at, hab]) ?_
  refine Zw_iconst (v := 1) dX2_putLane_23 (by decide) ?_
  refine Zw_iload_1 dX2_putLane_24 ?_
  refine Zw_ishl dX2_putLane_25 ?_
  refine Zw_ior dX2_putLane_26 ?_
  refine Zw_iastn (b) dX2_putLane_27 (by first | decide | assumption | omega) (by first | rfl | assumption) rfl (by omega) (by decide) ?_
  refine Zw_goto 59 dX2_putLane_28 (by decide) ?_
  refine Zw_return dX2_putLane_59 ?_
  exact h
set_option maxRecDepth 20000 in
theorem s_putLane0 {a b : Nat} {Q : zQ} {μ : zMu} {τ : Int64} (ha : a < 8) (hb : b < 8) (hab : b ≠ a) (h : Q none (zup (zup μ 2 a (μ 2 a &&& ((1 <<< (nI b &&& 31)) ^^^ (-1)))) 2 b (μ 2 b &&& ((1 <<< (nI a &&& 31)) ^^^ (-1)))) τ) : Zc 0 yX2_putLane cX2_putLane 4 none [.ref 1, .int (nI a), .int (nI b), .int 0] μ τ Q := by
  refine Zc.mk 0 [.ref 1, .int (nI a), .int (nI b), .int 0] rfl (by decide) (Nat.le_of_ble_eq_true rfl) ?_
  refine Zw_iload_3 dX2_putLane_0 ?_
  refine Zw_if_eq 31 dX2_putLane_1 (by decide) (fun _ => ?_) (fun c => absurd c (by decide))
  refine Zw_aload_0 dX2_putLane_31 ?_
  refine Zw_getr 2 lf_X2_9 dX2_putLane_32 (by first | decide | assumption | omega) (by first | rfl | assumption) (by rfl) ?_
  refine Zw_iload_1 dX2_putLane_35 ?_
  refine Zw_dup2 dX2_putLane_36 rfl rfl ?_
  refine Zw_ialdn (a) dX2_putLane_37 (by first | decide | assumption | omega) (by first | rfl | assumption) rfl (by omega) (by decide) ?_
  refine Zw_iconst (v := 1) dX2_putLane_38 (by decide) ?_
  refine Zw_iload_2 dX2_putLane_39 ?_
  refine Zw_ishl dX2_putLane_40 ?_
  refine Zw_iconst (v := (-1)) dX2_putLane_41 (by decide) ?_
  refine Zw_ixor dX2_putLane_42 ?_
  refine Zw_iand dX2_putLane_43 ?_
  refine Zw_iastn (a) dX2_putLane_44 (by first | decide | assumption | omega) (by first | rfl | assumption) rfl (by omega) (by decide) ?_
  refine Zw_aload_0 dX2_putLane_45 ?_
  refine Zw_getr 2 lf_X2_9 dX2_putLane_46 (by first | decide | assumption | omega) (by first | rfl | assumption) (by rfl) ?_
  refine Zw_iload_2 dX2_putLane_49 ?_
  refine Zw_dup2 dX2_putLane_50 rfl rfl ?_
  refine Zw_ialdnv (b) (μ 2 b) dX2_putLane_51 (by first | decide | assumption | omega) (by first | rfl | assumption) rfl (by omega) (by decide) (by simp [zup_at, hab]) ?_
  refine Zw_iconst (v := 1) dX2_putLane_52 (by decide) ?_
  refine Zw_iload_1 dX2_putLane_53 ?_
  refine Zw_ishl dX2_putLane_54 ?_
  refine Zw_iconst (v := (-1)) dX2_putLane_55 (by decide) ?_
  refine Zw_ixor dX2_putLane_56 ?_
  refine Zw_iand dX2_putLane_57 ?_
  refine Zw_iastn (b) dX2_putLane_58 (by first | decide | assumption | omega) (by first | rfl | assumption) rfl (by omega) (by decide) ?_
  refine Zw_return dX2_putLane_59 ?_
  exact h
def q_sum (f : Nat → Int32) : Nat → Int32
  | 0 => 0
  | n + 1 => q_sum f n + f n
set_option maxRecDepth 20000 in
theorem l_laneCount {Q : zQ} {μ : zMu} {τ : Int64} (h : Q (some (.int (q_sum (fun p => q_bc (μ 2 p)) 8 / 2))) μ τ) : ∀ m i, 8 - i < m → i ≤ 8 → Zw 1 RX2 cX2_laneCount 3 (some .int) Q 4 [.ref 1, .int (q_sum (fun p => q_bc (μ 2 p)) i), .int (nI i)] [] μ τ
  | 0, i, hm, _ => absurd hm (by omega)
  | m + 1, i, hm, hi => by
    refine Zw_iload_2 dX2_laneCount_4 ?_
    refine Zw_bipush (v := 8) dX2_laneCount_5 (by decide) ?_
    refine Zw_nicmp_ge (i) (8) 28 dX2_laneCount_7 (by decide) rfl rfl (by omega) (by omega) (fun c7 => ?_) (fun c7 => ?_)
    · refine Zw_iload_1 dX2_laneCount_28 ?_
      refine Zw_iconst (v := 2) dX2_laneCount_29 (by decide) ?_
      refine Zw_idiv dX2_laneCount_30 (by first | decide | assumption) ?_
      refine Zw_ireturn dX2_laneCount_31 (by first | rfl | assumption) ?_
      obtain rfl : i = 8 := by omega
      exact h
    · refine Zw_iload_1 dX2_laneCount_10 ?_
      refine Zw_aload_0 dX2_laneCount_11 ?_
      refine Zw_getr 2 lf_X2_9 dX2_laneCount_12 (by first | decide | assumption | omega) (by first | rfl | assumption) (by rfl) ?_
      refine Zw_iload_2 dX2_laneCount_15 ?_
      refine Zw_ialdn (i) dX2_laneCount_16 (by first | decide | assumption | omega) (by first | rfl | assumption) rfl (by omega) (by decide) ?_
      refine Zw_S1 (k := 0) lm_X2_67 dX2_laneCount_17 (by decide) (Nat.le_of_ble_eq_true rfl) ?_
      refine s_bitCount ?_
      refine Zw_iadd dX2_laneCount_20 ?_
      refine Zw_istore_1 dX2_laneCount_21 rfl ?_
      refine Zw_iinc_2 dX2_laneCount_22 rfl (zincn _) ?_
      refine Zw_goto 4 dX2_laneCount_25 (by decide) ?_
      exact l_laneCount h m (i + 1) (by omega) (by omega)
set_option maxRecDepth 20000 in
theorem s_laneCount {Q : zQ} {μ : zMu} {τ : Int64} (h : Q (some (.int (q_sum (fun p => q_bc (μ 2 p)) 8 / 2))) μ τ) : Zc 1 yX2_laneCount cX2_laneCount 3 (some .int) [.ref 1] μ τ Q := by
  refine Zc.mk 2 [.ref 1, .null, .null] rfl (by decide) (Nat.le_of_ble_eq_true rfl) ?_
  refine Zw_iconst (v := 0) dX2_laneCount_0 (by decide) ?_
  refine Zw_istore_1 dX2_laneCount_1 rfl ?_
  refine Zw_iconst (v := 0) dX2_laneCount_2 (by decide) ?_
  refine Zw_istore_2 dX2_laneCount_3 rfl ?_
  exact l_laneCount h 9 0 (by omega) (by omega)
set_option maxRecDepth 20000 in
theorem s_knownOf4 {k : Nat} {Q : zQ} {μ : zMu} {τ : Int64} (hk : k < 78) (hs : zSh k = .inl (3, [0, 0, 0, 0])) (h : Q (some (.int (μ k 1))) μ τ) : Zc 0 yX2_knownOf cX2_knownOf 2 (some .int) [.ref k, .int 4] μ τ Q := by
  refine Zc.mk 0 [.ref k, .int 4] rfl (by decide) (Nat.le_of_ble_eq_true rfl) ?_
  refine Zw_iload_1 dX2_knownOf_0 ?_
  refine Zw_swk 52 0 [32, 37, 42, 47] dX2_knownOf_1 (by decide) (by decide) (by decide) (by decide) (by rfl) ?_
  refine Zw_aload_0 dX2_knownOf_32 ?_
  refine Zw_geti lf_X2_58 dX2_knownOf_33 (by first | decide | assumption | omega) (by first | rfl | assumption) (by rfl) ?_
  refine Zw_ireturn dX2_knownOf_36 (by first | rfl | assumption) ?_
  exact h
set_option maxRecDepth 20000 in
theorem s_knownOf5 {k : Nat} {Q : zQ} {μ : zMu} {τ : Int64} (hk : k < 78) (hs : zSh k = .inl (3, [0, 0, 0, 0])) (h : Q (some (.int (μ k 2))) μ τ) : Zc 0 yX2_knownOf cX2_knownOf 2 (some .int) [.ref k, .int 5] μ τ Q := by
  refine Zc.mk 0 [.ref k, .int 5] rfl (by decide) (Nat.le_of_ble_eq_true rfl) ?_
  refine Zw_iload_1 dX2_knownOf_0 ?_
  refine Zw_swk 52 1 [32, 37, 42, 47] dX2_knownOf_1 (by decide) (by decide) (by decide) (by decide) (by rfl) ?_
  refine Zw_aload_0 dX2_knownOf_37 ?_
  refine Zw_geti lf_X2_61 dX2_knownOf_38 (by first | decide | assumption | omega) (by first | rfl | assumption) (by rfl) ?_
  refine Zw_ireturn dX2_knownOf_41 (by first | rfl | assumption) ?_
  exact h
set_option maxRecDepth 20000 in
theorem s_knownOf6 {k : Nat} {Q : zQ} {μ : zMu} {τ : Int64} (hk : k < 78) (hs : zSh k = .inl (3, [0, 0, 0, 0])) (h : Q (some (.int (μ k 0))) μ τ) : Zc 0 yX2_knownOf cX2_knownOf 2 (some .int) [.ref k, .int 6] μ τ Q := by
  refine Zc.mk 0 [.ref k, .int 6] rfl (by decide) (Nat.le_of_ble_eq_true rfl) ?_
  refine Zw_iload_1 dX2_knownOf_0 ?_
  refine Zw_swk 52 2 [32, 37, 42, 47] dX2_knownOf_1 (by decide) (by decide) (by decide) (by decide) (by rfl) ?_
  refine Zw_aload_0 dX2_knownOf_42 ?_
  refine Zw_geti lf_X2_55 dX2_knownOf_43 (by first | decide | assumption | omega) (by first | rfl | assumption) (by rfl) ?_
  refine Zw_ireturn dX2_knownOf_46 (by first | rfl | assumption) ?_
  exact h
set_option maxRecDepth 20000 in
theorem s_knownOf7 {k : Nat} {Q : zQ} {μ : zMu} {τ : Int64} (hk : k < 78) (hs : zSh k = .inl (3, [0, 0, 0, 0])) (h : Q (some (.int (μ k 3))) μ τ) : Zc 0 yX2_knownOf cX2_knownOf 2 (some .int) [.ref k, .int 7] μ τ Q := by
  refine Zc.mk 0 [.ref k, .int 7] rfl (by decide) (Nat.le_of_ble_eq_true rfl) ?_
  refine Zw_iload_1 dX2_knownOf_0 ?_
  refine Zw_swk 52 3 [32, 37, 42, 47] dX2_knownOf_1 (by decide) (by decide) (by decide) (by decide) (by rfl) ?_
  refine Zw_aload_0 dX2_knownOf_47 ?_
  refine Zw_geti lf_X2_64 dX2_knownOf_48 (by first | decide | assumption | omega) (by first | rfl | assumption) (by rfl) ?_
  refine Zw_ireturn dX2_knownOf_51 (by first | rfl | assumption) ?_
  exact h
set_option maxRecDepth 20000 in
theorem s_known0 {of : Int32} {Q : zQ} {μ : zMu} {τ : Int64} (h : Q (some (.int (μ 1 3))) μ τ) : Zc 1 yX2_known cX2_known 3 (some .int) [.ref 1, .int of, .int 0] μ τ Q := by
  refine Zc.mk 0 [.ref 1, .int of, .int 0] rfl (by decide) (Nat.le_of_ble_eq_true rfl) ?_
  refine Zw_iload_2 dX2_known_0 ?_
  refine Zw_swk 89 0 [64, 69, 74, 79, 89, 89, 89, 89, 89, 89, 89, 84] dX2_known_1 (by decide) (by decide) (by decide) (by decide) (by rfl) ?_
  refine Zw_aload_0 dX2_known_64 ?_
  refine Zw_geti lf_X2_39 dX2_known_65 (by first | decide | assumption | omega) (by first | rfl | assumption) (by rfl) ?_
  refine Zw_ireturn dX2_known_68 (by first | rfl | assumption) ?_
  exact h
set_option maxRecDepth 20000 in
theorem s_become0 {of v : Int32} {Q : zQ} {μ : zMu} {τ : Int64} (h : Q none (zup μ 1 3 v) τ) : Zc 1 yX2_become cX2_become 4 none [.ref 1, .int of, .int 0, .int v] μ τ Q := by
  refine Zc.mk 0 [.ref 1, .int of, .int 0, .int v] rfl (by decide) (Nat.le_of_ble_eq_true rfl) ?_
  refine Zw_iload_2 dX2_become_0 ?_
  refine Zw_swk 104 0 [64, 72, 80, 88, 104, 104, 104, 104, 104, 104, 104, 96] dX2_become_1 (by decide) (by decide) (by decide) (by decide) (by rfl) ?_
  refine Zw_aload_0 dX2_become_64 ?_
  refine Zw_iload_3 dX2_become_65 ?_
  refine Zw_put lp_X2_39 dX2_become_66 (by first | decide | assumption | omega) (by first | rfl | assumption) (by rfl) (by first | rfl | assumption) (by first | rfl | assumption) ?_
  refine Zw_goto 126 dX2_become_69 (by decide) ?_
  refine Zw_return dX2_become_126 ?_
  exact h
set_option maxRecDepth 20000 in
theorem s_known1 {of : Int32} {Q : zQ} {μ : zMu} {τ : Int64} (h : Q (some (.int (μ 1 4))) μ τ) : Zc 1 yX2_known cX2_known 3 (some .int) [.ref 1, .int of, .int 1] μ τ Q := by
  refine Zc.mk 0 [.ref 1, .int of, .int 1] rfl (by decide) (Nat.le_of_ble_eq_true rfl) ?_
  refine Zw_iload_2 dX2_known_0 ?_
  refine Zw_swk 89 1 [64, 69, 74, 79, 89, 89, 89, 89, 89, 89, 89, 84] dX2_known_1 (by decide) (by decide) (by decide) (by decide) (by rfl) ?_
  refine Zw_aload_0 dX2_known_69 ?_
  refine Zw_geti lf_X2_42 dX2_known_70 (by first | decide | assumption | omega) (by first | rfl | assumption) (by rfl) ?_
  refine Zw_ireturn dX2_known_73 (by first | rfl | assumption) ?_
  exact h
set_option maxRecDepth 20000 in
theorem s_become1 {of v : Int32} {Q : zQ} {μ : zMu} {τ : Int64} (h : Q none (zup μ 1 4 v) τ) : Zc 1 yX2_become cX2_become 4 none [.ref 1, .int of, .int 1, .int v] μ τ Q := by
  refine Zc.mk 0 [.ref 1, .int of, .int 1, .int v] rfl (by decide) (Nat.le_of_ble_eq_true rfl) ?_
  refine Zw_iload_2 dX2_become_0 ?_
  refine Zw_swk 104 1 [64, 72, 80, 88, 104, 104, 104, 104, 104, 104, 104, 96] dX2_become_1 (by decide) (by decide) (by decide) (by decide) (by rfl) ?_
  refine Zw_aload_0 dX2_become_72 ?_
  refine Zw_iload_3 dX2_become_73 ?_
  refine Zw_put lp_X2_42 dX2_become_74 (by first | decide | assumption | omega) (by first | rfl | assumption) (by rfl) (by first | rfl | assumption) (by first | rfl | assumption) ?_
  refine Zw_goto 126 dX2_become_77 (by decide) ?_
  refine Zw_return dX2_become_126 ?_
  exact h
set_option maxRecDepth 20000 in
theorem s_known2 {of : Int32} {Q : zQ} {μ : zMu} {τ : Int64} (h : Q (some (.int (μ 1 5))) μ τ) : Zc 1 yX2_known cX2_known 3 (some .int) [.ref 1, .int of, .int 2] μ τ Q := by
  refine Zc.mk 0 [.ref 1, .int of, .int 2] rfl (by decide) (Nat.le_of_ble_eq_true rfl) ?_
  refine Zw_iload_2 dX2_known_0 ?_
  refine Zw_swk 89 2 [64, 69, 74, 79, 89, 89, 89, 89, 89, 89, 89, 84] dX2_known_1 (by decide) (by decide) (by decide) (by decide) (by rfl) ?_
  refine Zw_aload_0 dX2_known_74 ?_
  refine Zw_geti lf_X2_45 dX2_known_75 (by first | decide | assumption | omega) (by first | rfl | assumption) (by rfl) ?_
  refine Zw_ireturn dX2_known_78 (by first | rfl | assumption) ?_
  exact h
set_option maxRecDepth 20000 in
theorem s_become2 {of v : Int32} {Q : zQ} {μ : zMu} {τ : Int64} (h : Q none (zup μ 1 5 v) τ) : Zc 1 yX2_become cX2_become 4 none [.ref 1, .int of, .int 2, .int v] μ τ Q := by
  refine Zc.mk 0 [.ref 1, .int of, .int 2, .int v] rfl (by decide) (Nat.le_of_ble_eq_true rfl) ?_
  refine Zw_iload_2 dX2_become_0 ?_
  refine Zw_swk 104 2 [64, 72, 80, 88, 104, 104, 104, 104, 104, 104, 104, 96] dX2_become_1 (by decide) (by decide) (by decide) (by decide) (by rfl) ?_
  refine Zw_aload_0 dX2_become_80 ?_
  refine Zw_iload_3 dX2_become_81 ?_
  refine Zw_put lp_X2_45 dX2_become_82 (by first | decide | assumption | omega) (by first | rfl | assumption) (by rfl) (by first | rfl | assumption) (by first | rfl | assumption) ?_
  refine Zw_goto 126 dX2_become_85 (by decide) ?_
  refine Zw_return dX2_become_126 ?_
  exact h
set_option maxRecDepth 20000 in
theorem s_known3 {of : Int32} {Q : zQ} {μ : zMu} {τ : Int64} (h : Q (some (.int (μ 1 6))) μ τ) : Zc 1 yX2_known cX2_known 3 (some .int) [.ref 1, .int of, .int 3] μ τ Q := by
  refine Zc.mk 0 [.ref 1, .int of, .int 3] rfl (by decide) (Nat.le_of_ble_eq_true rfl) ?_
  refine Zw_iload_2 dX2_known_0 ?_
  refine Zw_swk 89 3 [64, 69, 74, 79, 89, 89, 89, 89, 89, 89, 89, 84] dX2_known_1 (by decide) (by decide) (by decide) (by decide) (by rfl) ?_
  refine Zw_aload_0 dX2_known_79 ?_
  refine Zw_geti lf_X2_21 dX2_known_80 (by first | decide | assumption | omega) (by first | rfl | assumption) (by rfl) ?_
  refine Zw_ireturn dX2_known_83 (by first | rfl | assumption) ?_
  exact h
set_option maxRecDepth 20000 in
theorem s_become3 {of v : Int32} {Q : zQ} {μ : zMu} {τ : Int64} (h : Q none (zup μ 1 6 v) τ) : Zc 1 yX2_become cX2_become 4 none [.ref 1, .int of, .int 3, .int v] μ τ Q := by
  refine Zc.mk 0 [.ref 1, .int of, .int 3, .int v] rfl (by decide) (Nat.le_of_ble_eq_true rfl) ?_
  refine Zw_iload_2 dX2_become_0 ?_
  refine Zw_swk 104 3 [64, 72, 80, 88, 104, 104, 104, 104, 104, 104, 104, 96] dX2_become_1 (by decide) (by decide) (by decide) (by decide) (by rfl) ?_
  refine Zw_aload_0 dX2_become_88 ?_
  refine Zw_iload_3 dX2_become_89 ?_
  refine Zw_put lp_X2_21 dX2_become_90 (by first | decide | assumption | omega) (by first | rfl | assumption) (by rfl) (by first | rfl | assumption) (by first | rfl | assumption) ?_
  refine Zw_goto 126 dX2_become_93 (by decide) ?_
  refine Zw_return dX2_become_126 ?_
  exact h
set_option maxRecDepth 20000 in
theorem s_known11 {of : Int32} {Q : zQ} {μ : zMu} {τ : Int64} (h : Q (some (.int (μ 1 7))) μ τ) : Zc 1 yX2_known cX2_known 3 (some .int) [.ref 1, .int of, .int 11] μ τ Q := by
  refine Zc.mk 0 [.ref 1, .int of, .int 11] rfl (by decide) (Nat.le_of_ble_eq_true rfl) ?_
  refine Zw_iload_2 dX2_known_0 ?_
  refine Zw_swk 89 11 [64, 69, 74, 79, 89, 89, 89, 89, 89, 89, 89, 84] dX2_known_1 (by decide) (by decide) (by decide) (by decide) (by rfl) ?_
  refine Zw_aload_0 dX2_known_84 ?_
  refine Zw_geti lf_X2_48 dX2_known_85 (by first | decide | assumption | omega) (by first | rfl | assumption) (by rfl) ?_
  refine Zw_ireturn dX2_known_88 (by first | rfl | assumption) ?_
  exact h
set_option maxRecDepth 20000 in
theorem s_become11 {of v : Int32} {Q : zQ} {μ : zMu} {τ : Int64} (h : Q none (zup μ 1 7 v) τ) : Zc 1 yX2_become cX2_become 4 none [.ref 1, .int of, .int 11, .int v] μ τ Q := by
  refine Zc.mk 0 [.ref 1, .int of, .int 11, .int v] rfl (by decide) (Nat.le_of_ble_eq_true rfl) ?_
  refine Zw_iload_2 dX2_become_0 ?_
  refine Zw_swk 104 11 [64, 72, 80, 88, 104, 104, 104, 104, 104, 104, 104, 96] dX2_become_1 (by decide) (by decide) (by decide) (by decide) (by rfl) ?_
  refine Zw_aload_0 dX2_become_96 ?_
  refine Zw_iload_3 dX2_become_97 ?_
  refine Zw_put lp_X2_48 dX2_become_98 (by first | decide | assumption | omega) (by first | rfl | assumption) (by rfl) (by first | rfl | assumption) (by first | rfl | assumption) ?_
  refine Zw_goto 126 dX2_become_101 (by decide) ?_
  refine Zw_return dX2_become_126 ?_
  exact h
set_option maxRecDepth 20000 in
theorem s_known4 {f : Nat} {Q : zQ} {μ : zMu} {τ : Int64} (n : Nat) (hn5 : n ≤ 5) (hn : μ 1 2 = nI n) (hf : f < n) (h : Q (some (.int (μ (4 + f) 1))) μ τ) : Zc 1 yX2_known cX2_known 3 (some .int) [.ref 1, .int (nI f), .int 4] μ τ Q := by
  refine Zc.mk 0 [.ref 1, .int (nI f), .int 4] rfl (by decide) (Nat.le_of_ble_eq_true rfl) ?_
  refine Zw_iload_2 dX2_known_0 ?_
  refine Zw_swk 89 4 [64, 69, 74, 79, 89, 89, 89, 89, 89, 89, 89, 84] dX2_known_1 (by decide) (by decide) (by decide) (by decide) (by rfl) ?_
  refine Zw_iload_1 dX2_known_89 ?_
  refine Zw_aload_0 dX2_known_90 ?_
  refine Zw_geti lf_X2_36 dX2_known_91 (by first | decide | assumption | omega) (by first | rfl | assumption) (by rfl) ?_
  refine Zw_N2 (k := 0) lm_X2_51 dX2_known_94 (by decide) (Nat.le_of_ble_eq_true rfl) ?_
  refine s_within n (by rw [hn]; exact nI_toInt (by omega)) (fun _ => ?_) (fun a0 => absurd (vp_in_nI hf (by omega)) a0)
  refine Zw_if_eq 113 dX2_known_97 (by decide) (fun c => absurd c (by decide)) (fun _ => ?_)
  refine Zw_aload_0 dX2_known_100 ?_
  refine Zw_getr 3 lf_X2_17 dX2_known_101 (by first | decide | assumption | omega) (by first | rfl | assumption) (by rfl) ?_
  refine Zw_iload_1 dX2_known_104 ?_
  refine Zw_aaldn (f) (4 + f) dX2_known_105 (by first | decide | assumption | omega) (by first | rfl | assumption) rfl (by omega) (zfin_g (by omega)) (by decide) ?_
  refine Zw_iload_2 dX2_known_106 ?_
  refine Zw_S2 (k := 0) lm_X2_73 dX2_known_107 (by decide) (Nat.le_of_ble_eq_true rfl) ?_
  refine s_knownOf4 (by omega) (zfin_s (by omega)) ?_
  refine Zw_goto 115 dX2_known_110 (by decide) ?_
  refine Zw_ireturn dX2_known_115 (by first | rfl | assumption) ?_
  exact h
set_option maxRecDepth 20000 in
theorem s_known5 {f : Nat} {Q : zQ} {μ : zMu} {τ : Int64} (n : Nat) (hn5 : n ≤ 5) (hn : μ 1 2 = nI n) (hf : f < n) (h : Q (some (.int (μ (4 + f) 2))) μ τ) : Zc 1 yX2_known cX2_known 3 (some .int) [.ref 1, .int (nI f), .int 5] μ τ Q := by
  refine Zc.mk 0 [.ref 1, .int (nI f), .int 5] rfl (by decide) (Nat.le_of_ble_eq_true rfl) ?_
  refine Zw_iload_2 dX2_known_0 ?_
  refine Zw_swk 89 5 [64, 69, 74, 79, 89, 89, 89, 89, 89, 89, 89, 84] dX2_known_1 (by decide) (by decide) (by decide) (by decide) (by rfl) ?_
  refine Zw_iload_1 dX2_known_89 ?_
  refine Zw_aload_0 dX2_known_90 ?_
  refine Zw_geti lf_X2_36 dX2_known_91 (by first | decide | assumption | omega) (by first | rfl | assumption) (by rfl) ?_
  refine Zw_N2 (k := 0) lm_X2_51 dX2_known_94 (by decide) (Nat.le_of_ble_eq_true rfl) ?_
  refine s_within n (by rw [hn]; exact nI_toInt (by omega)) (fun _ => ?_) (fun a0 => absurd (vp_in_nI hf (by omega)) a0)
  refine Zw_if_eq 113 dX2_known_97 (by decide) (fun c => absurd c (by decide)) (fun _ => ?_)
  refine Zw_aload_0 dX2_known_100 ?_
  refine Zw_getr 3 lf_X2_17 dX2_known_101 (by first | decide | assumption | omega) (by first | rfl | assumption) (by rfl) ?_
  refine Zw_iload_1 dX2_known_104 ?_
  refine Zw_aaldn (f) (4 + f) dX2_known_105 (by first | decide | assumption | omega) (by first | rfl | assumption) rfl (by omega) (zfin_g (by omega)) (by decide) ?_
  refine Zw_iload_2 dX2_known_106 ?_
  refine Zw_S2 (k := 0) lm_X2_73 dX2_known_107 (by decide) (Nat.le_of_ble_eq_true rfl) ?_
  refine s_knownOf5 (by omega) (zfin_s (by omega)) ?_
  refine Zw_goto 115 dX2_known_110 (by decide) ?_
  refine Zw_ireturn dX2_known_115 (by first | rfl | assumption) ?_
  exact h
set_option maxRecDepth 20000 in
theorem s_known6 {f : Nat} {Q : zQ} {μ : zMu} {τ : Int64} (n : Nat) (hn5 : n ≤ 5) (hn : μ 1 2 = nI n) (hf : f < n) (h : Q (some (.int (μ (4 + f) 0))) μ τ) : Zc 1 yX2_known cX2_known 3 (some .int) [.ref 1, .int (nI f), .int 6] μ τ Q := by
  refine Zc.mk 0 [.ref 1, .int (nI f), .int 6] rfl (by decide) (Nat.le_of_ble_eq_true rfl) ?_
  refine Zw_iload_2 dX2_known_0 ?_
  refine Zw_swk 89 6 [64, 69, 74, 79, 89, 89, 89, 89, 89, 89, 89, 84] dX2_known_1 (by decide) (by decide) (by decide) (by decide) (by rfl) ?_
  refine Zw_iload_1 dX2_known_89 ?_
  refine Zw_aload_0 dX2_known_90 ?_
  refine Zw_geti lf_X2_36 dX2_known_91 (by first | decide | assumption | omega) (by first | rfl | assumption) (by rfl) ?_
  refine Zw_N2 (k := 0) lm_X2_51 dX2_known_94 (by decide) (Nat.le_of_ble_eq_true rfl) ?_
  refine s_within n (by rw [hn]; exact nI_toInt (by omega)) (fun _ => ?_) (fun a0 => absurd (vp_in_nI hf (by omega)) a0)
  refine Zw_if_eq 113 dX2_known_97 (by decide) (fun c => absurd c (by decide)) (fun _ => ?_)
  refine Zw_aload_0 dX2_known_100 ?_
  refine Zw_getr 3 lf_X2_17 dX2_known_101 (by first | decide | assumption | omega) (by first | rfl | assumption) (by rfl) ?_
  refine Zw_iload_1 dX2_known_104 ?_
  refine Zw_aaldn (f) (4 + f) dX2_known_105 (by first | decide | assumption | omega) (by first | rfl | assumption) rfl (by omega) (zfin_g (by omega)) (by decide) ?_
  refine Zw_iload_2 dX2_known_106 ?_
  refine Zw_S2 (k := 0) lm_X2_73 dX2_known_107 (by decide) (Nat.le_of_ble_eq_true rfl) ?_
  refine s_knownOf6 (by omega) (zfin_s (by omega)) ?_
  refine Zw_goto 115 dX2_known_110 (by decide) ?_
  refine Zw_ireturn dX2_known_115 (by first | rfl | assumption) ?_
  exact h
set_option maxRecDepth 20000 in
theorem s_known7 {f : Nat} {Q : zQ} {μ : zMu} {τ : Int64} (n : Nat) (hn5 : n ≤ 5) (hn : μ 1 2 = nI n) (hf : f < n) (h : Q (some (.int (μ (4 + f) 3))) μ τ) : Zc 1 yX2_known cX2_known 3 (some .int) [.ref 1, .int (nI f), .int 7] μ τ Q := by
  refine Zc.mk 0 [.ref 1, .int (nI f), .int 7] rfl (by decide) (Nat.le_of_ble_eq_true rfl) ?_
  refine Zw_iload_2 dX2_known_0 ?_
  refine Zw_swk 89 7 [64, 69, 74, 79, 89, 89, 89, 89, 89, 89, 89, 84] dX2_known_1 (by decide) (by decide) (by decide) (by decide) (by rfl) ?_
  refine Zw_iload_1 dX2_known_89 ?_
  refine Zw_aload_0 dX2_known_90 ?_
  refine Zw_geti lf_X2_36 dX2_known_91 (by first | decide | assumption | omega) (by first | rfl | assumption) (by rfl) ?_
  refine Zw_N2 (k := 0) lm_X2_51 dX2_known_94 (by decide) (Nat.le_of_ble_eq_true rfl) ?_
  refine s_within n (by rw [hn]; exact nI_toInt (by omega)) (fun _ => ?_) (fun a0 => absurd (vp_in_nI hf (by omega)) a0)
  refine Zw_if_eq 113 dX2_known_97 (by decide) (fun c => absurd c (by decide)) (fun _ => ?_)
  refine Zw_aload_0 dX2_known_100 ?_
  refine Zw_getr 3 lf_X2_17 dX2_known_101 (by first | decide | assumption | omega) (by first | rfl | assumption) (by rfl) ?_
  refine Zw_iload_1 dX2_known_104 ?_
  refine Zw_aaldn (f) (4 + f) dX2_known_105 (by first | decide | assumption | omega) (by first | rfl | assumption) rfl (by omega) (zfin_g (by omega)) (by decide) ?_
  refine Zw_iload_2 dX2_known_106 ?_
  refine Zw_S2 (k := 0) lm_X2_73 dX2_known_107 (by decide) (Nat.le_of_ble_eq_true rfl) ?_
  refine s_knownOf7 (by omega) (zfin_s (by omega)) ?_
  refine Zw_goto 115 dX2_known_110 (by decide) ?_
  refine Zw_ireturn dX2_known_115 (by first | rfl | assumption) ?_
  exact h
set_option maxRecDepth 20000 in
theorem s_becomeOf4 {k : Nat} {v : Int32} {Q : zQ} {μ : zMu} {τ : Int64} (hk : k < 78) (hs : zSh k = .inl (3, [0, 0, 0, 0])) (h : Q none (zup μ k 1 v) τ) : Zc 0 yX2_becomeOf cX2_becomeOf 3 none [.ref k, .int 4, .int v] μ τ Q := by
  refine Zc.mk 0 [.ref k, .int 4, .int v] rfl (by decide) (Nat.le_of_ble_eq_true rfl) ?_
  refine Zw_iload_1 dX2_becomeOf_0 ?_
  refine Zw_iconst (v := 4) dX2_becomeOf_1 (by decide) ?_
  refine Zw_icmp_ne 13 dX2_becomeOf_2 (by decide) (fun c => absurd c (by decide)) (fun _ => ?_)
  refine Zw_aload_0 dX2_becomeOf_5 ?_
  refine Zw_iload_2 dX2_becomeOf_6 ?_
  refine Zw_put lp_X2_58 dX2_becomeOf_7 (by first | decide | assumption | omega) (by first | rfl | assumption) (by rfl) (by first | rfl | assumption) (by first | rfl | assumption) ?_
  refine Zw_goto 37 dX2_becomeOf_10 (by decide) ?_
  refine Zw_return dX2_becomeOf_37 ?_
  exact h
set_option maxRecDepth 20000 in
theorem s_become4 {f : Nat} {v : Int32} {Q : zQ} {μ : zMu} {τ : Int64} (n : Nat) (hn5 : n ≤ 5) (hn : μ 1 2 = nI n) (hf : f < n) (h : Q none (zup μ (4 + f) 1 v) τ) : Zc 1 yX2_become cX2_become 4 none [.ref 1, .int (nI f), .int 4, .int v] μ τ Q := by
  refine Zc.mk 0 [.ref 1, .int (nI f), .int 4, .int v] rfl (by decide) (Nat.le_of_ble_eq_true rfl) ?_
  refine Zw_iload_2 dX2_become_0 ?_
  refine Zw_swk 104 4 [64, 72, 80, 88, 104, 104, 104, 104, 104, 104, 104, 96] dX2_become_1 (by decide) (by decide) (by decide) (by decide) (by rfl) ?_
  refine Zw_iload_1 dX2_become_104 ?_
  refine Zw_aload_0 dX2_become_105 ?_
  refine Zw_geti lf_X2_36 dX2_become_106 (by first | decide | assumption | omega) (by first | rfl | assumption) (by rfl) ?_
  refine Zw_N2 (k := 0) lm_X2_51 dX2_become_109 (by decide) (Nat.le_of_ble_eq_true rfl) ?_
  refine s_within n (by rw [hn]; exact nI_toInt (by omega)) (fun _ => ?_) (fun a0 => absurd (vp_in_nI hf (by omega)) a0)
  refine Zw_if_eq 126 dX2_become_112 (by decide) (fun c => absurd c (by decide)) (fun _ => ?_)
  refine Zw_aload_0 dX2_become_115 ?_
  refine Zw_getr 3 lf_X2_17 dX2_become_116 (by first | decide | assumption | omega) (by first | rfl | assumption) (by rfl) ?_
  refine Zw_iload_1 dX2_become_119 ?_
  refine Zw_aaldn (f) (4 + f) dX2_become_120 (by first | decide | assumption | omega) (by first | rfl | assumption) rfl (by omega) (zfin_g (by omega)) (by decide) ?_
  refine Zw_iload_2 dX2_become_121 ?_
  refine Zw_iload_3 dX2_become_122 ?_
  refine Zw_S3 (k := 0) lm_X2_77 dX2_become_123 (by decide) (Nat.le_of_ble_eq_true rfl) ?_
  refine s_becomeOf4 (by omega) (zfin_s (by omega)) ?_
  refine Zw_return dX2_become_126 ?_
  exact h
set_option maxRecDepth 20000 in
theorem s_becomeOf5 {k : Nat} {v : Int32} {Q : zQ} {μ : zMu} {τ : Int64} (hk : k < 78) (hs : zSh k = .inl (3, [0, 0, 0, 0])) (h : Q none (zup μ k 2 v) τ) : Zc 0 yX2_becomeOf cX2_becomeOf 3 none [.ref k, .int 5, .int v] μ τ Q := by
  refine Zc.mk 0 [.ref k, .int 5, .int v] rfl (by decide) (Nat.le_of_ble_eq_true rfl) ?_
  refine Zw_iload_1 dX2_becomeOf_0 ?_
  refine Zw_iconst (v := 4) dX2_becomeOf_1 (by decide) ?_
  refine Zw_icmp_ne 13 dX2_becomeOf_2 (by decide) (fun _ => ?_) (fun c => absurd c (by decide))
  refine Zw_iload_1 dX2_becomeOf_13 ?_
  refine Zw_iconst (v := 5) dX2_becomeOf_14 (by decide) ?_
  refine Zw_icmp_ne 26 dX2_becomeOf_15 (by decide) (fun c => absurd c (by decide)) (fun _ => ?_)
  refine Zw_aload_0 dX2_becomeOf_18 ?_
  refine Zw_iload_2 dX2_becomeOf_19 ?_
  refine Zw_put lp_X2_61 dX2_becomeOf_20 (by first | decide | assumption | omega) (by first | rfl | assumption) (by rfl) (by first | rfl | assumption) (by first | rfl | assumption) ?_
  refine Zw_goto 37 dX2_becomeOf_23 (by decide) ?_
  refine Zw_return dX2_becomeOf_37 ?_
  exact h
set_option maxRecDepth 20000 in
theorem s_become5 {f : Nat} {v : Int32} {Q : zQ} {μ : zMu} {τ : Int64} (n : Nat) (hn5 : n ≤ 5) (hn : μ 1 2 = nI n) (hf : f < n) (h : Q none (zup μ (4 + f) 2 v) τ) : Zc 1 yX2_become cX2_become 4 none [.ref 1, .int (nI f), .int 5, .int v] μ τ Q := by
  refine Zc.mk 0 [.ref 1, .int (nI f), .int 5, .int v] rfl (by decide) (Nat.le_of_ble_eq_true rfl) ?_
  refine Zw_iload_2 dX2_become_0 ?_
  refine Zw_swk 104 5 [64, 72, 80, 88, 104, 104, 104, 104, 104, 104, 104, 96] dX2_become_1 (by decide) (by decide) (by decide) (by decide) (by rfl) ?_
  refine Zw_iload_1 dX2_become_104 ?_
  refine Zw_aload_0 dX2_become_105 ?_
  refine Zw_geti lf_X2_36 dX2_become_106 (by first | decide | assumption | omega) (by first | rfl | assumption) (by rfl) ?_
  refine Zw_N2 (k := 0) lm_X2_51 dX2_become_109 (by decide) (Nat.le_of_ble_eq_true rfl) ?_
  refine s_within n (by rw [hn]; exact nI_toInt (by omega)) (fun _ => ?_) (fun a0 => absurd (vp_in_nI hf (by omega)) a0)
  refine Zw_if_eq 126 dX2_become_112 (by decide) (fun c => absurd c (by decide)) (fun _ => ?_)
  refine Zw_aload_0 dX2_become_115 ?_
  refine Zw_getr 3 lf_X2_17 dX2_become_116 (by first | decide | assumption | omega) (by first | rfl | assumption) (by rfl) ?_
  refine Zw_iload_1 dX2_become_119 ?_
  refine Zw_aaldn (f) (4 + f) dX2_become_120 (by first | decide | assumption | omega) (by first | rfl | assumption) rfl (by omega) (zfin_g (by omega)) (by decide) ?_
  refine Zw_iload_2 dX2_become_121 ?_
  refine Zw_iload_3 dX2_become_122 ?_
  refine Zw_S3 (k := 0) lm_X2_77 dX2_become_123 (by decide) (Nat.le_of_ble_eq_true rfl) ?_
  refine s_becomeOf5 (by omega) (zfin_s (by omega)) ?_
  refine Zw_return dX2_become_126 ?_
  exact h
set_option maxRecDepth 20000 in
theorem s_becomeOf6 {k : Nat} {v : Int32} {Q : zQ} {μ : zMu} {τ : Int64} (hk : k < 78) (hs : zSh k = .inl (3, [0, 0, 0, 0])) (h : Q none (zup μ k 0 v) τ) : Zc 0 yX2_becomeOf cX2_becomeOf 3 none [.ref k, .int 6, .int v] μ τ Q := by
  refine Zc.mk 0 [.ref k, .int 6, .int v] rfl (by decide) (Nat.le_of_ble_eq_true rfl) ?_
  refine Zw_iload_1 dX2_becomeOf_0 ?_
  refine Zw_iconst (v := 4) dX2_becomeOf_1 (by decide) ?_
  refine Zw_icmp_ne 13 dX2_becomeOf_2 (by decide) (fun _ => ?_) (fun c => absurd c (by decide))
  refine Zw_iload_1 dX2_becomeOf_13 ?_
  refine Zw_iconst (v := 5) dX2_becomeOf_14 (by decide) ?_
  refine Zw_icmp_ne 26 dX2_becomeOf_15 (by decide) (fun _ => ?_) (fun c => absurd c (by decide))
  refine Zw_iload_1 dX2_becomeOf_26 ?_
  refine Zw_bipush (v := 6) dX2_becomeOf_27 (by decide) ?_
  refine Zw_icmp_ne 37 dX2_becomeOf_29 (by decide) (fun c => absurd c (by decide)) (fun _ => ?_)
  refine Zw_aload_0 dX2_becomeOf_32 ?_
  refine Zw_iload_2 dX2_becomeOf_33 ?_
  refine Zw_put lp_X2_55 dX2_becomeOf_34 (by first | decide | assumption | omega) (by first | rfl | assumption) (by rfl) (by first | rfl | assumption) (by first | rfl | assumption) ?_
  refine Zw_return dX2_becomeOf_37 ?_
  exact h
set_option maxRecDepth 20000 in
theorem s_become6 {f : Nat} {v : Int32} {Q : zQ} {μ : zMu} {τ : Int64} (n : Nat) (hn5 : n ≤ 5) (hn : μ 1 2 = nI n) (hf : f < n) (h : Q none (zup μ (4 + f) 0 v) τ) : Zc 1 yX2_become cX2_become 4 none [.ref 1, .int (nI f), .int 6, .int v] μ τ Q := by
  refine Zc.mk 0 [.ref 1, .int (nI f), .int 6, .int v] rfl (by decide) (Nat.le_of_ble_eq_true rfl) ?_
  refine Zw_iload_2 dX2_become_0 ?_
  refine Zw_swk 104 6 [64, 72, 80, 88, 104, 104, 104, 104, 104, 104, 104, 96] dX2_become_1 (by decide) (by decide) (by decide) (by decide) (by rfl) ?_
  refine Zw_iload_1 dX2_become_104 ?_
  refine Zw_aload_0 dX2_become_105 ?_
  refine Zw_geti lf_X2_36 dX2_become_106 (by first | decide | assumption | omega) (by first | rfl | assumption) (by rfl) ?_
  refine Zw_N2 (k := 0) lm_X2_51 dX2_become_109 (by decide) (Nat.le_of_ble_eq_true rfl) ?_
  refine s_within n (by rw [hn]; exact nI_toInt (by omega)) (fun _ => ?_) (fun a0 => absurd (vp_in_nI hf (by omega)) a0)
  refine Zw_if_eq 126 dX2_become_112 (by decide) (fun c => absurd c (by decide)) (fun _ => ?_)
  refine Zw_aload_0 dX2_become_115 ?_
  refine Zw_getr 3 lf_X2_17 dX2_become_116 (by first | decide | assumption | omega) (by first | rfl | assumption) (by rfl) ?_
  refine Zw_iload_1 dX2_become_119 ?_
  refine Zw_aaldn (f) (4 + f) dX2_become_120 (by first | decide | assumption | omega) (by first | rfl | assumption) rfl (by omega) (zfin_g (by omega)) (by decide) ?_
  refine Zw_iload_2 dX2_become_121 ?_
  refine Zw_iload_3 dX2_become_122 ?_
  refine Zw_S3 (k := 0) lm_X2_77 dX2_become_123 (by decide) (Nat.le_of_ble_eq_true rfl) ?_
  refine s_becomeOf6 (by omega) (zfin_s (by omega)) ?_
  refine Zw_return dX2_become_126 ?_
  exact h
