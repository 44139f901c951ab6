def q_under : Nat → Int32 → Bool
  | 0, a => a == 0
  | 1, a => a == 1 || a == 0
  | 2, a => a == 2 || a == 0
  | 3, a => a == 3 || (a == 1 || a == 0)
  | 4, a => a == 4 || (a == 2 || a == 0)
  | _, a => a == 5 || a == 0
set_option maxRecDepth 20000 in
theorem s_x_isUnder {k : Nat} {a : Int32} {Q : zQ} {μ : zMu} {τ : Int64} (hk : k < 78) (hs : zSh k = .inl (3, [0, 0, 0, 0])) (c : Nat) (hc : c < 6) (hkd : μ k 0 = nI c) (h1 : q_under c a = true → Q (some (.int 1)) μ τ) (h0 : q_under c a = false → Q (some (.int 0)) μ τ) : Zc 1 yX3_isUnder cX3_isUnder 4 (some .boolean) [.ref k, .int a] μ τ Q := by
  refine Zc.mk 2 [.ref k, .int a, .null, .null] rfl (by decide) (Nat.le_of_ble_eq_true rfl) ?_
  match c, hc, hkd with
  | 0, _, hkd =>
    refine Zw_aload_0 dX3_isUnder_0 ?_
    refine Zw_geti lf_X3_9 dX3_isUnder_1 (by first | decide | assumption | omega) (by first | rfl | assumption) (by rfl) ?_
    rw [hkd]
    show Zw _ _ _ _ _ _ _ _ (Value.int 0 :: _) _ _
    refine Zw_istore_2 dX3_isUnder_4 rfl ?_
    refine Zw_iconst (v := 0) dX3_isUnder_5 (by decide) ?_
    refine Zw_istore_3 dX3_isUnder_6 rfl ?_
    refine Zw_iload_3 dX3_isUnder_7 ?_
    refine Zw_bipush (v := 6) dX3_isUnder_8 (by decide) ?_
    refine Zw_icmp_ge 41 dX3_isUnder_10 (by decide) (fun c => absurd c (by decide)) (fun _ => ?_)
    refine Zw_iload_2 dX3_isUnder_13 ?_
    refine Zw_bipush (v := 6) dX3_isUnder_14 (by decide) ?_
    refine Zw_N2 (k := 0) lm_X3_24 dX3_isUnder_16 (by decide) (Nat.le_of_ble_eq_true rfl) ?_
    refine s_within 6 (by rfl) (fun _ => ?_) (fun a0 => absurd (by unfold vp_in; decide) a0)
    refine Zw_if_eq 41 dX3_isUnder_19 (by decide) (fun c => absurd c (by decide)) (fun _ => ?_)
    refine Zw_iload_2 dX3_isUnder_22 ?_
    refine Zw_iload_1 dX3_isUnder_23 ?_
    refine Zw_icmp_ne 29 dX3_isUnder_24 (by decide) (fun c24 => ?_) (fun c24 => ?_)
    · refine Zw_getsN (t := 1) (by decide) (by decide +kernel) dX3_isUnder_29 ?_
      refine Zw_iload_2 dX3_isUnder_32 ?_
      refine Zw_tald (t := 1) (x := (-1)) dX3_isUnder_33 (by decide) (by first | assumption | exact vp_in_nI (by omega) (by omega) | (unfold vp_in; decide)) (by decide) ?_
      refine Zw_istore_2 dX3_isUnder_34 rfl ?_
      refine Zw_iinc_3 (y := 1) dX3_isUnder_35 rfl (by decide) ?_
      refine Zw_goto 7 dX3_isUnder_38 (by decide) ?_
      refine Zw_iload_3 dX3_isUnder_7 ?_
      refine Zw_bipush (v := 6) dX3_isUnder_8 (by decide) ?_
      refine Zw_icmp_ge 41 dX3_isUnder_10 (by decide) (fun c => absurd c (by decide)) (fun _ => ?_)
      refine Zw_iload_2 dX3_isUnder_13 ?_
      refine Zw_bipush (v := 6) dX3_isUnder_14 (by decide) ?_
      refine Zw_N2 (k := 0) lm_X3_24 dX3_isUnder_16 (by decide) (Nat.le_of_ble_eq_true rfl) ?_
      refine s_within 6 (by rfl) (fun a1 => absurd a1 (by unfold vp_in; decide)) (fun _ => ?_)
      refine Zw_if_eq 41 dX3_isUnder_19 (by decide) (fun _ => ?_) (fun c => absurd c (by decide))
      refine Zw_iconst (v := 0) dX3_isUnder_41 (by decide) ?_
      refine Zw_ireturn dX3_isUnder_42 (by first | rfl | assumption) ?_
      exact h0 (by simp [q_under, Ne.symm c24])
    · refine Zw_iconst (v := 1) dX3_isUnder_27 (by decide) ?_
      refine Zw_ireturn dX3_isUnder_28 (by first | rfl | assumption) ?_
      exact h1 (by subst c24; decide)
  | 1, _, hkd =>
    refine Zw_aload_0 dX3_isUnder_0 ?_
    refine Zw_geti lf_X3_9 dX3_isUnder_1 (by first | decide | assumption | omega) (by first | rfl | assumption) (by rfl) ?_
    rw [hkd]
    show Zw _ _ _ _ _ _ _ _ (Value.int 1 :: _) _ _
    refine Zw_istore_2 dX3_isUnder_4 rfl ?_
    refine Zw_iconst (v := 0) dX3_isUnder_5 (by decide) ?_
    refine Zw_istore_3 dX3_isUnder_6 rfl ?_
    refine Zw_iload_3 dX3_isUnder_7 ?_
    refine Zw_bipush (v := 6) dX3_isUnder_8 (by decide) ?_
    refine Zw_icmp_ge 41 dX3_isUnder_10 (by decide) (fun c => absurd c (by decide)) (fun _ => ?_)
    refine Zw_iload_2 dX3_isUnder_13 ?_
    refine Zw_bipush (v := 6) dX3_isUnder_14 (by decide) ?_
    refine Zw_N2 (k := 0) lm_X3_24 dX3_isUnder_16 (by decide) (Nat.le_of_ble_eq_true rfl) ?_
    refine s_within 6 (by rfl) (fun _ => ?_) (fun a0 => absurd (by unfold vp_in; decide) a0)
    refine Zw_if_eq 41 dX3_isUnder_19 (by decide) (fun c => absurd c (by decide)) (fun _ => ?_)
    refine Zw_iload_2 dX3_isUnder_22 ?_
    refine Zw_iload_1 dX3_isUnder_23 ?_
    refine Zw_icmp_ne 29 dX3_isUnder_24 (by decide) (fun c24 => ?_) (fun c24 => ?_)
    · refine Zw_getsN (t := 1) (by decide) (by decide +kernel) dX3_isUnder_29 ?_
      refine Zw_iload_2 dX3_isUnder_32 ?_
      refine Zw_tald (t := 1) (x := 0) dX3_isUnder_33 (by decide) (by first | assumption | exact vp_in_nI (by omega) (by omega) | (unfold vp_in; decide)) (by decide) ?_
      refine Zw_istore_2 dX3_isUnder_34 rfl ?_
      refine Zw_iinc_3 (y := 1) dX3_isUnder_35 rfl (by decide) ?_
      refine Zw_goto 7 dX3_isUnder_38 (by decide) ?_
      refine Zw_iload_3 dX3_isUnder_7 ?_
      refine Zw_bipush (v := 6) dX3_isUnder_8 (by decide) ?_
      refine Zw_icmp_ge 41 dX3_isUnder_10 (by decide) (fun c => absurd c (by decide)) (fun _ => ?_)
      refine Zw_iload_2 dX3_isUnder_13 ?_
      refine Zw_bipush (v := 6) dX3_isUnder_14 (by decide) ?_
      refine Zw_N2 (k := 0) lm_X3_24 dX3_isUnder_16 (by decide) (Nat.le_of_ble_eq_true rfl) ?_
      refine s_within 6 (by rfl) (fun _ => ?_) (fun a0 => absurd (by unfold vp_in; decide) a0)
      refine Zw_if_eq 41 dX3_isUnder_19 (by decide) (fun c => absurd c (by decide)) (fun _ => ?_)
      refine Zw_iload_2 dX3_isUnder_22 ?_
      refine Zw_iload_1 dX3_isUnder_23 ?_
      refine Zw_icmp_ne 29 dX3_isUnder_24 (by decide) (fun c24_2 => ?_) (fun c24_2 => ?_)
      · refine Zw_getsN (t := 1) (by decide) (by decide +kernel) dX3_isUnder_29 ?_
        refine Zw_iload_2 dX3_isUnder_32 ?_
        refine Zw_tald (t := 1) (x := (-1)) dX3_isUnder_33 (by decide) (by first | assumption | exact vp_in_nI (by omega) (by omega) | (unfold vp_in; decide)) (by decide) ?_
        refine Zw_istore_2 dX3_isUnder_34 rfl ?_
        refine Zw_iinc_3 (y := 2) dX3_isUnder_35 rfl (by decide) ?_
        refine Zw_goto 7 dX3_isUnder_38 (by decide) ?_
        refine Zw_iload_3 dX3_isUnder_7 ?_
        refine Zw_bipush (v := 6) dX3_isUnder_8 (by decide) ?_
        refine Zw_icmp_ge 41 dX3_isUnder_10 (by decide) (fun c => absurd c (by decide)) (fun _ => ?_)
        refine Zw_iload_2 dX3_isUnder_13 ?_
        refine Zw_bipush (v := 6) dX3_isUnder_14 (by decide) ?_
        refine Zw_N2 (k := 0) lm_X3_24 dX3_isUnder_16 (by decide) (Nat.le_of_ble_eq_true rfl) ?_
        refine s_within 6 (by rfl) (fun a1 => absurd a1 (by unfold vp_in; decide)) (fun _ => ?_)
        refine Zw_if_eq 41 dX3_isUnder_19 (by decide) (fun _ => ?_) (fun c => absurd c (by decide))
        refine Zw_iconst (v := 0) dX3_isUnder_41 (by decide) ?_
        refine Zw_ireturn dX3_isUnder_42 (by first | rfl | assumption) ?_
        exact h0 (by simp [q_under, Ne.symm c24, Ne.symm c24_2])
      · refine Zw_iconst (v := 1) dX3_isUnder_27 (by decide) ?_
        refine Zw_ireturn dX3_isUnder_28 (by first | rfl | assumption) ?_
        exact h1 (by subst c24_2; decide)
    · refine Zw_iconst (v := 1) dX3_isUnder_27 (by decide) ?_
      refine Zw_ireturn dX3_isUnder_28 (by first | rfl | assumption) ?_
      exact h1 (by subst c24; decide)
  | 2, _, hkd =>
    refine Zw_aload_0 dX3_isUnder_0 ?_
    refine Zw_geti lf_X3_9 dX3_isUnder_1 (by first | decide | assumption | omega) (by first | rfl | assumption) (by rfl) ?_
    rw [hkd]
    show Zw _ _ _ _ _ _ _ _ (Value.int 2 :: _) _ _
    refine Zw_istore_2 dX3_isUnder_4 rfl ?_
    refine Zw_iconst (v := 0) dX3_isUnder_5 (by decide) ?_
    refine Zw_istore_3 dX3_isUnder_6 rfl ?_
    refine Zw_iload_3 dX3_isUnder_7 ?_
    refine Zw_bipush (v := 6) dX3_isUnder_8 (by decide) ?_
    refine Zw_icmp_ge 41 dX3_isUnder_10 (by decide) (fun c => absurd c (by decide)) (fun _ => ?_)
    refine Zw_iload_2 dX3_isUnder_13 ?_
    refine Zw_bipush (v := 6) dX3_isUnder_14 (by decide) ?_
    refine Zw_N2 (k := 0) lm_X3_24 dX3_isUnder_16 (by decide) (Nat.le_of_ble_eq_true rfl) ?_
    refine s_within 6 (by rfl) (fun _ => ?_) (fun a0 => absurd (by unfold vp_in; decide) a0)
    refine Zw_if_eq 41 dX3_isUnder_19 (by decide) (fun c => absurd c (by decide)) (fun _ => ?_)
    refine Zw_iload_2 dX3_isUnder_22 ?_
    refine Zw_iload_1 dX3_isUnder_23 ?_
    refine Zw_icmp_ne 29 dX3_isUnder_24 (by decide) (fun c24 => ?_) (fun c24 => ?_)
    · refine Zw_getsN (t := 1) (by decide) (by decide +kernel) dX3_isUnder_29 ?_
      refine Zw_iload_2 dX3_isUnder_32 ?_
      refine Zw_tald (t := 1) (x := 0) dX3_isUnder_33 (by decide) (by first | assumption | exact vp_in_nI (by omega) (by omega) | (unfold vp_in; decide)) (by decide) ?_
      refine Zw_istore_2 dX3_isUnder_34 rfl ?_
      refine Zw_iinc_3 (y := 1) dX3_isUnder_35 rfl (by decide) ?_
      refine Zw_goto 7 dX3_isUnder_38 (by decide) ?_
      refine Zw_iload_3 dX3_isUnder_7 ?_
      refine Zw_bipush (v := 6) dX3_isUnder_8 (by decide) ?_
      refine Zw_icmp_ge 41 dX3_isUnder_10 (by decide) (fun c => absurd c (by decide)) (fun _ => ?_)
      refine Zw_iload_2 dX3_isUnder_13 ?_
      refine Zw_bipush (v := 6) dX3_isUnder_14 (by decide) ?_
      refine Zw_N2 (k := 0) lm_X3_24 dX3_isUnder_16 (by decide) (Nat.le_of_ble_eq_true rfl) ?_
      refine s_within 6 (by rfl) (fun _ => ?_) (fun a0 => absurd (by unfold vp_in; decide) a0)
      refine Zw_if_eq 41 dX3_isUnder_19 (by decide) (fun c => absurd c (by decide)) (fun _ => ?_)
      refine Zw_iload_2 dX3_isUnder_22 ?_
      refine Zw_iload_1 dX3_isUnder_23 ?_
      refine Zw_icmp_ne 29 dX3_isUnder_24 (by decide) (fun c24_2 => ?_) (fun c24_2 => ?_)
      · refine Zw_getsN (t := 1) (by decide) (by decide +kernel) dX3_isUnder_29 ?_
        refine Zw_iload_2 dX3_isUnder_32 ?_
        refine Zw_tald (t := 1) (x := (-1)) dX3_isUnder_33 (by decide) (by first | assumption | exact vp_in_nI (by omega) (by omega) | (unfold vp_in; decide)) (by decide) ?_
        refine Zw_istore_2 dX3_isUnder_34 rfl ?_
        refine Zw_iinc_3 (y := 2) dX3_isUnder_35 rfl (by decide) ?_
        refine Zw_goto 7 dX3_isUnder_38 (by decide) ?_
        refine Zw_iload_3 dX3_isUnder_7 ?_
        refine Zw_bipush (v := 6) dX3_isUnder_8 (by decide) ?_
        refine Zw_icmp_ge 41 dX3_isUnder_10 (by decide) (fun c => absurd c (by decide)) (fun _ => ?_)
        refine Zw_iload_2 dX3_isUnder_13 ?_
        refine Zw_bipush (v := 6) dX3_isUnder_14 (by decide) ?_
        refine Zw_N2 (k := 0) lm_X3_24 dX3_isUnder_16 (by decide) (Nat.le_of_ble_eq_true rfl) ?_
        refine s_within 6 (by rfl) (fun a1 => absurd a1 (by unfold vp_in; decide)) (fun _ => ?_)
        refine Zw_if_eq 41 dX3_isUnder_19 (by decide) (fun _ => ?_) (fun c => absurd c (by decide))
        refine Zw_iconst (v := 0) dX3_isUnder_41 (by decide) ?_
        refine Zw_ireturn dX3_isUnder_42 (by first | rfl | assumption) ?_
        exact h0 (by simp [q_under, Ne.symm c24, Ne.symm c24_2])
      · refine Zw_iconst (v := 1) dX3_isUnder_27 (by decide) ?_
        refine Zw_ireturn dX3_isUnder_28 (by first | rfl | assumption) ?_
        exact h1 (by subst c24_2; decide)
    · refine Zw_iconst (v := 1) dX3_isUnder_27 (by decide) ?_
      refine Zw_ireturn dX3_isUnder_28 (by first | rfl | assumption) ?_
      exact h1 (by subst c24; decide)
  | 3, _, hkd =>
    refine Zw_aload_0 dX3_isUnder_0 ?_
    refine Zw_geti lf_X3_9 dX3_isUnder_1 (by first | decide | assumption | omega) (by first | rfl | assumption) (by rfl) ?_
    rw [hkd]
    show Zw _ _ _ _ _ _ _ _ (Value.int 3 :: _) _ _
    refine Zw_istore_2 dX3_isUnder_4 rfl ?_
    refine Zw_iconst (v := 0) dX3_isUnder_5 (by decide) ?_
    refine Zw_istore_3 dX3_isUnder_6 rfl ?_
    refine Zw_iload_3 dX3_isUnder_7 ?_
    refine Zw_bipush (v := 6) dX3_isUnder_8 (by decide) ?_
    refine Zw_icmp_ge 41 dX3_isUnder_10 (by decide) (fun c => absurd c (by decide)) (fun _ => ?_)
    refine Zw_iload_2 dX3_isUnder_13 ?_
    refine Zw_bipush (v := 6) dX3_isUnder_14 (by decide) ?_
    refine Zw_N2 (k := 0) lm_X3_24 dX3_isUnder_16 (by decide) (Nat.le_of_ble_eq_true rfl) ?_
    refine s_within 6 (by rfl) (fun _ => ?_) (fun a0 => absurd (by unfold vp_in; decide) a0)
    refine Zw_if_eq 41 dX3_isUnder_19 (by decide) (fun c => absurd c (by decide)) (fun _ => ?_)
    refine Zw_iload_2 dX3_isUnder_22 ?_
    refine Zw_iload_1 dX3_isUnder_23 ?_
    refine Zw_icmp_ne 29 dX3_isUnder_24 (by decide) (fun c24 => ?_) (fun c24 => ?_)
    · refine Zw_getsN (t := 1) (by decide) (by decide +kernel) dX3_isUnder_29 ?_
      refine Zw_iload_2 dX3_isUnder_32 ?_
      refine Zw_tald (t := 1) (x := 1) dX3_isUnder_33 (by decide) (by first | assumption | exact vp_in_nI (by omega) (by omega) | (unfold vp_in; decide)) (by decide) ?_
      refine Zw_istore_2 dX3_isUnder_34 rfl ?_
      refine Zw_iinc_3 (y := 1) dX3_isUnder_35 rfl (by decide) ?_
      refine Zw_goto 7 dX3_isUnder_38 (by decide) ?_
      refine Zw_iload_3 dX3_isUnder_7 ?_
      refine Zw_bipush (v := 6) dX3_isUnder_8 (by decide) ?_
      refine Zw_icmp_ge 41 dX3_isUnder_10 (by decide) (fun c => absurd c (by decide)) (fun _ => ?_)
      refine Zw_iload_2 dX3_isUnder_13 ?_
      refine Zw_bipush (v := 6) dX3_isUnder_14 (by decide) ?_
      refine Zw_N2 (k := 0) lm_X3_24 dX3_isUnder_16 (by decide) (Nat.le_of_ble_eq_true rfl) ?_
      refine s_within 6 (by rfl) (fun _ => ?_) (fun a0 => absurd (by unfold vp_in; decide) a0)
      refine Zw_if_eq 41 dX3_isUnder_19 (by decide) (fun c => absurd c (by decide)) (fun _ => ?_)
      refine Zw_iload_2 dX3_isUnder_22 ?_
      refine Zw_iload_1 dX3_isUnder_23 ?_
      refine Zw_icmp_ne 29 dX3_isUnder_24 (by decide) (fun c24_2 => ?_) (fun c24_2 => ?_)
      · refine Zw_getsN (t := 1) (by decide) (by decide +kernel) dX3_isUnder_29 ?_
        refine Zw_iload_2 dX3_isUnder_32 ?_
        refine Zw_tald (t := 1) (x := 0) dX3_isUnder_33 (by decide) (by first | assumption | exact vp_in_nI (by omega) (by omega) | (unfold vp_in; decide)) (by decide) ?_
        refine Zw_istore_2 dX3_isUnder_34 rfl ?_
        refine Zw_iinc_3 (y := 2) dX3_isUnder_35 rfl (by decide) ?_
        refine Zw_goto 7 dX3_isUnder_38 (by decide) ?_
        refine Zw_iload_3 dX3_isUnder_7 ?_
        refine Zw_bipush (v := 6) dX3_isUnder_8 (by decide) ?_
        refine Zw_icmp_ge 41 dX3_isUnder_10 (by decide) (fun c => absurd c (by decide)) (fun _ => ?_)
        refine Zw_iload_2 dX3_isUnder_13 ?_
        refine Zw_bipush (v := 6) dX3_isUnder_14 (by decide) ?_
        refine Zw_N2 (k := 0) lm_X3_24 dX3_isUnder_16 (by decide) (Nat.le_of_ble_eq_true rfl) ?_
        refine s_within 6 (by rfl) (fun _ => ?_) (fun a0 => absurd (by unfold vp_in; decide) a0)
        refine Zw_if_eq 41 dX3_isUnder_19 (by decide) (fun c => absurd c (by decide)) (fun _ => ?_)
        refine Zw_iload_2 dX3_isUnder_22 ?_
        refine Zw_iload_1 dX3_isUnder_23 ?_
        refine Zw_icmp_ne 29 dX3_isUnder_24 (by decide) (fun c24_3 => ?_) (fun c24_3 => ?_)
        · refine Zw_getsN (t := 1) (by decide) (by decide +kernel) dX3_isUnder_29 ?_
          refine Zw_iload_2 dX3_isUnder_32 ?_
          refine Zw_tald (t := 1) (x := (-1)) dX3_isUnder_33 (by decide) (by first | assumption | exact vp_in_nI (by omega) (by omega) | (unfold vp_in; decide)) (by decide) ?_
          refine Zw_istore_2 dX3_isUnder_34 rfl ?_
          refine Zw_iinc_3 (y := 3) dX3_isUnder_35 rfl (by decide) ?_
          refine Zw_goto 7 dX3_isUnder_38 (by decide) ?_
          refine Zw_iload_3 dX3_isUnder_7 ?_
          refine Zw_bipush (v := 6) dX3_isUnder_8 (by decide) ?_
          refine Zw_icmp_ge 41 dX3_isUnder_10 (by decide) (fun c => absurd c (by decide)) (fun _ => ?_)
          refine Zw_iload_2 dX3_isUnder_13 ?_
          refine Zw_bipush (v := 6) dX3_isUnder_14 (by decide) ?_
          refine Zw_N2 (k := 0) lm_X3_24 dX3_isUnder_16 (by decide) (Nat.le_of_ble_eq_true rfl) ?_
          refine s_within 6 (by rfl) (fun a1 => absurd a1 (by unfold vp_in; decide)) (fun _ => ?_)
          refine Zw_if_eq 41 dX3_isUnder_19 (by decide) (fun _ => ?_) (fun c => absurd c (by decide))
          refine Zw_iconst (v := 0) dX3_isUnder_41 (by decide) ?_
          refine Zw_ireturn dX3_isUnder_42 (by first | rfl | assumption) ?_
          exact h0 (by simp [q_under, Ne.symm c24, Ne.symm c24_2, Ne.symm c24_3])
        · refine Zw_iconst (v := 1) dX3_isUnder_27 (by decide) ?_
          refine Zw_ireturn dX3_isUnder_28 (by first | rfl | assumption) ?_
          exact h1 (by subst c24_3; decide)
      · refine Zw_iconst (v := 1) dX3_isUnder_27 (by decide) ?_
        refine Zw_ireturn dX3_isUnder_28 (by first | rfl | assumption) ?_
        exact h1 (by subst c24_2; decide)
    · refine Zw_iconst (v := 1) dX3_isUnder_27 (by decide) ?_
      refine Zw_ireturn dX3_isUnder_28 (by first | rfl | assumption) ?_
      exact h1 (by subst c24; decide)
  | 4, _, hkd =>
    refine Zw_aload_0 dX3_isUnder_0 ?_
    refine Zw_geti lf_X3_9 dX3_isUnder_1 (by first | decide | assumption | omega) (by first | rfl | assumption) (by rfl) ?_
    rw [hkd]
    show Zw _ _ _ _ _ _ _ _ (Value.int 4 :: _) _ _
    refine Zw_istore_2 dX3_isUnder_4 rfl ?_
    refine Zw_iconst (v := 0) dX3_isUnder_5 (by decide) ?_
    refine Zw_istore_3 dX3_isUnder_6 rfl ?_
    refine Zw_iload_3 dX3_isUnder_7 ?_
    refine Zw_bipush (v := 6) dX3_isUnder_8 (by decide) ?_
    refine Zw_icmp_ge 41 dX3_isUnder_10 (by decide) (fun c => absurd c (by decide)) (fun _ => ?_)
    refine Zw_iload_2 dX3_isUnder_13 ?_
    refine Zw_bipush (v := 6) dX3_isUnder_14 (by decide) ?_
    refine Zw_N2 (k := 0) lm_X3_24 dX3_isUnder_16 (by decide) (Nat.le_of_ble_eq_true rfl) ?_
    refine s_within 6 (by rfl) (fun _ => ?_) (fun a0 => absurd (by unfold vp_in; decide) a0)
    refine Zw_if_eq 41 dX3_isUnder_19 (by decide) (fun c => absurd c (by decide)) (fun _ => ?_)
    refine Zw_iload_2 dX3_isUnder_22 ?_
    refine Zw_iload_1 dX3_isUnder_23 ?_
    refine Zw_icmp_ne 29 dX3_isUnder_24 (by decide) (fun c24 => ?_) (fun c24 => ?_)
    · refine Zw_getsN (t := 1) (by decide) (by decide +kernel) dX3_isUnder_29 ?_
      refine Zw_iload_2 dX3_isUnder_32 ?_
      refine Zw_tald (t := 1) (x := 2) dX3_isUnder_33 (by decide) (by first | assumption | exact vp_in_nI (by omega) (by omega) | (unfold vp_in; decide)) (by decide) ?_
      refine Zw_istore_2 dX3_isUnder_34 rfl ?_
      refine Zw_iinc_3 (y := 1) dX3_isUnder_35 rfl (by decide) ?_
      refine Zw_goto 7 dX3_isUnder_38 (by decide) ?_
      refine Zw_iload_3 dX3_isUnder_7 ?_
      refine Zw_bipush (v := 6) dX3_isUnder_8 (by decide) ?_
      refine Zw_icmp_ge 41 dX3_isUnder_10 (by decide) (fun c => absurd c (by decide)) (fun _ => ?_)
      refine Zw_iload_2 dX3_isUnder_13 ?_
      refine Zw_bipush (v := 6) dX3_isUnder_14 (by decide) ?_
      refine Zw_N2 (k := 0) lm_X3_24 dX3_isUnder_16 (by decide) (Nat.le_of_ble_eq_true rfl) ?_
      refine s_within 6 (by rfl) (fun _ => ?_) (fun a0 => absurd (by unfold vp_in; decide) a0)
      refine Zw_if_eq 41 dX3_isUnder_19 (by decide) (fun c => absurd c (by decide)) (fun _ => ?_)
      refine Zw_iload_2 dX3_isUnder_22 ?_
      refine Zw_iload_1 dX3_isUnder_23 ?_
      refine Zw_icmp_ne 29 dX3_isUnder_24 (by decide) (fun c24_2 => ?_) (fun c24_2 => ?_)
      · refine Zw_getsN (t := 1) (by decide) (by decide +kernel) dX3_isUnder_29 ?_
        refine Zw_iload_2 dX3_isUnder_32 ?_
        refine Zw_tald (t := 1) (x := 0) dX3_isUnder_33 (by decide) (by first | assumption | exact vp_in_nI (by omega) (by omega) | (unfold vp_in; decide)) (by decide) ?_
        refine Zw_istore_2 dX3_isUnder_34 rfl ?_
        refine Zw_iinc_3 (y := 2) dX3_isUnder_35 rfl (by decide) ?_
        refine Zw_goto 7 dX3_isUnder_38 (by decide) ?_
        refine Zw_iload_3 dX3_isUnder_7 ?_
        refine Zw_bipush (v := 6) dX3_isUnder_8 (by decide) ?_
        refine Zw_icmp_ge 41 dX3_isUnder_10 (by decide) (fun c => absurd c (by decide)) (fun _ => ?_)
        refine Zw_iload_2 dX3_isUnder_13 ?_
        refine Zw_bipush (v := 6) dX3_isUnder_14 (by decide) ?_
        refine Zw_N2 (k := 0) lm_X3_24 dX3_isUnder_16 (by decide) (Nat.le_of_ble_eq_true rfl) ?_
        refine s_within 6 (by rfl) (fun _ => ?_) (fun a0 => absurd (by unfold vp_in; decide) a0)
        refine Zw_if_eq 41 dX3_isUnder_19 (by decide) (fun c => absurd c (by decide)) (fun _ => ?_)
        refine Zw_iload_2 dX3_isUnder_22 ?_
        refine Zw_iload_1 dX3_isUnder_23 ?_
        refine Zw_icmp_ne 29 dX3_isUnder_24 (by decide) (fun c24_3 => ?_) (fun c24_3 => ?_)
        · refine Zw_getsN (t := 1) (by decide) (by decide +kernel) dX3_isUnder_29 ?_
          refine Zw_iload_2 dX3_isUnder_32 ?_
          refine Zw_tald (t := 1) (x := (-1)) dX3_isUnder_33 (by decide) (by first | assumption | exact vp_in_nI (by omega) (by omega) | (unfold vp_in; decide)) (by decide) ?_
          refine Zw_istore_2 dX3_isUnder_34 rfl ?_
          refine Zw_iinc_3 (y := 3) dX3_isUnder_35 rfl (by decide) ?_
          refine Zw_goto 7 dX3_isUnder_38 (by decide) ?_
          refine Zw_iload_3 dX3_isUnder_7 ?_
          refine Zw_bipush (v := 6) dX3_isUnder_8 (by decide) ?_
          refine Zw_icmp_ge 41 dX3_isUnder_10 (by decide) (fun c => absurd c (by decide)) (fun _ => ?_)
          refine Zw_iload_2 dX3_isUnder_13 ?_
          refine Zw_bipush (v := 6) dX3_isUnder_14 (by decide) ?_
          refine Zw_N2 (k := 0) lm_X3_24 dX3_isUnder_16 (by decide) (Nat.le_of_ble_eq_true rfl) ?_
          refine s_within 6 (by rfl) (fun a1 => absurd a1 (by unfold vp_in; decide)) (fun _ => ?_)
          refine Zw_if_eq 41 dX3_isUnder_19 (by decide) (fun _ => ?_) (fun c => absurd c (by decide))
          refine Zw_iconst (v := 0) dX3_isUnder_41 (by decide) ?_
          refine Zw_ireturn dX3_isUnder_42 (by first | rfl | assumption) ?_
          exact h0 (by simp [q_under, Ne.symm c24, Ne.symm c24_2, Ne.symm c24_3])
        · refine Zw_iconst (v := 1) dX3_isUnder_27 (by decide) ?_
          refine Zw_ireturn dX3_isUnder_28 (by first | rfl | assumption) ?_
          exact h1 (by subst c24_3; decide)
      · refine Zw_iconst (v := 1) dX3_isUnder_27 (by decide) ?_
        refine Zw_ireturn dX3_isUnder_28 (by first | rfl | assumption) ?_
        exact h1 (by subst c24_2; decide)
    · refine Zw_iconst (v := 1) dX3_isUnder_27 (by decide) ?_
      refine Zw_ireturn dX3_isUnder_28 (by first | rfl | assumption) ?_
      exact h1 (by subst c24; decide)
  | 5, _, hkd =>
    refine Zw_aload_0 dX3_isUnder_0 ?_
    refine Zw_geti lf_X3_9 dX3_isUnder_1 (by first | decide | assumption | omega) (by first | rfl | assumption) (by rfl) ?_
    rw [hkd]
    show Zw _ _ _ _ _ _ _ _ (Value.int 5 :: _) _ _
    refine Zw_istore_2 dX3_isUnder_4 rfl ?_
    refine Zw_iconst (v := 0) dX3_isUnder_5 (by decide) ?_
    refine Zw_istore_3 dX3_isUnder_6 rfl ?_
    refine Zw_iload_3 dX3_isUnder_7 ?_
    refine Zw_bipush (v := 6) dX3_isUnder_8 (by decide) ?_
    refine Zw_icmp_ge 41 dX3_isUnder_10 (by decide) (fun c => absurd c (by decide)) (fun _ => ?_)
    refine Zw_iload_2 dX3_isUnder_13 ?_
    refine Zw_bipush (v := 6) dX3_isUnder_14 (by decide) ?_
    refine Zw_N2 (k := 0) lm_X3_24 dX3_isUnder_16 (by decide) (Nat.le_of_ble_eq_true rfl) ?_
    refine s_within 6 (by rfl) (fun _ => ?_) (fun a0 => absurd (by unfold vp_in; decide) a0)
    refine Zw_if_eq 41 dX3_isUnder_19 (by decide) (fun c => absurd c (by decide)) (fun _ => ?_)
    refine Zw_iload_2 dX3_isUnder_22 ?_
    refine Zw_iload_1 dX3_isUnder_23 ?_
    refine Zw_icmp_ne 29 dX3_isUnder_24 (by decide) (fun c24 => ?_) (fun c24 => ?_)
    · refine Zw_getsN (t := 1) (by decide) (by decide +kernel) dX3_isUnder_29 ?_
      refine Zw_iload_2 dX3_isUnder_32 ?_
      refine Zw_tald (t := 1) (x := 0) dX3_isUnder_33 (by decide) (by first | assumption | exact vp_in_nI (by omega) (by omega) | (unfold vp_in; decide)) (by decide) ?_
      refine Zw_istore_2 dX3_isUnder_34 rfl ?_
      refine Zw_iinc_3 (y := 1) dX3_isUnder_35 rfl (by decide) ?_
      refine Zw_goto 7 dX3_isUnder_38 (by decide) ?_
      refine Zw_iload_3 dX3_isUnder_7 ?_
      refine Zw_bipush (v := 6) dX3_isUnder_8 (by decide) ?_
      refine Zw_icmp_ge 41 dX3_isUnder_10 (by decide) (fun c => absurd c (by decide)) (fun _ => ?_)
      refine Zw_iload_2 dX3_isUnder_13 ?_
      refine Zw_bipush (v := 6) dX3_isUnder_14 (by decide) ?_
      refine Zw_N2 (k := 0) lm_X3_24 dX3_isUnder_16 (by decide) (Nat.le_of_ble_eq_true rfl) ?_
      refine s_within 6 (by rfl) (fun _ => ?_) (fun a0 => absurd (by unfold vp_in; decide) a0)
      refine Zw_if_eq 41 dX3_isUnder_19 (by decide) (fun c => absurd c (by decide)) (fun _ => ?_)
      refine Zw_iload_2 dX3_isUnder_22 ?_
      refine Zw_iload_1 dX3_isUnder_23 ?_
      refine Zw_icmp_ne 29 dX3_isUnder_24 (by decide) (fun c24_2 => ?_) (fun c24_2 => ?_)
      · refine Zw_getsN (t := 1) (by decide) (by decide +kernel) dX3_isUnder_29 ?_
        refine Zw_iload_2 dX3_isUnder_32 ?_
        refine Zw_tald (t := 1) (x := (-1)) dX3_isUnder_33 (by decide) (by first | assumption | exact vp_in_nI (by omega) (by omega) | (unfold vp_in; decide)) (by decide) ?_
        refine Zw_istore_2 dX3_isUnder_34 rfl ?_
        refine Zw_iinc_3 (y := 2) dX3_isUnder_35 rfl (by decide) ?_
        refine Zw_goto 7 dX3_isUnder_38 (by decide) ?_
        refine Zw_iload_3 dX3_isUnder_7 ?_
        refine Zw_bipush (v := 6) dX3_isUnder_8 (by decide) ?_
        refine Zw_icmp_ge 41 dX3_isUnder_10 (by decide) (fun c => absurd c (by decide)) (fun _ => ?_)
        refine Zw_iload_2 dX3_isUnder_13 ?_
        refine Zw_bipush (v := 6) dX3_isUnder_14 (by decide) ?_
        refine Zw_N2 (k := 0) lm_X3_24 dX3_isUnder_16 (by decide) (Nat.le_of_ble_eq_true rfl) ?_
        refine s_within 6 (by rfl) (fun a1 => absurd a1 (by unfold vp_in; decide)) (fun _ => ?_)
        refine Zw_if_eq 41 dX3_isUnder_19 (by decide) (fun _ => ?_) (fun c => absurd c (by decide))
        refine Zw_iconst (v := 0) dX3_isUnder_41 (by decide) ?_
        refine Zw_ireturn dX3_isUnder_42 (by first | rfl | assumption) ?_
        exact h0 (by simp [q_under, Ne.symm c24, Ne.symm c24_2])
      · refine Zw_iconst (v := 1) dX3_isUnder_27 (by decide) ?_
        refine Zw_ireturn dX3_isUnder_28 (by first | rfl | assumption) ?_
        exact h1 (by subst c24_2; decide)
    · refine Zw_iconst (v := 1) dX3_isUnder_27 (by decide) ?_
      refine Zw_ireturn dX3_isUnder_28 (by first | rfl | assumption) ?_
      exact h1 (by subst c24; decide)
  | n + 6, hc, _ => exact absurd hc (by omega)
