set_option maxRecDepth 20000 in
theorem l_pick {Q : zQ} {μ : zMu} {τ : Int64} {p R : Nat} {s : Int32} (h : Q (some (.int (nI R))) μ τ) : ∀ m i ah, 8 - i < m → i ≤ 8 → q_pk s p (8 - i) i ah = R → Zw 3 RX9 cX9_pickFrom 8 (some .int) Q 31 [.ref 42, .int (nI p), .null, .null, .int s, .null, .int ah, .int (nI i)] [] μ τ
  | 0, i, _, hm, _, _ => absurd hm (by omega)
  | m + 1, i, ah, hm, hi, hV => by
    refine Zw_iload_7 dX9_pickFrom_31 ?_
    refine Zw_bipush (v := 8) dX9_pickFrom_33 (by decide) ?_
    refine Zw_nicmp_ge (i) (8) 65 dX9_pickFrom_35 (by decide) rfl rfl (by omega) (by omega) (fun c35 => ?_) (fun c35 => ?_)
    · refine Zw_iload_1 dX9_pickFrom_65 ?_
      refine Zw_ireturn dX9_pickFrom_66 (by first | rfl | assumption) ?_
      rw [show 8 - i = 0 by omega] at hV
      change p = R at hV
      subst hV
      exact h
    · refine Zw_iload_4 dX9_pickFrom_38 ?_
      refine Zw_iload_7 dX9_pickFrom_40 ?_
      refine Zw_ishr dX9_pickFrom_42 ?_
      refine Zw_iconst (v := 1) dX9_pickFrom_43 (by decide) ?_
      refine Zw_iand dX9_pickFrom_44 ?_
      refine Zw_if_eq 59 dX9_pickFrom_45 (by decide) (fun c45 => ?_) (fun c45 => ?_)
      · refine Zw_iinc_7 dX9_pickFrom_59 rfl (zincn _) ?_
        refine Zw_goto 31 dX9_pickFrom_62 (by decide) ?_
        refine l_pick h m (i + 1) _ (by omega) (by omega) ?_
        rw [← hV, show 8 - i = (8 - (i + 1)) + 1 by omega]
        rw [q_pk_s]
        simp [q_has, c45]
      · refine Zw_iload_6 dX9_pickFrom_48 ?_
        refine Zw_if_ne 56 dX9_pickFrom_50 (by decide) (fun c50 => ?_) (fun c50 => ?_)
        · refine Zw_iinc_6 dX9_pickFrom_56 rfl (zincm1 _) ?_
          refine Zw_iinc_7 dX9_pickFrom_59 rfl (zincn _) ?_
          refine Zw_goto 31 dX9_pickFrom_62 (by decide) ?_
          refine l_pick h m (i + 1) _ (by omega) (by omega) ?_
          rw [← hV, show 8 - i = (8 - (i + 1)) + 1 by omega]
          rw [q_pk_s]
          simp [q_has, c45, c50]
        · refine Zw_iload_7 dX9_pickFrom_53 ?_
          refine Zw_ireturn dX9_pickFrom_55 (by first | rfl | assumption) ?_
          rw [show 8 - i = (8 - (i + 1)) + 1 by omega, q_pk_s] at hV
          simp [q_has, c45, c50] at hV
          subst hV
          exact h
set_option maxRecDepth 20000 in
theorem s_pick {p cnt t : Nat} {wk z : Int32} {Q : zQ} {μ : zMu} {τ : Int64} (hp : p < 8) (hr : x_rl μ cnt t) (h : ∀ μ2, zOff [19, 20] μ μ2 → Q (some (.int (nI (q_pick (q_next (xs μ t) (μ 2) (μ 1 4) wk p) p z)))) μ2 τ) : Zc 3 yX9_pickFrom cX9_pickFrom 8 (some .int) [.ref 42, .int (nI p), .int wk, .int z] μ τ Q := by
  refine Zc.mk 4 [.ref 42, .int (nI p), .int wk, .int z, .null, .null, .null, .null] rfl (by decide) (Nat.le_of_ble_eq_true rfl) ?_
  refine Zw_aload_0 dX9_pickFrom_0 ?_
  refine Zw_iload_1 dX9_pickFrom_1 ?_
  refine Zw_iload_2 dX9_pickFrom_2 ?_
  refine Zw_V2 (k := 2) lm_X9_23 dX9_pickFrom_3 (by decide) (by first | decide | assumption | omega) (by first | rfl | assumption) (by rfl) (Nat.le_of_ble_eq_true rfl) ?_
  refine s_next hp hr (fun μ1 hO1 => ?_)
  generalize hS : q_next (xs μ t) (μ 2) (μ 1 4) wk p = S at h ⊢
  refine Zw_istore_4 dX9_pickFrom_6 rfl ?_
  refine Zw_iconst (v := 1) dX9_pickFrom_8 (by decide) ?_
  refine Zw_iload_4 dX9_pickFrom_9 ?_
  refine Zw_S1 (k := 0) lm_X9_60 dX9_pickFrom_11 (by decide) (Nat.le_of_ble_eq_true rfl) ?_
  refine s_bitCount ?_
  refine Zw_max lcm_X9_91 dX9_pickFrom_14 (by decide) (Nat.le_of_ble_eq_true rfl) ?_
  refine Zw_istore_5 dX9_pickFrom_17 rfl ?_
  refine Zw_iload_3 dX9_pickFrom_19 ?_
  refine Zw_bipush (v := 9) dX9_pickFrom_20 (by decide) ?_
  refine Zw_iushr dX9_pickFrom_22 ?_
  refine Zw_iload_5 dX9_pickFrom_23 ?_
  have hne := q_ways_ne S
  unfold q_ways at hne
  refine Zw_irem dX9_pickFrom_25 (by first | decide | assumption) ?_
  refine Zw_istore_6 dX9_pickFrom_26 rfl ?_
  refine Zw_iconst (v := 0) dX9_pickFrom_28 (by decide) ?_
  refine Zw_istore_7 dX9_pickFrom_29 rfl ?_
  refine Zw_drop (L' := [.ref 42, .int (nI p), .null, .null, .int S, .null, .int (q_z9 z - q_z9 z / q_ways S * q_ways S), .int (nI 0)]) ⟨Or.inr rfl, Or.inr rfl, Or.inl rfl, Or.inl rfl, Or.inr rfl, Or.inl rfl, Or.inr rfl, Or.inr rfl, trivial⟩ (Nat.le_of_ble_eq_true rfl) ?_
  exact l_pick (h μ1 hO1) 9 0 _ (by omega) (by omega) rfl
