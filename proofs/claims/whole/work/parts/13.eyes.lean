section ZNI
variable {d : Nat} {own : String} {cc : ByteArray} {nL : Nat} {rt : Option FieldType} {Q : zQ} {pc : Nat} {L st : List Value} {μ : zMu} {τ : Int64} {x : Int32}
theorem nI_z {a : Nat} (ha : a < 2 ^ 31) : nI a = 0 ↔ a = 0 := by
  constructor
  · intro h; exact (nI_eq ha (by decide : 0 < 2 ^ 31)).mp h
  · intro h; subst h; rfl
theorem Zw_nif_eq {off : Int} (a tgt : Nat) (hd : decode cc pc = .ok (.ifCond .eq off, 3)) (ht : (pc : Int) + off = (tgt : Int)) (hx : x = nI a) (ha : a < 2 ^ 31) (h1 : a = 0 → Zw d own cc nL rt Q tgt L st μ τ) (h2 : a ≠ 0 → Zw d own cc nL rt Q (pc + 3) L st μ τ) : Zw d own cc nL rt Q pc L (.int x :: st) μ τ := by
  subst hx
  exact Zw_if_eq tgt hd ht (fun c => h1 ((nI_z ha).mp c)) (fun c => h2 (fun e => c ((nI_z ha).mpr e)))
theorem Zw_nif_ne {off : Int} (a tgt : Nat) (hd : decode cc pc = .ok (.ifCond .ne off, 3)) (ht : (pc : Int) + off = (tgt : Int)) (hx : x = nI a) (ha : a < 2 ^ 31) (h1 : a ≠ 0 → Zw d own cc nL rt Q tgt L st μ τ) (h2 : a = 0 → Zw d own cc nL rt Q (pc + 3) L st μ τ) : Zw d own cc nL rt Q pc L (.int x :: st) μ τ := by
  subst hx
  exact Zw_if_ne tgt hd ht (fun c => h1 (fun e => c ((nI_z ha).mpr e))) (fun c => h2 ((nI_z ha).mp c))
end ZNI
set_option maxRecDepth 20000 in
theorem s_see0 {k p w nu cnt t : Nat} {Q : zQ} {μ : zMu} {τ : Int64} (hk : k < 78) (hs : zSh k = .inl (3, [0, 0, 0, 0])) (hk19 : k < 19) (hp : p < 8) (hw : w < 2 ^ 31) (hr : x_rl μ cnt t) (hkd : μ k 0 = nI 0) (hnu : μ k 1 = nI nu) (hn10 : nu < 10) (h1 : q_sees (xs μ t) (μ 2) (μ 1 4) w 0 nu p = true → ∀ μ2, zOff [19, 20] μ μ2 → Q (some (.int 1)) μ2 τ) (h0 : q_sees (xs μ t) (μ 2) (μ 1 4) w 0 nu p = false → ∀ μ2, zOff [19, 20] μ μ2 → Q (some (.int 0)) μ2 τ) : Zc 2 yX9_wouldSee cX9_wouldSee 5 (some .boolean) [.ref 42, .ref k, .int (nI p), .int (nI w)] μ τ Q := by
  refine Zc.mk 1 [.ref 42, .ref k, .int (nI p), .int (nI w), .null] rfl (by decide) (Nat.le_of_ble_eq_true rfl) ?_
  refine Zw_aload_0 dX9_wouldSee_0 ?_
  refine Zw_iload_2 dX9_wouldSee_1 ?_
  refine Zw_iload_3 dX9_wouldSee_2 ?_
  refine Zw_aload_1 dX9_wouldSee_3 ?_
  refine Zw_getv (nI nu) lf_X9_69 dX9_wouldSee_4 (by first | decide | assumption | omega) (by first | rfl | assumption) (by rfl) hnu ?_
  refine Zw_V3 (k := 1) lm_X9_46 dX9_wouldSee_7 (by decide) (by first | decide | assumption | omega) (by first | rfl | assumption) (by rfl) (Nat.le_of_ble_eq_true rfl) ?_
  refine s_askOf hp (fun μ1 hO1 hE1 => ?_)
  have hr1 := hr.off (hO1.sc (by decide))
  have hsy : xsay μ1 t 2 (μ1 19) (μ1 20) = xs μ t 2 (q_env (nI p) 0 (nI w) (nI nu) (q_bc (μ 2 p)) (μ 1 4)) := xsay_xs (by have := hr.2.1; have := hr.2.2.2.1; omega) (hO1.sc (by decide)) hE1
  refine Zw_aload_0 dX9_wouldSee_10 ?_
  refine Zw_getr 17 lf_X9_19 dX9_wouldSee_11 (by first | decide | assumption | omega) (by first | rfl | assumption) (by rfl) ?_
  refine Zw_aload_0 dX9_wouldSee_14 ?_
  refine Zw_getr 1 lf_X9_15 dX9_wouldSee_15 (by first | decide | assumption | omega) (by first | rfl | assumption) (by rfl) ?_
  refine Zw_getv (nI t) lf_X9_27 dX9_wouldSee_18 (by first | decide | assumption | omega) (by first | rfl | assumption) (by rfl) hr1.2.2.1 ?_
  refine Zw_iconst (v := 2) dX9_wouldSee_21 (by decide) ?_
  refine Zw_V2 (k := 1) lm_X9_56 dX9_wouldSee_22 (by decide) (by first | decide | assumption | omega) (by first | rfl | assumption) (by rfl) (Nat.le_of_ble_eq_true rfl) ?_
  refine s_says2 cnt t hr1.1 hr1.2.1 hr1.2.2.2.1 hr1.2.2.2.2 (fun d1 f1 => ?_) (fun d0 f1 => ?_)
  · rw [hsy] at d1
    refine Zw_istore_4 dX9_wouldSee_25 rfl ?_
    refine Zw_aload_1 dX9_wouldSee_27 ?_
    refine Zw_getv (0) lf_X9_74 dX9_wouldSee_28 (by first | decide | assumption | omega) (by first | rfl | assumption) (by rfl) (by rw [zar_ne (by omega), hO1 k (by simp; omega)]; exact hkd) ?_
    refine Zw_swk 149 0 [64, 67, 89, 106, 126] dX9_wouldSee_31 (by decide) (by decide) (by decide) (by decide) (by rfl) ?_
    refine Zw_iload_4 dX9_wouldSee_64 ?_
    refine Zw_ireturn dX9_wouldSee_66 (by first | rfl | assumption) ?_
    exact h1 (by simp [q_sees, q_see, d1]) _ (((hO1.sub (by simp)).ar (by simp)))
  · rw [hsy] at d0
    refine Zw_istore_4 dX9_wouldSee_25 rfl ?_
    refine Zw_aload_1 dX9_wouldSee_27 ?_
    refine Zw_getv (0) lf_X9_74 dX9_wouldSee_28 (by first | decide | assumption | omega) (by first | rfl | assumption) (by rfl) (by rw [zar_ne (by omega), hO1 k (by simp; omega)]; exact hkd) ?_
    refine Zw_swk 149 0 [64, 67, 89, 106, 126] dX9_wouldSee_31 (by decide) (by decide) (by decide) (by decide) (by rfl) ?_
    refine Zw_iload_4 dX9_wouldSee_64 ?_
    refine Zw_ireturn dX9_wouldSee_66 (by first | rfl | assumption) ?_
    exact h0 (by simp [q_sees, q_see, d0]) _ (((hO1.sub (by simp)).ar (by simp)))
set_option maxRecDepth 20000 in
theorem s_see1 {k p w nu cnt t : Nat} {Q : zQ} {μ : zMu} {τ : Int64} (hk : k < 78) (hs : zSh k = .inl (3, [0, 0, 0, 0])) (hk19 : k < 19) (hp : p < 8) (hw : w < 2 ^ 31) (hr : x_rl μ cnt t) (hkd : μ k 0 = nI 1) (hnu : μ k 1 = nI nu) (hn10 : nu < 10) (h1 : q_sees (xs μ t) (μ 2) (μ 1 4) w 1 nu p = true → ∀ μ2, zOff [19, 20] μ μ2 → Q (some (.int 1)) μ2 τ) (h0 : q_sees (xs μ t) (μ 2) (μ 1 4) w 1 nu p = false → ∀ μ2, zOff [19, 20] μ μ2 → Q (some (.int 0)) μ2 τ) : Zc 2 yX9_wouldSee cX9_wouldSee 5 (some .boolean) [.ref 42, .ref k, .int (nI p), .int (nI w)] μ τ Q := by
  refine Zc.mk 1 [.ref 42, .ref k, .int (nI p), .int (nI w), .null] rfl (by decide) (Nat.le_of_ble_eq_true rfl) ?_
  refine Zw_aload_0 dX9_wouldSee_0 ?_
  refine Zw_iload_2 dX9_wouldSee_1 ?_
  refine Zw_iload_3 dX9_wouldSee_2 ?_
  refine Zw_aload_1 dX9_wouldSee_3 ?_
  refine Zw_getv (nI nu) lf_X9_69 dX9_wouldSee_4 (by first | decide | assumption | omega) (by first | rfl | assumption) (by rfl) hnu ?_
  refine Zw_V3 (k := 1) lm_X9_46 dX9_wouldSee_7 (by decide) (by first | decide | assumption | omega) (by first | rfl | assumption) (by rfl) (Nat.le_of_ble_eq_true rfl) ?_
  refine s_askOf hp (fun μ1 hO1 hE1 => ?_)
  have hr1 := hr.off (hO1.sc (by decide))
  have hsy : xsay μ1 t 2 (μ1 19) (μ1 20) = xs μ t 2 (q_env (nI p) 0 (nI w) (nI nu) (q_bc (μ 2 p)) (μ 1 4)) := xsay_xs (by have := hr.2.1; have := hr.2.2.2.1; omega) (hO1.sc (by decide)) hE1
  refine Zw_aload_0 dX9_wouldSee_10 ?_
  refine Zw_getr 17 lf_X9_19 dX9_wouldSee_11 (by first | decide | assumption | omega) (by first | rfl | assumption) (by rfl) ?_
  refine Zw_aload_0 dX9_wouldSee_14 ?_
  refine Zw_getr 1 lf_X9_15 dX9_wouldSee_15 (by first | decide | assumption | omega) (by first | rfl | assumption) (by rfl) ?_
  refine Zw_getv (nI t) lf_X9_27 dX9_wouldSee_18 (by first | decide | assumption | omega) (by first | rfl | assumption) (by rfl) hr1.2.2.1 ?_
  refine Zw_iconst (v := 2) dX9_wouldSee_21 (by decide) ?_
  refine Zw_V2 (k := 1) lm_X9_56 dX9_wouldSee_22 (by decide) (by first | decide | assumption | omega) (by first | rfl | assumption) (by rfl) (Nat.le_of_ble_eq_true rfl) ?_
  refine s_says2 cnt t hr1.1 hr1.2.1 hr1.2.2.2.1 hr1.2.2.2.2 (fun d1 f1 => ?_) (fun d0 f1 => ?_)
  · rw [hsy] at d1
    refine Zw_istore_4 dX9_wouldSee_25 rfl ?_
    refine Zw_aload_1 dX9_wouldSee_27 ?_
    refine Zw_getv (1) lf_X9_74 dX9_wouldSee_28 (by first | decide | assumption | omega) (by first | rfl | assumption) (by rfl) (by rw [zar_ne (by omega), hO1 k (by simp; omega)]; exact hkd) ?_
    refine Zw_swk 149 1 [64, 67, 89, 106, 126] dX9_wouldSee_31 (by decide) (by decide) (by decide) (by decide) (by rfl) ?_
    refine Zw_iload_4 dX9_wouldSee_67 ?_
    refine Zw_if_ne 83 dX9_wouldSee_69 (by decide) (fun _ => ?_) (fun c => absurd c (by decide))
    refine Zw_iconst (v := 1) dX9_wouldSee_83 (by decide) ?_
    refine Zw_goto 88 dX9_wouldSee_84 (by decide) ?_
    refine Zw_ireturn dX9_wouldSee_88 (by first | rfl | assumption) ?_
    exact h1 (by simp [q_sees, q_see, d1]) _ (((hO1.sub (by simp)).ar (by simp)))
  · rw [hsy] at d0
    refine Zw_istore_4 dX9_wouldSee_25 rfl ?_
    refine Zw_aload_1 dX9_wouldSee_27 ?_
    refine Zw_getv (1) lf_X9_74 dX9_wouldSee_28 (by first | decide | assumption | omega) (by first | rfl | assumption) (by rfl) (by rw [zar_ne (by omega), hO1 k (by simp; omega)]; exact hkd) ?_
    refine Zw_swk 149 1 [64, 67, 89, 106, 126] dX9_wouldSee_31 (by decide) (by decide) (by decide) (by decide) (by rfl) ?_
    refine Zw_iload_4 dX9_wouldSee_67 ?_
    refine Zw_if_ne 83 dX9_wouldSee_69 (by decide) (fun c => absurd c (by decide)) (fun _ => ?_)
    refine Zw_iload_2 dX9_wouldSee_72 ?_
    refine Zw_aload_1 dX9_wouldSee_73 ?_
    refine Zw_getv (nI nu) lf_X9_69 dX9_wouldSee_74 (by first | decide | assumption | omega) (by first | rfl | assumption) (by rfl) (by rw [zar_ne (by omega), hO1 k (by simp; omega)]; exact hnu) ?_
    refine Zw_bipush (v := 8) dX9_wouldSee_77 (by decide) ?_
    refine Zw_nrem (nu) (8) dX9_wouldSee_79 rfl rfl (by omega) (by omega) (by omega) ?_
    refine Zw_nicmp_ne (p) ((nu % 8)) 87 dX9_wouldSee_80 (by decide) rfl rfl (by omega) (by omega) (fun c80 => ?_) (fun c80 => ?_)
    · refine Zw_iconst (v := 0) dX9_wouldSee_87 (by decide) ?_
      refine Zw_ireturn dX9_wouldSee_88 (by first | rfl | assumption) ?_
      exact h0 (by simp [q_sees, q_see, d0, c80]) _ (((hO1.sub (by simp)).ar (by simp)))
    · refine Zw_iconst (v := 1) dX9_wouldSee_83 (by decide) ?_
      refine Zw_goto 88 dX9_wouldSee_84 (by decide) ?_
      refine Zw_ireturn dX9_wouldSee_88 (by first | rfl | assumption) ?_
      exact h1 (by simp [q_sees, q_see, d0, c80]) _ (((hO1.sub (by simp)).ar (by simp)))
set_option maxRecDepth 20000 in
theorem s_see2 {k p w nu cnt t : Nat} {Q : zQ} {μ : zMu} {τ : Int64} (hk : k < 78) (hs : zSh k = .inl (3, [0, 0, 0, 0])) (hk19 : k < 19) (hp : p < 8) (hw : w < 2 ^ 31) (hr : x_rl μ cnt t) (hkd : μ k 0 = nI 2) (hnu : μ k 1 = nI nu) (hn10 : nu < 10) (h1 : q_sees (xs μ t) (μ 2) (μ 1 4) w 2 nu p = true → ∀ μ2, zOff [19, 20] μ μ2 → Q (some (.int 1)) μ2 τ) (h0 : q_sees (xs μ t) (μ 2) (μ 1 4) w 2 nu p = false → ∀ μ2, zOff [19, 20] μ μ2 → Q (some (.int 0)) μ2 τ) : Zc 2 yX9_wouldSee cX9_wouldSee 5 (some .boolean) [.ref 42, .ref k, .int (nI p), .int (nI w)] μ τ Q := by
  refine Zc.mk 1 [.ref 42, .ref k, .int (nI p), .int (nI w), .null] rfl (by decide) (Nat.le_of_ble_eq_true rfl) ?_
  refine Zw_aload_0 dX9_wouldSee_0 ?_
  refine Zw_iload_2 dX9_wouldSee_1 ?_
  refine Zw_iload_3 dX9_wouldSee_2 ?_
  refine Zw_aload_1 dX9_wouldSee_3 ?_
  refine Zw_getv (nI nu) lf_X9_69 dX9_wouldSee_4 (by first | decide | assumption | omega) (by first | rfl | assumption) (by rfl) hnu ?_
  refine Zw_V3 (k := 1) lm_X9_46 dX9_wouldSee_7 (by decide) (by first | decide | assumption | omega) (by first | rfl | assumption) (by rfl) (Nat.le_of_ble_eq_true rfl) ?_
  refine s_askOf hp (fun μ1 hO1 hE1 => ?_)
  have hr1 := hr.off (hO1.sc (by decide))
  have hsy : xsay μ1 t 2 (μ1 19) (μ1 20) = xs μ t 2 (q_env (nI p) 0 (nI w) (nI nu) (q_bc (μ 2 p)) (μ 1 4)) := xsay_xs (by have := hr.2.1; have := hr.2.2.2.1; omega) (hO1.sc (by decide)) hE1
  refine Zw_aload_0 dX9_wouldSee_10 ?_
  refine Zw_getr 17 lf_X9_19 dX9_wouldSee_11 (by first | decide | assumption | omega) (by first | rfl | assumption) (by rfl) ?_
  refine Zw_aload_0 dX9_wouldSee_14 ?_
  refine Zw_getr 1 lf_X9_15 dX9_wouldSee_15 (by first | decide | assumption | omega) (by first | rfl | assumption) (by rfl) ?_
  refine Zw_getv (nI t) lf_X9_27 dX9_wouldSee_18 (by first | decide | assumption | omega) (by first | rfl | assumption) (by rfl) hr1.2.2.1 ?_
  refine Zw_iconst (v := 2) dX9_wouldSee_21 (by decide) ?_
  refine Zw_V2 (k := 1) lm_X9_56 dX9_wouldSee_22 (by decide) (by first | decide | assumption | omega) (by first | rfl | assumption) (by rfl) (Nat.le_of_ble_eq_true rfl) ?_
  refine s_says2 cnt t hr1.1 hr1.2.1 hr1.2.2.2.1 hr1.2.2.2.2 (fun d1 f1 => ?_) (fun d0 f1 => ?_)
  · rw [hsy] at d1
    refine Zw_istore_4 dX9_wouldSee_25 rfl ?_
    refine Zw_aload_1 dX9_wouldSee_27 ?_
    refine Zw_getv (2) lf_X9_74 dX9_wouldSee_28 (by first | decide | assumption | omega) (by first | rfl | assumption) (by rfl) (by rw [zar_ne (by omega), hO1 k (by simp; omega)]; exact hkd) ?_
    refine Zw_swk 149 2 [64, 67, 89, 106, 126] dX9_wouldSee_31 (by decide) (by decide) (by decide) (by decide) (by rfl) ?_
    refine Zw_iload_4 dX9_wouldSee_89 ?_
    refine Zw_if_eq 104 dX9_wouldSee_91 (by decide) (fun c => absurd c (by decide)) (fun _ => ?_)
    refine Zw_iload_2 dX9_wouldSee_94 ?_
    refine Zw_iconst (v := 2) dX9_wouldSee_95 (by decide) ?_
    refine Zw_nrem (p) (2) dX9_wouldSee_96 rfl rfl (by omega) (by omega) (by omega) ?_
    refine Zw_nif_ne ((p % 2)) 104 dX9_wouldSee_97 (by decide) rfl (by omega) (fun c97 => ?_) (fun c97 => ?_)
    · refine Zw_iconst (v := 0) dX9_wouldSee_104 (by decide) ?_
      refine Zw_ireturn dX9_wouldSee_105 (by first | rfl | assumption) ?_
      exact h0 (by simp [q_sees, q_see, d1, c97]) _ (((hO1.sub (by simp)).ar (by simp)))
    · refine Zw_iconst (v := 1) dX9_wouldSee_100 (by decide) ?_
      refine Zw_goto 105 dX9_wouldSee_101 (by decide) ?_
      refine Zw_ireturn dX9_wouldSee_105 (by first | rfl | assumption) ?_
      exact h1 (by simp [q_sees, q_see, d1, c97]) _ (((hO1.sub (by simp)).ar (by simp)))
  · rw [hsy] at d0
    refine Zw_istore_4 dX9_wouldSee_25 rfl ?_
    refine Zw_aload_1 dX9_wouldSee_27 ?_
    refine Zw_getv (2) lf_X9_74 dX9_wouldSee_28 (by first | decide | assumption | omega) (by first | rfl | assumption) (by rfl) (by rw [zar_ne (by omega), hO1 k (by simp; omega)]; exact hkd) ?_
    refine Zw_swk 149 2 [64, 67, 89, 106, 126] dX9_wouldSee_31 (by decide) (by decide) (by decide) (by decide) (by rfl) ?_
    refine Zw_iload_4 dX9_wouldSee_89 ?_
    refine Zw_if_eq 104 dX9_wouldSee_91 (by decide) (fun _ => ?_) (fun c => absurd c (by decide))
    refine Zw_iconst (v := 0) dX9_wouldSee_104 (by decide) ?_
    refine Zw_ireturn dX9_wouldSee_105 (by first | rfl | assumption) ?_
    exact h0 (by simp [q_sees, q_see, d0]) _ (((hO1.sub (by simp)).ar (by simp)))
set_option maxRecDepth 20000 in
theorem s_see3 {k p w nu cnt t : Nat} {Q : zQ} {μ : zMu} {τ : Int64} (hk : k < 78) (hs : zSh k = .inl (3, [0, 0, 0, 0])) (hk19 : k < 19) (hp : p < 8) (hw : w < 2 ^ 31) (hr : x_rl μ cnt t) (hkd : μ k 0 = nI 3) (hnu : μ k 1 = nI nu) (hn10 : nu < 10) (h1 : q_sees (xs μ t) (μ 2) (μ 1 4) w 3 nu p = true → ∀ μ2, zOff [19, 20] μ μ2 → Q (some (.int 1)) μ2 τ) (h0 : q_sees (xs μ t) (μ 2) (μ 1 4) w 3 nu p = false → ∀ μ2, zOff [19, 20] μ μ2 → Q (some (.int 0)) μ2 τ) : Zc 2 yX9_wouldSee cX9_wouldSee 5 (some .boolean) [.ref 42, .ref k, .int (nI p), .int (nI w)] μ τ Q := by
  refine Zc.mk 1 [.ref 42, .ref k, .int (nI p), .int (nI w), .null] rfl (by decide) (Nat.le_of_ble_eq_true rfl) ?_
  refine Zw_aload_0 dX9_wouldSee_0 ?_
  refine Zw_iload_2 dX9_wouldSee_1 ?_
  refine Zw_iload_3 dX9_wouldSee_2 ?_
  refine Zw_aload_1 dX9_wouldSee_3 ?_
  refine Zw_getv (nI nu) lf_X9_69 dX9_wouldSee_4 (by first | decide | assumption | omega) (by first | rfl | assumption) (by rfl) hnu ?_
  refine Zw_V3 (k := 1) lm_X9_46 dX9_wouldSee_7 (by decide) (by first | decide | assumption | omega) (by first | rfl | assumption) (by rfl) (Nat.le_of_ble_eq_true rfl) ?_
  refine s_askOf hp (fun μ1 hO1 hE1 => ?_)
  have hr1 := hr.off (hO1.sc (by decide))
  have hsy : xsay μ1 t 2 (μ1 19) (μ1 20) = xs μ t 2 (q_env (nI p) 0 (nI w) (nI nu) (q_bc (μ 2 p)) (μ 1 4)) := xsay_xs (by have := hr.2.1; have := hr.2.2.2.1; omega) (hO1.sc (by decide)) hE1
  refine Zw_aload_0 dX9_wouldSee_10 ?_
  refine Zw_getr 17 lf_X9_19 dX9_wouldSee_11 (by first | decide | assumption | omega) (by first | rfl | assumption) (by rfl) ?_
  refine Zw_aload_0 dX9_wouldSee_14 ?_
  refine Zw_getr 1 lf_X9_15 dX9_wouldSee_15 (by first | decide | assumption | omega) (by first | rfl | assumption) (by rfl) ?_
  refine Zw_getv (nI t) lf_X9_27 dX9_wouldSee_18 (by first | decide | assumption | omega) (by first | rfl | assumption) (by rfl) hr1.2.2.1 ?_
  refine Zw_iconst (v := 2) dX9_wouldSee_21 (by decide) ?_
  refine Zw_V2 (k := 1) lm_X9_56 dX9_wouldSee_22 (by decide) (by first | decide | assumption | omega) (by first | rfl | assumption) (by rfl) (Nat.le_of_ble_eq_true rfl) ?_
  refine s_says2 cnt t hr1.1 hr1.2.1 hr1.2.2.2.1 hr1.2.2.2.2 (fun d1 f1 => ?_) (fun d0 f1 => ?_)
  · rw [hsy] at d1
    refine Zw_istore_4 dX9_wouldSee_25 rfl ?_
    refine Zw_aload_1 dX9_wouldSee_27 ?_
    refine Zw_getv (3) lf_X9_74 dX9_wouldSee_28 (by first | decide | assumption | omega) (by first | rfl | assumption) (by rfl) (by rw [zar_ne (by omega), hO1 k (by simp; omega)]; exact hkd) ?_
    refine Zw_swk 149 3 [64, 67, 89, 106, 126] dX9_wouldSee_31 (by decide) (by decide) (by decide) (by decide) (by rfl) ?_
    refine Zw_aload_0 dX9_wouldSee_106 ?_
    refine Zw_getr 1 lf_X9_15 dX9_wouldSee_107 (by first | decide | assumption | omega) (by first | rfl | assumption) (by rfl) ?_
    refine Zw_getv (μ 1 4) lf_X9_66 dX9_wouldSee_110 (by first | decide | assumption | omega) (by first | rfl | assumption) (by rfl) (by rw [zar_ne (by decide), hO1 1 (by simp)]) ?_
    refine Zw_aload_1 dX9_wouldSee_113 ?_
    refine Zw_getv (nI nu) lf_X9_69 dX9_wouldSee_114 (by first | decide | assumption | omega) (by first | rfl | assumption) (by rfl) (by rw [zar_ne (by omega), hO1 k (by simp; omega)]; exact hnu) ?_
    refine Zw_icmp_eq 124 dX9_wouldSee_117 (by decide) (fun c117 => ?_) (fun c117 => ?_)
    · refine Zw_iconst (v := 0) dX9_wouldSee_124 (by decide) ?_
      refine Zw_ireturn dX9_wouldSee_125 (by first | rfl | assumption) ?_
      exact h0 (by simp [q_sees, q_see, d1, c117]) _ (((hO1.sub (by simp)).ar (by simp)))
    · refine Zw_iconst (v := 1) dX9_wouldSee_120 (by decide) ?_
      refine Zw_goto 125 dX9_wouldSee_121 (by decide) ?_
      refine Zw_ireturn dX9_wouldSee_125 (by first | rfl | assumption) ?_
      exact h1 (by simp [q_sees, q_see, d1, c117]) _ (((hO1.sub (by simp)).ar (by simp)))
  · rw [hsy] at d0
    refine Zw_istore_4 dX9_wouldSee_25 rfl ?_
    refine Zw_aload_1 dX9_wouldSee_27 ?_
    refine Zw_getv (3) lf_X9_74 dX9_wouldSee_28 (by first | decide | assumption | omega) (by first | rfl | assumption) (by rfl) (by rw [zar_ne (by omega), hO1 k (by simp; omega)]; exact hkd) ?_
    refine Zw_swk 149 3 [64, 67, 89, 106, 126] dX9_wouldSee_31 (by decide) (by decide) (by decide) (by decide) (by rfl) ?_
    refine Zw_aload_0 dX9_wouldSee_106 ?_
    refine Zw_getr 1 lf_X9_15 dX9_wouldSee_107 (by first | decide | assumption | omega) (by first | rfl | assumption) (by rfl) ?_
    refine Zw_getv (μ 1 4) lf_X9_66 dX9_wouldSee_110 (by first | decide | assumption | omega) (by first | rfl | assumption) (by rfl) (by rw [zar_ne (by decide), hO1 1 (by simp)]) ?_
    refine Zw_aload_1 dX9_wouldSee_113 ?_
    refine Zw_getv (nI nu) lf_X9_69 dX9_wouldSee_114 (by first | decide | assumption | omega) (by first | rfl | assumption) (by rfl) (by rw [zar_ne (by omega), hO1 k (by simp; omega)]; exact hnu) ?_
    refine Zw_icmp_eq 124 dX9_wouldSee_117 (by decide) (fun c117 => ?_) (fun c117 => ?_)
    · refine Zw_iconst (v := 0) dX9_wouldSee_124 (by decide) ?_
      refine Zw_ireturn dX9_wouldSee_125 (by first | rfl | assumption) ?_
      exact h0 (by simp [q_sees, q_see, d0, c117]) _ (((hO1.sub (by simp)).ar (by simp)))
    · refine Zw_iconst (v := 1) dX9_wouldSee_120 (by decide) ?_
      refine Zw_goto 125 dX9_wouldSee_121 (by decide) ?_
      refine Zw_ireturn dX9_wouldSee_125 (by first | rfl | assumption) ?_
      exact h1 (by simp [q_sees, q_see, d0, c117]) _ (((hO1.sub (by simp)).ar (by simp)))
set_option maxRecDepth 20000 in
theorem s_see4 {k p w nu cnt t : Nat} {Q : zQ} {μ : zMu} {τ : Int64} (hk : k < 78) (hs : zSh k = .inl (3, [0, 0, 0, 0])) (hk19 : k < 19) (hp : p < 8) (hw : w < 2 ^ 31) (hr : x_rl μ cnt t) (hkd : μ k 0 = nI 4) (hnu : μ k 1 = nI nu) (hn10 : nu < 10) (h1 : q_sees (xs μ t) (μ 2) (μ 1 4) w 4 nu p = true → ∀ μ2, zOff [19, 20] μ μ2 → Q (some (.int 1)) μ2 τ) (h0 : q_sees (xs μ t) (μ 2) (μ 1 4) w 4 nu p = false → ∀ μ2, zOff [19, 20] μ μ2 → Q (some (.int 0)) μ2 τ) : Zc 2 yX9_wouldSee cX9_wouldSee 5 (some .boolean) [.ref 42, .ref k, .int (nI p), .int (nI w)] μ τ Q := by
  refine Zc.mk 1 [.ref 42, .ref k, .int (nI p), .int (nI w), .null] rfl (by decide) (Nat.le_of_ble_eq_true rfl) ?_
  refine Zw_aload_0 dX9_wouldSee_0 ?_
  refine Zw_iload_2 dX9_wouldSee_1 ?_
  refine Zw_iload_3 dX9_wouldSee_2 ?_
  refine Zw_aload_1 dX9_wouldSee_3 ?_
  refine Zw_getv (nI nu) lf_X9_69 dX9_wouldSee_4 (by first | decide | assumption | omega) (by first | rfl | assumption) (by rfl) hnu ?_
  refine Zw_V3 (k := 1) lm_X9_46 dX9_wouldSee_7 (by decide) (by first | decide | assumption | omega) (by first | rfl | assumption) (by rfl) (Nat.le_of_ble_eq_true rfl) ?_
  refine s_askOf hp (fun μ1 hO1 hE1 => ?_)
  have hr1 := hr.off (hO1.sc (by decide))
  have hsy : xsay μ1 t 2 (μ1 19) (μ1 20) = xs μ t 2 (q_env (nI p) 0 (nI w) (nI nu) (q_bc (μ 2 p)) (μ 1 4)) := xsay_xs (by have := hr.2.1; have := hr.2.2.2.1; omega) (hO1.sc (by decide)) hE1
  refine Zw_aload_0 dX9_wouldSee_10 ?_
  refine Zw_getr 17 lf_X9_19 dX9_wouldSee_11 (by first | decide | assumption | omega) (by first | rfl | assumption) (by rfl) ?_
  refine Zw_aload_0 dX9_wouldSee_14 ?_
  refine Zw_getr 1 lf_X9_15 dX9_wouldSee_15 (by first | decide | assumption | omega) (by first | rfl | assumption) (by rfl) ?_
  refine Zw_getv (nI t) lf_X9_27 dX9_wouldSee_18 (by first | decide | assumption | omega) (by first | rfl | assumption) (by rfl) hr1.2.2.1 ?_
  refine Zw_iconst (v := 2) dX9_wouldSee_21 (by decide) ?_
  refine Zw_V2 (k := 1) lm_X9_56 dX9_wouldSee_22 (by decide) (by first | decide | assumption | omega) (by first | rfl | assumption) (by rfl) (Nat.le_of_ble_eq_true rfl) ?_
  refine s_says2 cnt t hr1.1 hr1.2.1 hr1.2.2.2.1 hr1.2.2.2.2 (fun d1 f1 => ?_) (fun d0 f1 => ?_)
  · rw [hsy] at d1
    refine Zw_istore_4 dX9_wouldSee_25 rfl ?_
    refine Zw_aload_1 dX9_wouldSee_27 ?_
    refine Zw_getv (4) lf_X9_74 dX9_wouldSee_28 (by first | decide | assumption | omega) (by first | rfl | assumption) (by rfl) (by rw [zar_ne (by omega), hO1 k (by simp; omega)]; exact hkd) ?_
    refine Zw_swk 149 4 [64, 67, 89, 106, 126] dX9_wouldSee_31 (by decide) (by decide) (by decide) (by decide) (by rfl) ?_
    refine Zw_iload_4 dX9_wouldSee_126 ?_
    refine Zw_if_eq 137 dX9_wouldSee_128 (by decide) (fun c => absurd c (by decide)) (fun _ => ?_)
    refine Zw_iload_2 dX9_wouldSee_131 ?_
    refine Zw_iconst (v := 2) dX9_wouldSee_132 (by decide) ?_
    refine Zw_nrem (p) (2) dX9_wouldSee_133 rfl rfl (by omega) (by omega) (by omega) ?_
    refine Zw_nif_eq ((p % 2)) 143 dX9_wouldSee_134 (by decide) rfl (by omega) (fun c134 => ?_) (fun c134 => ?_)
    · refine Zw_iconst (v := 1) dX9_wouldSee_143 (by decide) ?_
      refine Zw_goto 148 dX9_wouldSee_144 (by decide) ?_
      refine Zw_ireturn dX9_wouldSee_148 (by first | rfl | assumption) ?_
      exact h1 (by simp [q_sees, q_see, d1, c134]) _ (((hO1.sub (by simp)).ar (by simp)))
    · refine Zw_iload_3 dX9_wouldSee_137 ?_
      refine Zw_iconst (v := 4) dX9_wouldSee_138 (by decide) ?_
      refine Zw_nrem (w) (4) dX9_wouldSee_139 rfl rfl (by omega) (by omega) (by omega) ?_
      refine Zw_nif_ne ((w % 4)) 147 dX9_wouldSee_140 (by decide) rfl (by omega) (fun c140 => ?_) (fun c140 => ?_)
      · refine Zw_iconst (v := 0) dX9_wouldSee_147 (by decide) ?_
        refine Zw_ireturn dX9_wouldSee_148 (by first | rfl | assumption) ?_
        exact h0 (by simp [q_sees, q_see, d1, c134, c140]) _ (((hO1.sub (by simp)).ar (by simp)))
      · refine Zw_iconst (v := 1) dX9_wouldSee_143 (by decide) ?_
        refine Zw_goto 148 dX9_wouldSee_144 (by decide) ?_
        refine Zw_ireturn dX9_wouldSee_148 (by first | rfl | assumption) ?_
        exact h1 (by simp [q_sees, q_see, d1, c134, c140]) _ (((hO1.sub (by simp)).ar (by simp)))
  · rw [hsy] at d0
    refine Zw_istore_4 dX9_wouldSee_25 rfl ?_
    refine Zw_aload_1 dX9_wouldSee_27 ?_
    refine Zw_getv (4) lf_X9_74 dX9_wouldSee_28 (by first | decide | assumption | omega) (by first | rfl | assumption) (by rfl) (by rw [zar_ne (by omega), hO1 k (by simp; omega)]; exact hkd) ?_
    refine Zw_swk 149 4 [64, 67, 89, 106, 126] dX9_wouldSee_31 (by decide) (by decide) (by decide) (by decide) (by rfl) ?_
    refine Zw_iload_4 dX9_wouldSee_126 ?_
    refine Zw_if_eq 137 dX9_wouldSee_128 (by decide) (fun _ => ?_) (fun c => absurd c (by decide))
    refine Zw_iload_3 dX9_wouldSee_137 ?_
    refine Zw_iconst (v := 4) dX9_wouldSee_138 (by decide) ?_
    refine Zw_nrem (w) (4) dX9_wouldSee_139 rfl rfl (by omega) (by omega) (by omega) ?_
    refine Zw_nif_ne ((w % 4)) 147 dX9_wouldSee_140 (by decide) rfl (by omega) (fun c140 => ?_) (fun c140 => ?_)
    · refine Zw_iconst (v := 0) dX9_wouldSee_147 (by decide) ?_
      refine Zw_ireturn dX9_wouldSee_148 (by first | rfl | assumption) ?_
      exact h0 (by simp [q_sees, q_see, d0, c140]) _ (((hO1.sub (by simp)).ar (by simp)))
    · refine Zw_iconst (v := 1) dX9_wouldSee_143 (by decide) ?_
      refine Zw_goto 148 dX9_wouldSee_144 (by decide) ?_
      refine Zw_ireturn dX9_wouldSee_148 (by first | rfl | assumption) ?_
      exact h1 (by simp [q_sees, q_see, d0, c140]) _ (((hO1.sub (by simp)).ar (by simp)))
set_option maxRecDepth 20000 in
theorem s_see5 {k p w nu cnt t : Nat} {Q : zQ} {μ : zMu} {τ : Int64} (hk : k < 78) (hs : zSh k = .inl (3, [0, 0, 0, 0])) (hk19 : k < 19) (hp : p < 8) (hw : w < 2 ^ 31) (hr : x_rl μ cnt t) (hkd : μ k 0 = nI 5) (hnu : μ k 1 = nI nu) (hn10 : nu < 10) (h1 : q_sees (xs μ t) (μ 2) (μ 1 4) w 5 nu p = true → ∀ μ2, zOff [19, 20] μ μ2 → Q (some (.int 1)) μ2 τ) (h0 : q_sees (xs μ t) (μ 2) (μ 1 4) w 5 nu p = false → ∀ μ2, zOff [19, 20] μ μ2 → Q (some (.int 0)) μ2 τ) : Zc 2 yX9_wouldSee cX9_wouldSee 5 (some .boolean) [.ref 42, .ref k, .int (nI p), .int (nI w)] μ τ Q := by
  refine Zc.mk 1 [.ref 42, .ref k, .int (nI p), .int (nI w), .null] rfl (by decide) (Nat.le_of_ble_eq_true rfl) ?_
  refine Zw_aload_0 dX9_wouldSee_0 ?_
  refine Zw_iload_2 dX9_wouldSee_1 ?_
  refine Zw_iload_3 dX9_wouldSee_2 ?_
  refine Zw_aload_1 dX9_wouldSee_3 ?_
  refine Zw_getv (nI nu) lf_X9_69 dX9_wouldSee_4 (by first | decide | assumption | omega) (by first | rfl | assumption) (by rfl) hnu ?_
  refine Zw_V3 (k := 1) lm_X9_46 dX9_wouldSee_7 (by decide) (by first | decide | assumption | omega) (by first | rfl | assumption) (by rfl) (Nat.le_of_ble_eq_true rfl) ?_
  refine s_askOf hp (fun μ1 hO1 hE1 => ?_)
  have hr1 := hr.off (hO1.sc (by decide))
  have hsy : xsay μ1 t 2 (μ1 19) (μ1 20) = xs μ t 2 (q_env (nI p) 0 (nI w) (nI nu) (q_bc (μ 2 p)) (μ 1 4)) := xsay_xs (by have := hr.2.1; have := hr.2.2.2.1; omega) (hO1.sc (by decide)) hE1
  refine Zw_aload_0 dX9_wouldSee_10 ?_
  refine Zw_getr 17 lf_X9_19 dX9_wouldSee_11 (by first | decide | assumption | omega) (by first | rfl | assumption) (by rfl) ?_
  refine Zw_aload_0 dX9_wouldSee_14 ?_
  refine Zw_getr 1 lf_X9_15 dX9_wouldSee_15 (by first | decide | assumption | omega) (by first | rfl | assumption) (by rfl) ?_
  refine Zw_getv (nI t) lf_X9_27 dX9_wouldSee_18 (by first | decide | assumption | omega) (by first | rfl | assumption) (by rfl) hr1.2.2.1 ?_
  refine Zw_iconst (v := 2) dX9_wouldSee_21 (by decide) ?_
  refine Zw_V2 (k := 1) lm_X9_56 dX9_wouldSee_22 (by decide) (by first | decide | assumption | omega) (by first | rfl | assumption) (by rfl) (Nat.le_of_ble_eq_true rfl) ?_
  refine s_says2 cnt t hr1.1 hr1.2.1 hr1.2.2.2.1 hr1.2.2.2.2 (fun d1 f1 => ?_) (fun d0 f1 => ?_)
  · rw [hsy] at d1
    refine Zw_istore_4 dX9_wouldSee_25 rfl ?_
    refine Zw_aload_1 dX9_wouldSee_27 ?_
    refine Zw_getv (5) lf_X9_74 dX9_wouldSee_28 (by first | decide | assumption | omega) (by first | rfl | assumption) (by rfl) (by rw [zar_ne (by omega), hO1 k (by simp; omega)]; exact hkd) ?_
    refine Zw_swd 149 [64, 67, 89, 106, 126] dX9_wouldSee_31 (by decide) (by decide) (by decide) (by decide) ?_
    refine Zw_iconst (v := 0) dX9_wouldSee_149 (by decide) ?_
    refine Zw_ireturn dX9_wouldSee_150 (by first | rfl | assumption) ?_
    exact h0 (by simp [q_sees, q_see, d1]) _ (((hO1.sub (by simp)).ar (by simp)))
  · rw [hsy] at d0
    refine Zw_istore_4 dX9_wouldSee_25 rfl ?_
    refine Zw_aload_1 dX9_wouldSee_27 ?_
    refine Zw_getv (5) lf_X9_74 dX9_wouldSee_28 (by first | decide | assumption | omega) (by first | rfl | assumption) (by rfl) (by rw [zar_ne (by omega), hO1 k (by simp; omega)]; exact hkd) ?_
    refine Zw_swd 149 [64, 67, 89, 106, 126] dX9_wouldSee_31 (by decide) (by decide) (by decide) (by decide) ?_
    refine Zw_iconst (v := 0) dX9_wouldSee_149 (by decide) ?_
    refine Zw_ireturn dX9_wouldSee_150 (by first | rfl | assumption) ?_
    exact h0 (by simp [q_sees, q_see, d0]) _ (((hO1.sub (by simp)).ar (by simp)))
theorem s_see {k p w kd nu cnt t : Nat} {Q : zQ} {μ : zMu} {τ : Int64} (hk : k < 78) (hs : zSh k = .inl (3, [0, 0, 0, 0])) (hk19 : k < 19) (hp : p < 8) (hw : w < 2 ^ 31) (hr : x_rl μ cnt t) (hkd : μ k 0 = nI kd) (hk6 : kd < 6) (hnu : μ k 1 = nI nu) (hn10 : nu < 10) (h1 : q_sees (xs μ t) (μ 2) (μ 1 4) w kd nu p = true → ∀ μ2, zOff [19, 20] μ μ2 → Q (some (.int 1)) μ2 τ) (h0 : q_sees (xs μ t) (μ 2) (μ 1 4) w kd nu p = false → ∀ μ2, zOff [19, 20] μ μ2 → Q (some (.int 0)) μ2 τ) : Zc 2 yX9_wouldSee cX9_wouldSee 5 (some .boolean) [.ref 42, .ref k, .int (nI p), .int (nI w)] μ τ Q := by
  match kd, hk6 with
  | 0, _ => exact s_see0 hk hs hk19 hp hw hr hkd hnu hn10 h1 h0
  | 1, _ => exact s_see1 hk hs hk19 hp hw hr hkd hnu hn10 h1 h0
  | 2, _ => exact s_see2 hk hs hk19 hp hw hr hkd hnu hn10 h1 h0
  | 3, _ => exact s_see3 hk hs hk19 hp hw hr hkd hnu hn10 h1 h0
  | 4, _ => exact s_see4 hk hs hk19 hp hw hr hkd hnu hn10 h1 h0
  | 5, _ => exact s_see5 hk hs hk19 hp hw hr hkd hnu hn10 h1 h0
  | n + 6, hk6 => exact absurd hk6 (by omega)
