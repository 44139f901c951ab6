def y_ah (tk : Nat) (s : List Nat) : List Nat := if 5 ≤ y_open s then [] else if tk = 10 then (if s.length < 64 then 10 :: s else []) else if tk = 7 then (if s.length < 64 then 9 :: s else []) else if tk = 3 ∧ y_top s < 4 then (if s.length < 64 then 3 :: s else []) else []
set_option maxRecDepth 20000 in
theorem s_takeAhead {n k cp bp : Nat} {μ0 : zMu} {s : List Nat} {c : List Int32} {pos tk pl : Nat} {Q : zQ} {μ : zMu} {τ : Int64} (hA : yA k cp bp) (htk : tk < 20) (hS : yS n k cp μ0 μ s c pos tk pl) (hl2 : tk ≠ 18 → s.length + c.length < 160) (h0 : ∀ μ2, y_ah tk s = [] → μ2 39 4 = nI pl ∧ zOff [39, 41, k, cp] μ0 μ2 → Q (some (.int 0)) μ2 τ) (h1 : ∀ s2 μ2, y_ah tk s = s2 → s2 ≠ [] → yS n k cp μ0 μ2 s2 c pos tk pl → Q (some (.int 1)) μ2 τ) : Zc 2 yX6_takeAhead cX6_takeAhead 1 (some .boolean) [.ref 39] μ τ Q := by
  refine Zc.mk 0 [.ref 39] rfl (by decide) (Nat.le_of_ble_eq_true rfl) ?_
  obtain ⟨⟨a1, a2, a3, a4, a5, a6, n1, n2, n3⟩, b1, b2, b3, b4, b5, b6⟩ := id hA
  have hol := y_open_le s
  have hl64 := hS.2.2.2.2.1
  refine Zw_aload_0 dX6_takeAhead_0 ?_
  refine Zw_getv (nI (y_open s)) lf_X6_50 dX6_takeAhead_1 (by first | decide | assumption | omega) (by first | rfl | assumption) (by rfl) hS.2.2.1.2.1 ?_
  refine Zw_iconst (v := 5) dX6_takeAhead_4 (by decide) ?_
  refine Zw_nicmp_lt ((y_open s)) (5) 10 dX6_takeAhead_5 (by decide) rfl rfl (by omega) (by omega) (fun c5 => ?_) (fun c5 => ?_)
  · refine Zw_aload_0 dX6_takeAhead_10 ?_
    refine Zw_getv (nI tk) lf_X6_33 dX6_takeAhead_11 (by first | decide | assumption | omega) (by first | rfl | assumption) (by rfl) hS.2.1.2.2.1 ?_
    refine Zw_bipush (v := 10) dX6_takeAhead_14 (by decide) ?_
    refine Zw_nicmp_ne (tk) (10) 26 dX6_takeAhead_16 (by decide) rfl rfl (by omega) (by omega) (fun c16 => ?_) (fun c16 => ?_)
    · refine Zw_aload_0 dX6_takeAhead_26 ?_
      refine Zw_getv (nI tk) lf_X6_33 dX6_takeAhead_27 (by first | decide | assumption | omega) (by first | rfl | assumption) (by rfl) hS.2.1.2.2.1 ?_
      refine Zw_bipush (v := 7) dX6_takeAhead_30 (by decide) ?_
      refine Zw_nicmp_ne (tk) (7) 42 dX6_takeAhead_32 (by decide) rfl rfl (by omega) (by omega) (fun c32 => ?_) (fun c32 => ?_)
      · refine Zw_aload_0 dX6_takeAhead_42 ?_
        refine Zw_getv (nI tk) lf_X6_33 dX6_takeAhead_43 (by first | decide | assumption | omega) (by first | rfl | assumption) (by rfl) hS.2.1.2.2.1 ?_
        refine Zw_iconst (v := 3) dX6_takeAhead_46 (by decide) ?_
        refine Zw_nicmp_ne (tk) (3) 69 dX6_takeAhead_47 (by decide) rfl rfl (by omega) (by omega) (fun c47 => ?_) (fun c47 => ?_)
        · refine Zw_iconst (v := 0) dX6_takeAhead_69 (by decide) ?_
          refine Zw_ireturn dX6_takeAhead_70 (by first | rfl | assumption) ?_
          exact h0 μ (by rw [y_ah, if_neg (by omega), if_neg (by omega), if_neg (by omega), if_neg (fun q => absurd q.1 (by omega))]) ⟨hS.2.1.2.2.2, hS.1⟩
        · refine Zw_aload_0 dX6_takeAhead_50 ?_
          refine Zw_V0 (k := 0) lm_X6_77 dX6_takeAhead_51 (by decide) (by first | decide | assumption | omega) (by first | rfl | assumption) (by rfl) (Nat.le_of_ble_eq_true rfl) ?_
          refine s_notMay hA hS (fun m1 => ?_) (fun m1 => ?_)
          · refine Zw_if_eq 69 dX6_takeAhead_54 (by decide) (fun c => absurd c (by decide)) (fun _ => ?_)
            refine Zw_aload_0 dX6_takeAhead_57 ?_
            refine Zw_iconst (v := 3) dX6_takeAhead_58 (by decide) ?_
            refine Zw_V1 (k := 1) lm_X6_73 dX6_takeAhead_59 (by decide) (by first | decide | assumption | omega) (by first | rfl | assumption) (by rfl) (Nat.le_of_ble_eq_true rfl) ?_
            refine s_hold (x := 3) hA (by decide) hS (hl2 (by omega)) (fun hl => ?_) (fun hl μ2 hS2 => ?_)
            · refine Zw_if_eq 69 dX6_takeAhead_62 (by decide) (fun _ => ?_) (fun c => absurd c (by decide))
              refine Zw_iconst (v := 0) dX6_takeAhead_69 (by decide) ?_
              refine Zw_ireturn dX6_takeAhead_70 (by first | rfl | assumption) ?_
              exact h0 _ (by rw [y_ah, if_neg (by omega), if_neg (by omega), if_neg (by omega), if_pos ⟨by omega, m1⟩, if_neg (by omega)]) ⟨hS.2.1.2.2.2, hS.1⟩
            · refine Zw_if_eq 69 dX6_takeAhead_62 (by decide) (fun c => absurd c (by decide)) (fun _ => ?_)
              refine Zw_iconst (v := 1) dX6_takeAhead_65 (by decide) ?_
              refine Zw_goto 70 dX6_takeAhead_66 (by decide) ?_
              refine Zw_ireturn dX6_takeAhead_70 (by first | rfl | assumption) ?_
              exact h1 (3 :: s) μ2 (by rw [y_ah, if_neg (by omega), if_neg (by omega), if_neg (by omega), if_pos ⟨by omega, m1⟩, if_pos hl]) (List.cons_ne_nil _ _) hS2
          · refine Zw_if_eq 69 dX6_takeAhead_54 (by decide) (fun _ => ?_) (fun c => absurd c (by decide))
            refine Zw_iconst (v := 0) dX6_takeAhead_69 (by decide) ?_
            refine Zw_ireturn dX6_takeAhead_70 (by first | rfl | assumption) ?_
            exact h0 μ (by rw [y_ah, if_neg (by omega), if_neg (by omega), if_neg (by omega), if_neg (fun q => m1 q.2)]) ⟨hS.2.1.2.2.2, hS.1⟩
      · refine Zw_aload_0 dX6_takeAhead_35 ?_
        refine Zw_bipush (v := 9) dX6_takeAhead_36 (by decide) ?_
        refine Zw_V1 (k := 1) lm_X6_73 dX6_takeAhead_38 (by decide) (by first | decide | assumption | omega) (by first | rfl | assumption) (by rfl) (Nat.le_of_ble_eq_true rfl) ?_
        refine s_hold (x := 9) hA (by decide) hS (hl2 (by omega)) (fun hl => ?_) (fun hl μ2 hS2 => ?_)
        · refine Zw_ireturn dX6_takeAhead_41 (by first | rfl | assumption) ?_
          exact h0 _ (by rw [y_ah, if_neg (by omega), if_neg (by omega), if_pos (by omega), if_neg (by omega)]) ⟨hS.2.1.2.2.2, hS.1⟩
        · refine Zw_ireturn dX6_takeAhead_41 (by first | rfl | assumption) ?_
          exact h1 (9 :: s) μ2 (by rw [y_ah, if_neg (by omega), if_neg (by omega), if_pos (by omega), if_pos hl]) (List.cons_ne_nil _ _) hS2
    · refine Zw_aload_0 dX6_takeAhead_19 ?_
      refine Zw_bipush (v := 10) dX6_takeAhead_20 (by decide) ?_
      refine Zw_V1 (k := 1) lm_X6_73 dX6_takeAhead_22 (by decide) (by first | decide | assumption | omega) (by first | rfl | assumption) (by rfl) (Nat.le_of_ble_eq_true rfl) ?_
      refine s_hold (x := 10) hA (by decide) hS (hl2 (by omega)) (fun hl => ?_) (fun hl μ2 hS2 => ?_)
      · refine Zw_ireturn dX6_takeAhead_25 (by first | rfl | assumption) ?_
        exact h0 _ (by rw [y_ah, if_neg (by omega), if_pos (by omega), if_neg (by omega)]) ⟨hS.2.1.2.2.2, hS.1⟩
      · refine Zw_ireturn dX6_takeAhead_25 (by first | rfl | assumption) ?_
        exact h1 (10 :: s) μ2 (by rw [y_ah, if_neg (by omega), if_pos (by omega), if_pos hl]) (List.cons_ne_nil _ _) hS2
  · refine Zw_iconst (v := 0) dX6_takeAhead_8 (by decide) ?_
    refine Zw_ireturn dX6_takeAhead_9 (by first | rfl | assumption) ?_
    exact h0 μ (by rw [y_ah, if_pos (by omega)]) ⟨hS.2.1.2.2.2, hS.1⟩
def y_bt (tk : Nat) (s : List Nat) (c : List Int32) : List Nat × List Int32 := if tk < 1 ∨ 8 < tk ∨ tk = 3 then ([], c) else
  if y_b tk = 4 ∧ y_top (y_set 5 s c).1 = 4 then ([], c) else
  if (y_set (if y_b tk = 4 then 5 else y_b tk) s c).1.length < 64 then (tk :: (y_set (if y_b tk = 4 then 5 else y_b tk) s c).1, (y_set (if y_b tk = 4 then 5 else y_b tk) s c).2) else ([], c)
theorem y_set_len (bd : Nat) : ∀ (s : List Nat) (c : List Int32), (y_set bd s c).1.length + (y_set bd s c).2.length = s.length + c.length
  | [], c => rfl
  | x :: s, c => by
    rw [y_set_s]
    split
    · rw [y_set_len bd s, List.length_cons, List.length_cons]; omega
    · rfl
theorem y_top_z {s : List Nat} (h : s = []) : y_top s = 0 := by rw [h]; rfl
set_option maxRecDepth 20000 in
theorem s_takeBetween {n k cp bp : Nat} {μ0 : zMu} {s : List Nat} {c : List Int32} {pos tk pl : Nat} {Q : zQ} {μ : zMu} {τ : Int64} (hA : yA k cp bp) (htk : tk < 20) (hS : yS n k cp μ0 μ s c pos tk pl) (hl2 : tk ≠ 18 → s.length + c.length < 160) (h0 : ∀ μ2, (y_bt tk s c).1 = [] → μ2 39 4 = nI pl ∧ zOff [39, 41, k, cp] μ0 μ2 → Q (some (.int 0)) μ2 τ) (h1 : ∀ s2 c2 μ2, y_bt tk s c = (s2, c2) → s2 ≠ [] → yS n k cp μ0 μ2 s2 c2 pos tk pl → Q (some (.int 1)) μ2 τ) : Zc 2 yX6_takeBetween cX6_takeBetween 3 (some .boolean) [.ref 39, .ref k] μ τ Q := by
  refine Zc.mk 1 [.ref 39, .ref k, .null] rfl (by decide) (Nat.le_of_ble_eq_true rfl) ?_
  obtain ⟨⟨a1, a2, a3, a4, a5, a6, n1, n2, n3⟩, b1, b2, b3, b4, b5, b6⟩ := id hA
  have hol := y_open_le s
  have hl64 := hS.2.2.2.2.1
  refine Zw_aload_0 dX6_takeBetween_0 ?_
  refine Zw_getv (nI tk) lf_X6_33 dX6_takeBetween_1 (by first | decide | assumption | omega) (by first | rfl | assumption) (by rfl) hS.2.1.2.2.1 ?_
  refine Zw_iconst (v := 1) dX6_takeBetween_4 (by decide) ?_
  refine Zw_nicmp_lt (tk) (1) 25 dX6_takeBetween_5 (by decide) rfl rfl (by omega) (by omega) (fun c5 => ?_) (fun c5 => ?_)
  · refine Zw_iconst (v := 0) dX6_takeBetween_25 (by decide) ?_
    refine Zw_ireturn dX6_takeBetween_26 (by first | rfl | assumption) ?_
    exact h0 μ (by rw [y_bt, if_pos (by omega)]) ⟨hS.2.1.2.2.2, hS.1⟩
  · refine Zw_aload_0 dX6_takeBetween_8 ?_
    refine Zw_getv (nI tk) lf_X6_33 dX6_takeBetween_9 (by first | decide | assumption | omega) (by first | rfl | assumption) (by rfl) hS.2.1.2.2.1 ?_
    refine Zw_bipush (v := 8) dX6_takeBetween_12 (by decide) ?_
    refine Zw_nicmp_gt (tk) (8) 25 dX6_takeBetween_14 (by decide) rfl rfl (by omega) (by omega) (fun c14 => ?_) (fun c14 => ?_)
    · refine Zw_iconst (v := 0) dX6_takeBetween_25 (by decide) ?_
      refine Zw_ireturn dX6_takeBetween_26 (by first | rfl | assumption) ?_
      exact h0 μ (by rw [y_bt, if_pos (by omega)]) ⟨hS.2.1.2.2.2, hS.1⟩
    · refine Zw_aload_0 dX6_takeBetween_17 ?_
      refine Zw_getv (nI tk) lf_X6_33 dX6_takeBetween_18 (by first | decide | assumption | omega) (by first | rfl | assumption) (by rfl) hS.2.1.2.2.1 ?_
      refine Zw_iconst (v := 3) dX6_takeBetween_21 (by decide) ?_
      refine Zw_nicmp_ne (tk) (3) 27 dX6_takeBetween_22 (by decide) rfl rfl (by omega) (by omega) (fun c22 => ?_) (fun c22 => ?_)
      · refine Zw_getsN (t := 2) (by decide) (by decide +kernel) dX6_takeBetween_27 ?_
        refine Zw_aload_0 dX6_takeBetween_30 ?_
        refine Zw_getv (nI tk) lf_X6_33 dX6_takeBetween_31 (by first | decide | assumption | omega) (by first | rfl | assumption) (by rfl) hS.2.1.2.2.1 ?_
        have hbt := y_b_t tk (by omega)
        have hin : vp_in (nI tk) (zTab 2).length := vp_in_nI (N := 11) (by omega) (by decide)
        have hbx1 : (zTab 2).getD (nI tk).toNatClampNeg 0 = nI (y_b tk) := by rw [nI_clamp (by omega)]; exact hbt.1
        refine Zw_tald (t := 2) dX6_takeBetween_34 (by decide) (by first | assumption | exact vp_in_nI (by omega) (by omega) | exact vp_in_nI (by simp; omega) (by decide) | (unfold vp_in; decide)) (by first | rfl | assumption) ?_
        rw [hbx1]
        refine Zw_iconst (v := 4) dX6_takeBetween_35 (by decide) ?_
        refine Zw_nicmp_ne ((y_b tk)) (4) 43 dX6_takeBetween_36 (by decide) rfl rfl (by omega) (by omega) (fun c36 => ?_) (fun c36 => ?_)
        · have hc4 : ¬ y_b tk = 4 := by omega
          refine Zw_iconst (v := 0) dX6_takeBetween_43 (by decide) ?_
          refine Zw_istore_2 dX6_takeBetween_44 rfl ?_
          refine Zw_aload_0 dX6_takeBetween_45 ?_
          refine Zw_aload_1 dX6_takeBetween_46 ?_
          refine Zw_iload_2 dX6_takeBetween_47 ?_
          refine Zw_if_eq 55 dX6_takeBetween_48 (by decide) (fun _ => ?_) (fun c => absurd c (by decide))
          refine Zw_getsN (t := 2) (by decide) (by decide +kernel) dX6_takeBetween_55 ?_
          refine Zw_aload_0 dX6_takeBetween_58 ?_
          refine Zw_getv (nI tk) lf_X6_33 dX6_takeBetween_59 (by first | decide | assumption | omega) (by first | rfl | assumption) (by rfl) hS.2.1.2.2.1 ?_
          refine Zw_tald (t := 2) dX6_takeBetween_62 (by decide) (by first | assumption | exact vp_in_nI (by omega) (by omega) | exact vp_in_nI (by simp; omega) (by decide) | (unfold vp_in; decide)) (by first | rfl | assumption) ?_
          rw [hbx1]
          refine Zw_V2 (k := 1) lm_X6_63 dX6_takeBetween_63 (by decide) (by first | decide | assumption | omega) (by first | rfl | assumption) (by rfl) (Nat.le_of_ble_eq_true rfl) ?_
          refine s_settle (bd := y_b tk) hA (by omega) hS (fun μ2 hS2 => ?_)
          refine Zw_iload_2 dX6_takeBetween_66 ?_
          refine Zw_if_eq 98 dX6_takeBetween_67 (by decide) (fun _ => ?_) (fun c => absurd c (by decide))
          refine Zw_aload_0 dX6_takeBetween_98 ?_
          refine Zw_aload_0 dX6_takeBetween_99 ?_
          refine Zw_getv (nI tk) lf_X6_33 dX6_takeBetween_100 (by first | decide | assumption | omega) (by first | rfl | assumption) (by rfl) hS2.2.1.2.2.1 ?_
          refine Zw_V1 (k := 1) lm_X6_73 dX6_takeBetween_103 (by decide) (by first | decide | assumption | omega) (by first | rfl | assumption) (by rfl) (Nat.le_of_ble_eq_true rfl) ?_
          have hl2 := hl2 (by omega)
          have hl3 := y_set_len (y_b tk) s c
          refine s_hold (x := tk) hA ⟨by omega, by omega⟩ hS2 (by omega) (fun hl => ?_) (fun hl μ3 hS3 => ?_)
          · refine Zw_ireturn dX6_takeBetween_106 (by first | rfl | assumption) ?_
            have hbd : (if y_b tk = 4 then 5 else y_b tk) = (y_b tk) := if_neg hc4
            exact h0 _ (by rw [y_bt, if_neg (by omega), if_neg (fun q => hc4 q.1), hbd, if_neg (by omega)]) ⟨hS2.2.1.2.2.2, hS2.1⟩
          · refine Zw_ireturn dX6_takeBetween_106 (by first | rfl | assumption) ?_
            have hbd : (if y_b tk = 4 then 5 else y_b tk) = (y_b tk) := if_neg hc4
            exact h1 _ _ μ3 (by rw [y_bt, if_neg (by omega), if_neg (fun q => hc4 q.1), hbd, if_pos hl]) (List.cons_ne_nil _ _) hS3
        · have hc4 : y_b tk = 4 := by omega
          refine Zw_iconst (v := 1) dX6_takeBetween_39 (by decide) ?_
          refine Zw_goto 44 dX6_takeBetween_40 (by decide) ?_
          refine Zw_istore_2 dX6_takeBetween_44 rfl ?_
          refine Zw_aload_0 dX6_takeBetween_45 ?_
          refine Zw_aload_1 dX6_takeBetween_46 ?_
          refine Zw_iload_2 dX6_takeBetween_47 ?_
          refine Zw_if_eq 55 dX6_takeBetween_48 (by decide) (fun c => absurd c (by decide)) (fun _ => ?_)
          refine Zw_iconst (v := 5) dX6_takeBetween_51 (by decide) ?_
          refine Zw_goto 63 dX6_takeBetween_52 (by decide) ?_
          refine Zw_V2 (k := 1) lm_X6_63 dX6_takeBetween_63 (by decide) (by first | decide | assumption | omega) (by first | rfl | assumption) (by rfl) (Nat.le_of_ble_eq_true rfl) ?_
          refine s_settle (bd := 5) hA (by omega) hS (fun μ2 hS2 => ?_)
          cases hs : (y_set 5 s c).1 with
          | nil =>
            have hn4 : ¬ y_top (y_set 5 s c).1 = 4 := by rw [hs]; decide
            have hw0 : μ2 39 7 = 0 := by have := hS2.2.2.1.1; rw [hs] at this; exact this
            refine Zw_iload_2 dX6_takeBetween_66 ?_
            refine Zw_if_eq 98 dX6_takeBetween_67 (by decide) (fun c => absurd c (by decide)) (fun _ => ?_)
            refine Zw_aload_0 dX6_takeBetween_70 ?_
            refine Zw_getv (0) lf_X6_47 dX6_takeBetween_71 (by first | decide | assumption | omega) (by first | rfl | assumption) (by rfl) hw0 ?_
            refine Zw_if_le 98 dX6_takeBetween_74 (by decide) (fun _ => ?_) (fun c => absurd c (by decide))
            refine Zw_aload_0 dX6_takeBetween_98 ?_
            refine Zw_aload_0 dX6_takeBetween_99 ?_
            refine Zw_getv (nI tk) lf_X6_33 dX6_takeBetween_100 (by first | decide | assumption | omega) (by first | rfl | assumption) (by rfl) hS2.2.1.2.2.1 ?_
            refine Zw_V1 (k := 1) lm_X6_73 dX6_takeBetween_103 (by decide) (by first | decide | assumption | omega) (by first | rfl | assumption) (by rfl) (Nat.le_of_ble_eq_true rfl) ?_
            have hl2 := hl2 (by omega)
            have hl3 := y_set_len 5 s c
            refine s_hold (x := tk) hA ⟨by omega, by omega⟩ hS2 (by omega) (fun hl => ?_) (fun hl μ3 hS3 => ?_)
            · refine Zw_ireturn dX6_takeBetween_106 (by first | rfl | assumption) ?_
              have hbd : (if y_b tk = 4 then 5 else y_b tk) = 5 := if_pos hc4
              exact h0 _ (by rw [y_bt, if_neg (by omega), if_neg (fun q => hn4 q.2), hbd, if_neg (by omega)]) ⟨hS2.2.1.2.2.2, hS2.1⟩
            · refine Zw_ireturn dX6_takeBetween_106 (by first | rfl | assumption) ?_
              have hbd : (if y_b tk = 4 then 5 else y_b tk) = 5 := if_pos hc4
              exact h1 _ _ μ3 (by rw [y_bt, if_neg (by omega), if_neg (fun q => hn4 q.2), hbd, if_pos hl]) (List.cons_ne_nil _ _) hS3
          | cons x s2 =>
            have hS4 := hS2
            rw [hs] at hS4
            obtain ⟨h0', ⟨t1, t2, t3, t4⟩, ⟨s1, s2', ⟨s3, s5⟩, s4⟩, ⟨c1, c2, c3⟩, l1, l2⟩ := id hS4
            rw [List.length_cons] at l1 l2 s1
            have hx11 := (s4 x (List.mem_cons_self ..)).1
            have hbx := y_b_t x hx11
            have htp : y_top (y_set 5 s c).1 = y_b x := by rw [hs]; rfl
            refine Zw_iload_2 dX6_takeBetween_66 ?_
            refine Zw_if_eq 98 dX6_takeBetween_67 (by decide) (fun c => absurd c (by decide)) (fun _ => ?_)
            refine Zw_aload_0 dX6_takeBetween_70 ?_
            refine Zw_getv (nI (s2.length + 1)) lf_X6_47 dX6_takeBetween_71 (by first | decide | assumption | omega) (by first | rfl | assumption) (by rfl) s1 ?_
            refine Zw_if_le 98 dX6_takeBetween_74 (by decide) (fun c74 => absurd c74 (nI_nle (by omega) (by omega))) (fun c74 => ?_)
            refine Zw_getsN (t := 2) (by decide) (by decide +kernel) dX6_takeBetween_77 ?_
            refine Zw_aload_0 dX6_takeBetween_80 ?_
            refine Zw_getr 41 lf_X6_15 dX6_takeBetween_81 (by first | decide | assumption | omega) (by first | rfl | assumption) (by rfl) ?_
            refine Zw_aload_0 dX6_takeBetween_84 ?_
            refine Zw_getv (nI (s2.length + 1)) lf_X6_47 dX6_takeBetween_85 (by first | decide | assumption | omega) (by first | rfl | assumption) (by rfl) s1 ?_
            refine Zw_iconst (v := 1) dX6_takeBetween_88 (by decide) ?_
            refine Zw_nsub ((s2.length + 1)) (1) dX6_takeBetween_89 rfl rfl (by omega) ?_
            refine Zw_ialdnv (((s2.length + 1) - 1)) (nI x) dX6_takeBetween_90 (by first | decide | assumption | omega) (by first | rfl | assumption) rfl (by omega) (by decide) s3 ?_
            have hin : vp_in (nI x) (zTab 2).length := vp_in_nI (N := 11) hx11 (by decide)
            have hbx1 : (zTab 2).getD (nI x).toNatClampNeg 0 = nI (y_b x) := by rw [nI_clamp (by omega)]; exact hbx.1
            refine Zw_tald (t := 2) dX6_takeBetween_91 (by decide) (by first | assumption | exact vp_in_nI (by omega) (by omega) | exact vp_in_nI (by simp; omega) (by decide) | (unfold vp_in; decide)) (by first | rfl | assumption) ?_
            rw [hbx1]
            refine Zw_iconst (v := 4) dX6_takeBetween_92 (by decide) ?_
            refine Zw_nicmp_ne ((y_b x)) (4) 98 dX6_takeBetween_93 (by decide) rfl rfl (by omega) (by omega) (fun c93 => ?_) (fun c93 => ?_)
            · have hn4 : ¬ y_top (y_set 5 s c).1 = 4 := by omega
              refine Zw_aload_0 dX6_takeBetween_98 ?_
              refine Zw_aload_0 dX6_takeBetween_99 ?_
              refine Zw_getv (nI tk) lf_X6_33 dX6_takeBetween_100 (by first | decide | assumption | omega) (by first | rfl | assumption) (by rfl) hS2.2.1.2.2.1 ?_
              refine Zw_V1 (k := 1) lm_X6_73 dX6_takeBetween_103 (by decide) (by first | decide | assumption | omega) (by first | rfl | assumption) (by rfl) (Nat.le_of_ble_eq_true rfl) ?_
              have hl2 := hl2 (by omega)
              have hl3 := y_set_len 5 s c
              refine s_hold (x := tk) hA ⟨by omega, by omega⟩ hS2 (by omega) (fun hl => ?_) (fun hl μ3 hS3 => ?_)
              · refine Zw_ireturn dX6_takeBetween_106 (by first | rfl | assumption) ?_
                have hbd : (if y_b tk = 4 then 5 else y_b tk) = 5 := if_pos hc4
                exact h0 _ (by rw [y_bt, if_neg (by omega), if_neg (fun q => hn4 q.2), hbd, if_neg (by omega)]) ⟨hS2.2.1.2.2.2, hS2.1⟩
              · refine Zw_ireturn dX6_takeBetween_106 (by first | rfl | assumption) ?_
                have hbd : (if y_b tk = 4 then 5 else y_b tk) = 5 := if_pos hc4
                exact h1 _ _ μ3 (by rw [y_bt, if_neg (by omega), if_neg (fun q => hn4 q.2), hbd, if_pos hl]) (List.cons_ne_nil _ _) hS3
            · refine Zw_iconst (v := 0) dX6_takeBetween_96 (by decide) ?_
              refine Zw_ireturn dX6_takeBetween_97 (by first | rfl | assumption) ?_
              exact h0 μ2 (by rw [y_bt, if_neg (by omega), if_pos ⟨hc4, by omega⟩]) ⟨hS2.2.1.2.2.2, hS2.1⟩
      · refine Zw_iconst (v := 0) dX6_takeBetween_25 (by decide) ?_
        refine Zw_ireturn dX6_takeBetween_26 (by first | rfl | assumption) ?_
        exact h0 μ (by rw [y_bt, if_pos (by omega)]) ⟨hS.2.1.2.2.2, hS.1⟩
