def q_lss (a b : Int32) : Bool := decide (a ≠ -1 ∧ (b = -1 ∨ a < b))
def q_std (F : Nat → Int32) : Nat → Nat → Int32 × Int32 × Int32 → Int32 × Int32 × Int32
  | 0, _, s => s
  | m + 1, i, s => q_std F m (i + 1) (if q_lss (F i) s.2.1 then nI i else s.1, if q_lss (F i) s.2.1 then F i else s.2.1, if F i = -1 then s.2.2 else s.2.2 ||| q_bit i)
theorem q_std_s (F : Nat → Int32) (m i : Nat) (s : Int32 × Int32 × Int32) : q_std F (m + 1) i s = q_std F m (i + 1) (if q_lss (F i) s.2.1 then nI i else s.1, if q_lss (F i) s.2.1 then F i else s.2.1, if F i = -1 then s.2.2 else s.2.2 ||| q_bit i) := rfl
def q_p3 (r : Int32 × Int32 × Int32) : Nat → Int32
  | 0 => r.1
  | 1 => r.2.1
  | _ => r.2.2
theorem q_lss_t {a b : Int32} (h : a ≠ -1 ∧ (b = -1 ∨ a < b)) : q_lss a b = true := by unfold q_lss; exact decide_eq_true h
theorem q_lss_f {a b : Int32} (h : ¬ (a ≠ -1 ∧ (b = -1 ∨ a < b))) : q_lss a b = false := by unfold q_lss; exact decide_eq_false h
set_option maxRecDepth 20000 in
theorem l_stand {Q : zQ} {μ0 : zMu} {τ : Int64} {x0 : Int32} {cnt t n w kd nu T c : Nat} {R : Int32 × Int32 × Int32} (hx : x_ok μ0 cnt t n w) (hth : μ0 1 6 = nI T) (hT : T < 256) (hc : c < 3) (h : ∀ μ2, zOff [19, 20, 43, 44, 45, 46, 47] μ0 μ2 → Q (some (.int (q_p3 R c))) μ2 τ) : ∀ m i best least fr μ, 8 - i < m → i ≤ 8 → zOff [19, 20, 43, 44, 45, 46, 47] μ0 μ → x_sp μ (x_spf (xs μ0 t) (μ0 2) (μ0 1 4) w) → μ 44 6 = nI (x_eye (xs μ0 t) (μ0 2) (μ0 1 4) w kd nu) → q_std (fun p => x_few (xs μ0 t) (μ0 2) (μ0 1 4) w kd nu p 40 T) (8 - i) i (best, least, fr) = R → Zw 5 RX10 cX10_stand 8 (some .int) Q 52 [.ref 0, .int x0, .int (nI c), .int best, .int least, .int fr, .int (nI i), .null] [] μ τ
  | 0, i, _, _, _, _, hm, _, _, _, _, _ => absurd hm (by omega)
  | m + 1, i, best, least, fr, μ, hm, hi, hO, hs1, he1, hV => by
    have hee := x_eye_of (xs μ0 t) (μ0 2) (μ0 1 4) w kd nu
    rcases Nat.lt_or_ge i 8 with hlt | hge
    · refine Zw_iload_6 dX10_stand_52 ?_
      refine Zw_bipush (v := 8) dX10_stand_54 (by decide) ?_
      refine Zw_icmp_ge 110 dX10_stand_56 (by decide) (fun c56 => absurd c56 (fun e => absurd ((zle (N := 8) rfl (by decide) (by omega)).mp e) (by omega))) (fun c56 => ?_)
      refine Zw_aload_0 dX10_stand_59 ?_
      refine Zw_getr 44 lf_X10_47 dX10_stand_60 (by first | decide | assumption | omega) (by first | rfl | assumption) (by rfl) ?_
      refine Zw_iload_6 dX10_stand_63 ?_
      refine Zw_bipush (v := 40) dX10_stand_65 (by decide) ?_
      refine Zw_V2 (k := 2) lm_X10_187 dX10_stand_67 (by decide) (by first | decide | assumption | omega) (by first | rfl | assumption) (by rfl) (Nat.le_of_ble_eq_true rfl) ?_
      refine s_fewest (n := 40) (R := x_hr (xs μ0 t) (μ0 2) (μ0 1 4) w kd nu i 40 T) hs1 hee.2 he1 hlt (by omega) hT (by rw [hO 1 (by simp)]; exact hth) (by rw [hO 2 (by simp)]; rfl) (fun hT0 μ2 hO2 f1 f2 => ?_) (fun hT0 μ2 hO2 f1 => ?_)
      · refine Zw_istore_7 dX10_stand_70 rfl ?_
        refine Zw_iload_7 dX10_stand_72 ?_
        refine Zw_iconst (v := (-1)) dX10_stand_74 (by decide) ?_
        refine Zw_icmp_eq 87 dX10_stand_75 (by decide) (fun c => absurd c (by decide)) (fun _ => ?_)
        refine Zw_iload_5 dX10_stand_78 ?_
        refine Zw_iconst (v := 1) dX10_stand_80 (by decide) ?_
        refine Zw_iload_6 dX10_stand_81 ?_
        refine Zw_ishl dX10_stand_83 ?_
        refine Zw_ior dX10_stand_84 ?_
        refine Zw_istore_5 dX10_stand_85 rfl ?_
        refine Zw_iload_7 dX10_stand_87 ?_
        refine Zw_iload_4 dX10_stand_89 ?_
        refine Zw_S2 (k := 0) lm_X10_193 dX10_stand_91 (by decide) (Nat.le_of_ble_eq_true rfl) ?_
        refine s_isLess (fun l1 l2 => ?_) (fun l1 => ?_)
        · have hlss := And.intro l1 l2
          refine Zw_if_eq 104 dX10_stand_94 (by decide) (fun c => absurd c (by decide)) (fun _ => ?_)
          refine Zw_iload_6 dX10_stand_97 ?_
          refine Zw_istore_3 dX10_stand_99 rfl ?_
          refine Zw_iload_7 dX10_stand_100 ?_
          refine Zw_istore_4 dX10_stand_102 rfl ?_
          refine Zw_iinc_6 dX10_stand_104 rfl (zincn _) ?_
          refine Zw_goto 52 dX10_stand_107 (by decide) ?_
          refine Zw_drop (L' := [.ref 0, .int x0, .int (nI c), .int (nI i), .int 0, .int (fr ||| q_bit i), .int (nI (i + 1)), .null]) ⟨Or.inr rfl, Or.inr rfl, Or.inr rfl, Or.inr rfl, Or.inr rfl, Or.inr rfl, Or.inr rfl, Or.inl rfl, trivial⟩ (Nat.le_of_ble_eq_true rfl) ?_
          have hv : (x_few (xs μ0 t) (μ0 2) (μ0 1 4) w kd nu i 40 T) = 0 := by rw [x_few, if_pos hT0]
          have hl : q_lss (x_few (xs μ0 t) (μ0 2) (μ0 1 4) w kd nu i 40 T) least = true := by rw [hv]; exact q_lss_t hlss
          rw [show 8 - i = (8 - (i + 1)) + 1 by omega, q_std_s] at hV
          simp only [hl] at hV
          rw [hv] at hV
          rw [if_neg (show ¬ (0 : Int32) = -1 by decide)] at hV
          exact l_stand hx hth hT hc h m (i + 1) _ _ _ μ2 (by omega) (by omega) (hO.tr (hO2.sub (by simp))) (fun S hS => by rw [hO2 45 (by simp)]; exact hs1 S hS) f1 hV
        · have hlss := l1
          refine Zw_if_eq 104 dX10_stand_94 (by decide) (fun _ => ?_) (fun c => absurd c (by decide))
          refine Zw_iinc_6 dX10_stand_104 rfl (zincn _) ?_
          refine Zw_goto 52 dX10_stand_107 (by decide) ?_
          refine Zw_drop (L' := [.ref 0, .int x0, .int (nI c), .int best, .int least, .int (fr ||| q_bit i), .int (nI (i + 1)), .null]) ⟨Or.inr rfl, Or.inr rfl, Or.inr rfl, Or.inr rfl, Or.inr rfl, Or.inr rfl, Or.inr rfl, Or.inl rfl, trivial⟩ (Nat.le_of_ble_eq_true rfl) ?_
          have hv : (x_few (xs μ0 t) (μ0 2) (μ0 1 4) w kd nu i 40 T) = 0 := by rw [x_few, if_pos hT0]
          have hl : q_lss (x_few (xs μ0 t) (μ0 2) (μ0 1 4) w kd nu i 40 T) least = false := by rw [hv]; exact q_lss_f hlss
          rw [show 8 - i = (8 - (i + 1)) + 1 by omega, q_std_s] at hV
          simp only [hl] at hV
          rw [hv] at hV
          rw [if_neg (show ¬ (0 : Int32) = -1 by decide)] at hV
          exact l_stand hx hth hT hc h m (i + 1) _ _ _ μ2 (by omega) (by omega) (hO.tr (hO2.sub (by simp))) (fun S hS => by rw [hO2 45 (by simp)]; exact hs1 S hS) f1 hV
      · refine Zw_istore_7 dX10_stand_70 rfl ?_
        refine Zw_iload_7 dX10_stand_72 ?_
        refine Zw_iconst (v := (-1)) dX10_stand_74 (by decide) ?_
        refine Zw_icmp_eq 87 dX10_stand_75 (by decide) (fun c75 => ?_) (fun c75 => ?_)
        · refine Zw_iload_7 dX10_stand_87 ?_
          refine Zw_iload_4 dX10_stand_89 ?_
          refine Zw_S2 (k := 0) lm_X10_193 dX10_stand_91 (by decide) (Nat.le_of_ble_eq_true rfl) ?_
          refine s_isLess (fun l1 l2 => ?_) (fun l1 => ?_)
          · have hlss := And.intro l1 l2
            refine Zw_if_eq 104 dX10_stand_94 (by decide) (fun c => absurd c (by decide)) (fun _ => ?_)
            refine Zw_iload_6 dX10_stand_97 ?_
            refine Zw_istore_3 dX10_stand_99 rfl ?_
            refine Zw_iload_7 dX10_stand_100 ?_
            refine Zw_istore_4 dX10_stand_102 rfl ?_
            refine Zw_iinc_6 dX10_stand_104 rfl (zincn _) ?_
            refine Zw_goto 52 dX10_stand_107 (by decide) ?_
            refine Zw_drop (L' := [.ref 0, .int x0, .int (nI c), .int (nI i), .int (x_hr (xs μ0 t) (μ0 2) (μ0 1 4) w kd nu i 40 T).1, .int fr, .int (nI (i + 1)), .null]) ⟨Or.inr rfl, Or.inr rfl, Or.inr rfl, Or.inr rfl, Or.inr rfl, Or.inr rfl, Or.inr rfl, Or.inl rfl, trivial⟩ (Nat.le_of_ble_eq_true rfl) ?_
            have hv : (x_few (xs μ0 t) (μ0 2) (μ0 1 4) w kd nu i 40 T) = (x_hr (xs μ0 t) (μ0 2) (μ0 1 4) w kd nu i 40 T).1 := by rw [x_few, if_neg hT0]
            have hl : q_lss (x_few (xs μ0 t) (μ0 2) (μ0 1 4) w kd nu i 40 T) least = true := by rw [hv]; exact q_lss_t hlss
            rw [show 8 - i = (8 - (i + 1)) + 1 by omega, q_std_s] at hV
            simp only [hl] at hV
            rw [hv] at hV
            rw [if_pos c75] at hV
            exact l_stand hx hth hT hc h m (i + 1) _ _ _ μ2 (by omega) (by omega) (hO.tr (hO2.sub (by simp))) (fun S hS => by rw [hO2 45 (by simp)]; exact hs1 S hS) f1.2.2.2.2.1 hV
          · have hlss := l1
            refine Zw_if_eq 104 dX10_stand_94 (by decide) (fun _ => ?_) (fun c => absurd c (by decide))
            refine Zw_iinc_6 dX10_stand_104 rfl (zincn _) ?_
            refine Zw_goto 52 dX10_stand_107 (by decide) ?_
            refine Zw_drop (L' := [.ref 0, .int x0, .int (nI c), .int best, .int least, .int fr, .int (nI (i + 1)), .null]) ⟨Or.inr rfl, Or.inr rfl, Or.inr rfl, Or.inr rfl, Or.inr rfl, Or.inr rfl, Or.inr rfl, Or.inl rfl, trivial⟩ (Nat.le_of_ble_eq_true rfl) ?_
            have hv : (x_few (xs μ0 t) (μ0 2) (μ0 1 4) w kd nu i 40 T) = (x_hr (xs μ0 t) (μ0 2) (μ0 1 4) w kd nu i 40 T).1 := by rw [x_few, if_neg hT0]
            have hl : q_lss (x_few (xs μ0 t) (μ0 2) (μ0 1 4) w kd nu i 40 T) least = false := by rw [hv]; exact q_lss_f hlss
            rw [show 8 - i = (8 - (i + 1)) + 1 by omega, q_std_s] at hV
            simp only [hl] at hV
            rw [hv] at hV
            rw [if_pos c75] at hV
            exact l_stand hx hth hT hc h m (i + 1) _ _ _ μ2 (by omega) (by omega) (hO.tr (hO2.sub (by simp))) (fun S hS => by rw [hO2 45 (by simp)]; exact hs1 S hS) f1.2.2.2.2.1 hV
        · refine Zw_iload_5 dX10_stand_78 ?_
          refine Zw_iconst (v := 1) dX10_stand_80 (by decide) ?_
          refine Zw_iload_6 dX10_stand_81 ?_
          refine Zw_ishl dX10_stand_83 ?_
          refine Zw_ior dX10_stand_84 ?_
          refine Zw_istore_5 dX10_stand_85 rfl ?_
          refine Zw_iload_7 dX10_stand_87 ?_
          refine Zw_iload_4 dX10_stand_89 ?_
          refine Zw_S2 (k := 0) lm_X10_193 dX10_stand_91 (by decide) (Nat.le_of_ble_eq_true rfl) ?_
          refine s_isLess (fun l1 l2 => ?_) (fun l1 => ?_)
          · have hlss := And.intro l1 l2
            refine Zw_if_eq 104 dX10_stand_94 (by decide) (fun c => absurd c (by decide)) (fun _ => ?_)
            refine Zw_iload_6 dX10_stand_97 ?_
            refine Zw_istore_3 dX10_stand_99 rfl ?_
            refine Zw_iload_7 dX10_stand_100 ?_
            refine Zw_istore_4 dX10_stand_102 rfl ?_
            refine Zw_iinc_6 dX10_stand_104 rfl (zincn _) ?_
            refine Zw_goto 52 dX10_stand_107 (by decide) ?_
            refine Zw_drop (L' := [.ref 0, .int x0, .int (nI c), .int (nI i), .int (x_hr (xs μ0 t) (μ0 2) (μ0 1 4) w kd nu i 40 T).1, .int (fr ||| q_bit i), .int (nI (i + 1)), .null]) ⟨Or.inr rfl, Or.inr rfl, Or.inr rfl, Or.inr rfl, Or.inr rfl, Or.inr rfl, Or.inr rfl, Or.inl rfl, trivial⟩ (Nat.le_of_ble_eq_true rfl) ?_
            have hv : (x_few (xs μ0 t) (μ0 2) (μ0 1 4) w kd nu i 40 T) = (x_hr (xs μ0 t) (μ0 2) (μ0 1 4) w kd nu i 40 T).1 := by rw [x_few, if_neg hT0]
            have hl : q_lss (x_few (xs μ0 t) (μ0 2) (μ0 1 4) w kd nu i 40 T) least = true := by rw [hv]; exact q_lss_t hlss
            rw [show 8 - i = (8 - (i + 1)) + 1 by omega, q_std_s] at hV
            simp only [hl] at hV
            rw [hv] at hV
            rw [if_neg c75] at hV
            exact l_stand hx hth hT hc h m (i + 1) _ _ _ μ2 (by omega) (by omega) (hO.tr (hO2.sub (by simp))) (fun S hS => by rw [hO2 45 (by simp)]; exact hs1 S hS) f1.2.2.2.2.1 hV
          · have hlss := l1
            refine Zw_if_eq 104 dX10_stand_94 (by decide) (fun _ => ?_) (fun c => absurd c (by decide))
            refine Zw_iinc_6 dX10_stand_104 rfl (zincn _) ?_
            refine Zw_goto 52 dX10_stand_107 (by decide) ?_
            refine Zw_drop (L' := [.ref 0, .int x0, .int (nI c), .int best, .int least, .int (fr ||| q_bit i), .int (nI (i + 1)), .null]) ⟨Or.inr rfl, Or.inr rfl, Or.inr rfl, Or.inr rfl, Or.inr rfl, Or.inr rfl, Or.inr rfl, Or.inl rfl, trivial⟩ (Nat.le_of_ble_eq_true rfl) ?_
            have hv : (x_few (xs μ0 t) (μ0 2) (μ0 1 4) w kd nu i 40 T) = (x_hr (xs μ0 t) (μ0 2) (μ0 1 4) w kd nu i 40 T).1 := by rw [x_few, if_neg hT0]
            have hl : q_lss (x_few (xs μ0 t) (μ0 2) (μ0 1 4) w kd nu i 40 T) least = false := by rw [hv]; exact q_lss_f hlss
            rw [show 8 - i = (8 - (i + 1)) + 1 by omega, q_std_s] at hV
            simp only [hl] at hV
            rw [hv] at hV
            rw [if_neg c75] at hV
            exact l_stand hx hth hT hc h m (i + 1) _ _ _ μ2 (by omega) (by omega) (hO.tr (hO2.sub (by simp))) (fun S hS => by rw [hO2 45 (by simp)]; exact hs1 S hS) f1.2.2.2.2.1 hV
    · rw [show 8 - i = 0 by omega] at hV
      subst hV
      have hq := h μ hO
      match c, hc with
      | 0, _ =>
        refine Zw_iload_6 dX10_stand_52 ?_
        refine Zw_bipush (v := 8) dX10_stand_54 (by decide) ?_
        refine Zw_nicmp_ge (i) (8) 110 dX10_stand_56 (by decide) rfl rfl (by omega) (by omega) (fun c56 => ?_) (fun c56 => ?_)
        · refine Zw_iload_2 dX10_stand_110 ?_
          refine Zw_iconst (v := 2) dX10_stand_111 (by decide) ?_
          refine Zw_icmp_ne 118 dX10_stand_112 (by decide) (fun _ => ?_) (fun c => absurd c (by decide))
          refine Zw_iload_2 dX10_stand_118 ?_
          refine Zw_if_ne 126 dX10_stand_119 (by decide) (fun c => absurd c (by decide)) (fun _ => ?_)
          refine Zw_iload_3 dX10_stand_122 ?_
          refine Zw_goto 128 dX10_stand_123 (by decide) ?_
          refine Zw_ireturn dX10_stand_128 (by first | rfl | assumption) ?_
          exact hq
        · omega
      | 1, _ =>
        refine Zw_iload_6 dX10_stand_52 ?_
        refine Zw_bipush (v := 8) dX10_stand_54 (by decide) ?_
        refine Zw_nicmp_ge (i) (8) 110 dX10_stand_56 (by decide) rfl rfl (by omega) (by omega) (fun c56 => ?_) (fun c56 => ?_)
        · refine Zw_iload_2 dX10_stand_110 ?_
          refine Zw_iconst (v := 2) dX10_stand_111 (by decide) ?_
          refine Zw_icmp_ne 118 dX10_stand_112 (by decide) (fun _ => ?_) (fun c => absurd c (by decide))
          refine Zw_iload_2 dX10_stand_118 ?_
          refine Zw_if_ne 126 dX10_stand_119 (by decide) (fun _ => ?_) (fun c => absurd c (by decide))
          refine Zw_iload_4 dX10_stand_126 ?_
          refine Zw_ireturn dX10_stand_128 (by first | rfl | assumption) ?_
          exact hq
        · omega
      | 2, _ =>
        refine Zw_iload_6 dX10_stand_52 ?_
        refine Zw_bipush (v := 8) dX10_stand_54 (by decide) ?_
        refine Zw_nicmp_ge (i) (8) 110 dX10_stand_56 (by decide) rfl rfl (by omega) (by omega) (fun c56 => ?_) (fun c56 => ?_)
        · refine Zw_iload_2 dX10_stand_110 ?_
          refine Zw_iconst (v := 2) dX10_stand_111 (by decide) ?_
          refine Zw_icmp_ne 118 dX10_stand_112 (by decide) (fun c => absurd c (by decide)) (fun _ => ?_)
          refine Zw_iload_5 dX10_stand_115 ?_
          refine Zw_ireturn dX10_stand_117 (by first | rfl | assumption) ?_
          exact hq
        · omega
      | n + 3, hc => exact absurd hc (by omega)
set_option maxRecDepth 20000 in
theorem s_X_stand {x what : Int32} {cnt t n w T : Nat} {Q : zQ} {μ : zMu} {τ : Int64} (hx : x_ok μ cnt t n w) (hth : μ 1 6 = nI T) (hT : T < 256) (hbad : ¬ (vp_in x n ∧ vp_in what 3) → Q (some (.int (-2))) μ τ) (h : ∀ f kd nu a, f < n → x = nI f → μ (4 + f) 0 = nI kd → kd < 6 → μ (4 + f) 1 = nI nu → nu < 10 → μ (4 + f) 2 = nI a → a < 8 → ∀ c, c < 3 → what = nI c → ∀ μ2, zOff [19, 20, 43, 44, 45, 46, 47] μ μ2 → Q (some (.int (q_p3 (q_std (fun p => x_few (xs μ t) (μ 2) (μ 1 4) w kd nu p 40 T) 8 0 (-1, -1, 0)) c))) μ2 τ) : Zc 5 yX10_stand cX10_stand 8 (some .int) [.ref 0, .int x, .int what] μ τ Q := by
  refine Zc.mk 5 [.ref 0, .int x, .int what, .null, .null, .null, .null, .null] rfl (by decide) (Nat.le_of_ble_eq_true rfl) ?_
  have hn5 := hx.2.1.1
  have hn := hx.2.1.2.1
  refine Zw_iload_1 dX10_stand_0 ?_
  refine Zw_aload_0 dX10_stand_1 ?_
  refine Zw_getr 1 lf_X10_10 dX10_stand_2 (by first | decide | assumption | omega) (by first | rfl | assumption) (by rfl) ?_
  refine Zw_geti lf_X10_80 dX10_stand_5 (by first | decide | assumption | omega) (by first | rfl | assumption) (by rfl) ?_
  refine Zw_S2 (k := 0) lm_X10_76 dX10_stand_8 (by decide) (Nat.le_of_ble_eq_true rfl) ?_
  refine s_within n (by rw [hn]; exact nI_toInt (by omega)) (fun b1 => ?_) (fun b1 => ?_)
  · refine Zw_if_eq 22 dX10_stand_11 (by decide) (fun c => absurd c (by decide)) (fun _ => ?_)
    refine Zw_iload_2 dX10_stand_14 ?_
    refine Zw_iconst (v := 3) dX10_stand_15 (by decide) ?_
    refine Zw_S2 (k := 0) lm_X10_76 dX10_stand_16 (by decide) (Nat.le_of_ble_eq_true rfl) ?_
    refine s_within 3 (by decide) (fun b2 => ?_) (fun b2 => ?_)
    · refine Zw_if_ne 25 dX10_stand_19 (by decide) (fun _ => ?_) (fun c => absurd c (by decide))
      obtain ⟨f, hf, rfl⟩ := vp_in_of b1 (by omega)
      obtain ⟨kd, nu, a, g1, g2, g3, g4, g5, g6⟩ := hx.2.1.2.2 f hf
      have hsf := zfin_s (show f < 5 by omega)
      obtain ⟨c, hc, rfl⟩ := vp_in_of b2 (by decide)
      refine Zw_aload_0 dX10_stand_25 ?_
      refine Zw_getr 44 lf_X10_47 dX10_stand_26 (by first | decide | assumption | omega) (by first | rfl | assumption) (by rfl) ?_
      refine Zw_aload_0 dX10_stand_29 ?_
      refine Zw_getr 1 lf_X10_10 dX10_stand_30 (by first | decide | assumption | omega) (by first | rfl | assumption) (by rfl) ?_
      refine Zw_getr 3 lf_X10_109 dX10_stand_33 (by first | decide | assumption | omega) (by first | rfl | assumption) (by rfl) ?_
      refine Zw_iload_1 dX10_stand_36 ?_
      refine Zw_aaldn (f) (4 + f) dX10_stand_37 (by first | decide | assumption | omega) (by first | rfl | assumption) rfl (by omega) (zfin_g (by omega)) (by decide) ?_
      refine Zw_V1 (k := 4) lm_X10_183 dX10_stand_38 (by decide) (by first | decide | assumption | omega) (by first | rfl | assumption) (by rfl) (Nat.le_of_ble_eq_true rfl) ?_
      refine s_prepare (by omega) hsf (by omega) (by have := hx.2.2.2.1; omega) hx.2.2.1 hx.1 g1 g2 g3 g4 (fun μ1 hO1 v1 v2 => ?_)
      have hs1 := x_sp_of v1
      have hee := x_eye_of (xs μ t) (μ 2) (μ 1 4) w kd nu
      have he1 : μ1 44 6 = nI (x_eye (xs μ t) (μ 2) (μ 1 4) w kd nu) := v2.trans hee.1
      refine Zw_iconst (v := (-1)) dX10_stand_41 (by decide) ?_
      refine Zw_istore_3 dX10_stand_42 rfl ?_
      refine Zw_iconst (v := (-1)) dX10_stand_43 (by decide) ?_
      refine Zw_istore_4 dX10_stand_44 rfl ?_
      refine Zw_iconst (v := 0) dX10_stand_46 (by decide) ?_
      refine Zw_istore_5 dX10_stand_47 rfl ?_
      refine Zw_iconst (v := 0) dX10_stand_49 (by decide) ?_
      refine Zw_istore_6 dX10_stand_50 rfl ?_
      exact l_stand hx hth hT hc (h f kd nu a hf rfl g1 g2 g3 g4 g5 g6 c hc rfl) 9 0 _ _ _ μ1 (by omega) (by omega) (hO1.sub (by simp)) hs1 he1 rfl
    · refine Zw_if_ne 25 dX10_stand_19 (by decide) (fun c => absurd c (by decide)) (fun _ => ?_)
      refine Zw_bipush (v := (-2)) dX10_stand_22 (by decide) ?_
      refine Zw_ireturn dX10_stand_24 (by first | rfl | assumption) ?_
      exact hbad (fun e => b2 e.2)
  · refine Zw_if_eq 22 dX10_stand_11 (by decide) (fun _ => ?_) (fun c => absurd c (by decide))
    refine Zw_bipush (v := (-2)) dX10_stand_22 (by decide) ?_
    refine Zw_ireturn dX10_stand_24 (by first | rfl | assumption) ?_
    exact hbad (fun e => b1 e.1)
theorem r8_wo : ∀ b, b < 8 → ∀ v, v < 256 → q_has (nI v) b = true → ((nI v &&& (((1 : Int32) <<< (nI b &&& 31)) ^^^ (-1))) ||| ((1 : Int32) <<< (nI b &&& 31))) = nI v := by decide +kernel
def x_ln (μ : zMu) : Prop := ∀ p, p < 8 → ∃ v, v < 256 ∧ μ 2 p = nI v
def q_cutl (ln : Nat → Int32) (a b : Nat) : Nat → Int32 := upd (upd ln a (ln a &&& ((1 <<< (nI b &&& 31)) ^^^ (-1)))) b (ln b &&& ((1 <<< (nI a &&& 31)) ^^^ (-1)))
theorem q_cutl_back {ln : Nat → Int32} {a b : Nat} (hb8 : b < 8) (ha8 : a < 8) (hab : b ≠ a) (ha : ∃ v, v < 256 ∧ ln a = nI v) (hb : ∃ v, v < 256 ∧ ln b = nI v) (h1 : q_has (ln a) b = true) (h2 : q_has (ln b) a = true) : upd (upd (q_cutl ln a b) a ((q_cutl ln a b) a ||| (1 <<< (nI b &&& 31)))) b ((q_cutl ln a b) b ||| (1 <<< (nI a &&& 31))) = ln := by
  obtain ⟨v, hv, ev⟩ := ha
  obtain ⟨u, hu, eu⟩ := hb
  rw [ev] at h1
  rw [eu] at h2
  have k1 := r8_wo b hb8 v hv h1
  have k2 := r8_wo a ha8 u hu h2
  funext q
  simp only [q_cutl, upd]
  by_cases e1 : q = b
  · subst e1
    simp only [hab, eu, if_true, if_false, ite_true, ite_false, k2]
  · by_cases e2 : q = a
    · subst e2
      simp only [Ne.symm hab, ev, if_true, if_false, ite_true, ite_false, k1]
    · simp [e1, e2]
theorem x_ok_ln {μ : zMu} {cnt t n w : Nat} {f : Nat → Int32} (hx : x_ok μ cnt t n w) : x_ok (zar μ 2 f) cnt t n w ∧ xs (zar μ 2 f) t = xs μ t := by
  have ht : t < 6 := by have := hx.1.2.1; have := hx.1.2.2.2.1; omega
  have hn5 := hx.2.1.1
  have e1 : xs (zar μ 2 f) t = xs μ t := by
    funext c env
    unfold xs xsay
    rw [zar_ne (by omega), zar_ne (by omega)]
  obtain ⟨h1, h2, h3, h4, h5⟩ := hx
  refine ⟨⟨⟨by rw [zar_ne (by omega)]; exact h1.1, h1.2.1, by rw [zar_ne (by omega)]; exact h1.2.2.1, h1.2.2.2.1, ?_⟩, ⟨h2.1, by rw [zar_ne (by omega)]; exact h2.2.1, fun f hf => by rw [zar_ne (by omega)]; exact h2.2.2 f hf⟩, by rw [zar_ne (by omega)]; exact h3, h4, ?_⟩, e1⟩
  · unfold x_tx
    rw [zar_ne (by omega), zar_ne (by omega)]
    exact h1.2.2.2.2
  · unfold x_nw
    rw [e1, zar_ne (by omega)]
    exact h5
theorem zup2_zar (μ : zMu) (k a b : Nat) (x y : Int32) : zup (zup μ k a x) k b y = zar μ k (upd (upd (μ k) a x) b y) := by
  rw [zup_as μ k a x, zup_zar]
theorem zar_zar (μ : zMu) (k : Nat) (f g : Nat → Int32) : zar (zar μ k f) k g = zar μ k g := by
  funext q
  by_cases e : q = k
  · subst e; rw [zar_eq, zar_eq]
  · rw [zar_ne e, zar_ne e, zar_ne e]
theorem zOff.zar2 {S : List Nat} {μ μ' : zMu} {f : Nat → Int32} (hS : 2 ∉ S) (h : zOff S (zar μ 2 f) μ') : zOff S μ (zar μ' 2 (μ 2)) := by
  intro q hq
  by_cases e : q = 2
  · subst e; rw [zar_eq]
  · rw [zar_ne e, h q hq, zar_ne e]
set_option maxRecDepth 20000 in
theorem s_without {a b k kd nu at0 cnt t n w T : Nat} {Q : zQ} {μ : zMu} {τ : Int64} (hx : x_ok μ cnt t n w) (hth : μ 1 6 = nI T) (hT : T < 256) (hln : x_ln μ) (ha : a < 8) (hb : b < 8) (hab : b ≠ a) (h1 : q_has (μ 2 a) b = true) (h2 : q_has (μ 2 b) a = true) (hk : k < 78) (hs : zSh k = .inl (3, [0, 0, 0, 0])) (hk4 : 4 ≤ k) (hk19 : k < 19) (g1 : μ k 0 = nI kd) (g2 : kd < 6) (g3 : μ k 1 = nI nu) (g4 : nu < 10) (g5 : μ k 2 = nI at0) (g6 : at0 < 8) (h : ∀ μ2, zOff [19, 20, 43, 44, 45, 46, 47] μ μ2 → Q (some (.int (x_few (xs μ t) (q_cutl (μ 2) a b) (μ 1 4) w kd nu at0 40 T))) μ2 τ) : Zc 5 yX4_fewestWithout cX4_fewestWithout 5 (some .int) [.ref 44, .int (nI a), .int (nI b), .ref k] μ τ Q := by
  refine Zc.mk 1 [.ref 44, .int (nI a), .int (nI b), .ref k, .null] rfl (by decide) (Nat.le_of_ble_eq_true rfl) ?_
  refine Zw_aload_0 dX4_fewestWithout_0 ?_
  refine Zw_getr 1 lf_X4_21 dX4_fewestWithout_1 (by first | decide | assumption | omega) (by first | rfl | assumption) (by rfl) ?_
  refine Zw_iload_1 dX4_fewestWithout_4 ?_
  refine Zw_iload_2 dX4_fewestWithout_5 ?_
  refine Zw_iconst (v := 0) dX4_fewestWithout_6 (by decide) ?_
  refine Zw_V3 (k := 0) lm_X4_52 dX4_fewestWithout_7 (by decide) (by first | decide | assumption | omega) (by first | rfl | assumption) (by rfl) (Nat.le_of_ble_eq_true rfl) ?_
  refine s_putLane0 ha hb hab ?_
  rw [zup2_zar, show ∀ x y, upd (upd (μ 2) a x) b y = upd (upd (μ 2) a x) b y from fun _ _ => rfl]
  change Zw _ _ _ _ _ _ _ _ _ (zar μ 2 (q_cutl (μ 2) a b)) _
  have hxl := x_ok_ln (f := q_cutl (μ 2) a b) hx
  refine Zw_aload_0 dX4_fewestWithout_10 ?_
  refine Zw_aload_3 dX4_fewestWithout_11 ?_
  refine Zw_V1 (k := 4) lm_X4_56 dX4_fewestWithout_12 (by decide) (by first | decide | assumption | omega) (by first | rfl | assumption) (by rfl) (Nat.le_of_ble_eq_true rfl) ?_
  refine s_prepare hk hs hk19 (by have := hx.2.2.2.1; omega) hxl.1.2.2.1 hxl.1.1 (by rw [zar_ne (by omega)]; exact g1) g2 (by rw [zar_ne (by omega)]; exact g3) g4 (fun μ1 hO1 v1 v2 => ?_)
  rw [hxl.2, zar_eq, zar_ne (show (1 : Nat) ≠ 2 by omega)] at v1 v2
  have hs1 := x_sp_of v1
  have hee := x_eye_of (xs μ t) (q_cutl (μ 2) a b) (μ 1 4) w kd nu
  have he1 : μ1 44 6 = nI (x_eye (xs μ t) (q_cutl (μ 2) a b) (μ 1 4) w kd nu) := v2.trans hee.1
  refine Zw_aload_0 dX4_fewestWithout_15 ?_
  refine Zw_aload_3 dX4_fewestWithout_16 ?_
  refine Zw_getv (nI at0) lf_X4_60 dX4_fewestWithout_17 (by first | decide | assumption | omega) (by first | rfl | assumption) (by rfl) (by rw [hO1 k (by simp; omega), zar_ne (by omega)]; exact g5) ?_
  refine Zw_bipush (v := 40) dX4_fewestWithout_20 (by decide) ?_
  refine Zw_V2 (k := 2) lm_X4_65 dX4_fewestWithout_22 (by decide) (by first | decide | assumption | omega) (by first | rfl | assumption) (by rfl) (Nat.le_of_ble_eq_true rfl) ?_
  refine s_fewest (n := 40) (R := x_hr (xs μ t) (q_cutl (μ 2) a b) (μ 1 4) w kd nu at0 40 T) hs1 hee.2 he1 g6 (by omega) hT (by rw [hO1 1 (by simp), zar_ne (by omega)]; exact hth) (by rw [hO1 2 (by simp), zar_eq]; rfl) (fun hT0 μ2 hO2 f1 f2 => ?_) (fun hT0 μ2 hO2 f1 => ?_)
  · refine Zw_istore_4 dX4_fewestWithout_25 rfl ?_
    refine Zw_aload_0 dX4_fewestWithout_27 ?_
    refine Zw_getr 1 lf_X4_21 dX4_fewestWithout_28 (by first | decide | assumption | omega) (by first | rfl | assumption) (by rfl) ?_
    refine Zw_iload_1 dX4_fewestWithout_31 ?_
    refine Zw_iload_2 dX4_fewestWithout_32 ?_
    refine Zw_iconst (v := 1) dX4_fewestWithout_33 (by decide) ?_
    refine Zw_V3 (k := 0) lm_X4_52 dX4_fewestWithout_34 (by decide) (by first | decide | assumption | omega) (by first | rfl | assumption) (by rfl) (Nat.le_of_ble_eq_true rfl) ?_
    have hOz : zOff [19, 20, 43, 44, 45, 46, 47] μ (zar μ2 2 (μ 2)) := zOff.zar2 (by simp) ((hO1.sub (by simp)).tr (hO2.sub (by simp)))
    refine s_putLane1 ha hb hab ?_
    refine Zw_iload_4 dX4_fewestWithout_37 ?_
    refine Zw_ireturn dX4_fewestWithout_39 (by first | rfl | assumption) ?_
    have hq := h (zar μ2 2 (μ 2)) hOz
    rw [x_few, if_pos hT0] at hq
    have eln : μ2 2 = q_cutl (μ 2) a b := by rw [hO2 2 (by simp), hO1 2 (by simp), zar_eq]
    rw [zup2_zar, eln, q_cutl_back hb ha hab (hln a ha) (hln b hb) h1 h2]
    exact hq
  · refine Zw_istore_4 dX4_fewestWithout_25 rfl ?_
    refine Zw_aload_0 dX4_fewestWithout_27 ?_
    refine Zw_getr 1 lf_X4_21 dX4_fewestWithout_28 (by first | decide | assumption | omega) (by first | rfl | assumption) (by rfl) ?_
    refine Zw_iload_1 dX4_fewestWithout_31 ?_
    refine Zw_iload_2 dX4_fewestWithout_32 ?_
    refine Zw_iconst (v := 1) dX4_fewestWithout_33 (by decide) ?_
    refine Zw_V3 (k := 0) lm_X4_52 dX4_fewestWithout_34 (by decide) (by first | decide | assumption | omega) (by first | rfl | assumption) (by rfl) (Nat.le_of_ble_eq_true rfl) ?_
    have hOz : zOff [19, 20, 43, 44, 45, 46, 47] μ (zar μ2 2 (μ 2)) := zOff.zar2 (by simp) ((hO1.sub (by simp)).tr (hO2.sub (by simp)))
    refine s_putLane1 ha hb hab ?_
    refine Zw_iload_4 dX4_fewestWithout_37 ?_
    refine Zw_ireturn dX4_fewestWithout_39 (by first | rfl | assumption) ?_
    have hq := h (zar μ2 2 (μ 2)) hOz
    rw [x_few, if_neg hT0] at hq
    have eln : μ2 2 = q_cutl (μ 2) a b := by rw [hO2 2 (by simp), hO1 2 (by simp), zar_eq]
    rw [zup2_zar, eln, q_cutl_back hb ha hab (hln a ha) (hln b hb) h1 h2]
    exact hq
