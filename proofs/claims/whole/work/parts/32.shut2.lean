def q_sh1 (ln : Nat → Int32) (F : Nat → Nat → Int32) (i j : Nat) (s : Int32 × Int32) : Int32 × Int32 := if q_has (ln i) j then (if q_lss (F i j) s.2 then (nI (10 * i + j), F i j) else s) else s
def q_shx (ln : Nat → Int32) (F : Nat → Nat → Int32) : Nat → Nat → Nat → Int32 × Int32 → Int32 × Int32
  | 0, _, _, s => s
  | m + 1, i, j, s => if j < 8 then q_shx ln F m i (j + 1) (q_sh1 ln F i j s) else if i + 1 < 8 then q_shx ln F m (i + 1) (i + 2) s else s
theorem q_shx_s (ln : Nat → Int32) (F : Nat → Nat → Int32) (m i j : Nat) (s : Int32 × Int32) : q_shx ln F (m + 1) i j s = if j < 8 then q_shx ln F m i (j + 1) (q_sh1 ln F i j s) else if i + 1 < 8 then q_shx ln F m (i + 1) (i + 2) s else s := rfl
def q_p2 (r : Int32 × Int32) : Nat → Int32
  | 0 => r.1
  | _ => r.2
def x_sy (μ : zMu) : Prop := ∀ p q, p < 8 → q < 8 → q_has (μ 2 p) q = q_has (μ 2 q) p
theorem q_has_of {v : Int32} {q : Nat} (h : ¬ ((v >>> (nI q &&& 31)) &&& 1) = 0) : q_has v q = true := by unfold q_has; exact decide_eq_true h
theorem q_has_no {v : Int32} {q : Nat} (h : ((v >>> (nI q &&& 31)) &&& 1) = 0) : q_has v q = false := by unfold q_has; exact decide_eq_false (fun e => e h)
set_option maxRecDepth 20000 in
theorem l_shut {Q : zQ} {μ0 : zMu} {τ : Int64} {x0 : Int32} {cnt t n w kd nu at0 T c f : Nat} {R : Int32 × Int32} (hx : x_ok μ0 cnt t n w) (hth : μ0 1 6 = nI T) (hT : T < 256) (hln : x_ln μ0) (hsy : x_sy μ0) (hf5 : f < 5) (g1 : μ0 (4 + f) 0 = nI kd) (g2 : kd < 6) (g3 : μ0 (4 + f) 1 = nI nu) (g4 : nu < 10) (g5 : μ0 (4 + f) 2 = nI at0) (g6 : at0 < 8) (hc : c < 2) (h : ∀ μ2, zOff [19, 20, 43, 44, 45, 46, 47] μ0 μ2 → Q (some (.int (q_p2 R c))) μ2 τ) : ∀ m i j best least μ, 9 * (8 - i) + (8 - j) < m → i < 8 → i < j → j ≤ 8 → zOff [19, 20, 43, 44, 45, 46, 47] μ0 μ → q_shx (μ0 2) (fun i j => x_few (xs μ0 t) (q_cutl (μ0 2) i j) (μ0 1 4) w kd nu at0 40 T) m i j (best, least) = R → Zw 6 RX10 cX10_shut 9 (some .int) Q 77 [.ref 0, .int x0, .int (nI c), .ref (4 + f), .int best, .int least, .int (nI i), .int (nI j), .null] [] μ τ
  | 0, i, j, _, _, _, hm, _, _, _, _, _ => absurd hm (by omega)
  | m + 1, i, j, best, least, μ, hm, hi, hij, hj, hO, hV => by
    have hsf := zfin_s (show f < 5 by omega)
    rcases Nat.lt_or_ge j 8 with hlt | hge
    · refine Zw_iload_7 dX10_shut_77 ?_
      refine Zw_bipush (v := 8) dX10_shut_79 (by decide) ?_
      refine Zw_icmp_ge 149 dX10_shut_81 (by decide) (fun c81 => absurd c81 (fun e => absurd ((zle (N := 8) rfl (by decide) (by omega)).mp e) (by omega))) (fun c81 => ?_)
      refine Zw_aload_0 dX10_shut_84 ?_
      refine Zw_getr 1 lf_X10_10 dX10_shut_85 (by first | decide | assumption | omega) (by first | rfl | assumption) (by rfl) ?_
      refine Zw_getr 2 lf_X10_92 dX10_shut_88 (by first | decide | assumption | omega) (by first | rfl | assumption) (by rfl) ?_
      refine Zw_iload_6 dX10_shut_91 ?_
      refine Zw_ialdnv (i) (μ0 2 i) dX10_shut_93 (by first | decide | assumption | omega) (by first | rfl | assumption) rfl (by omega) (by decide) (by rw [hO 2 (by simp)]) ?_
      refine Zw_iload_7 dX10_shut_94 ?_
      refine Zw_ishr dX10_shut_96 ?_
      refine Zw_iconst (v := 1) dX10_shut_97 (by decide) ?_
      refine Zw_iand dX10_shut_98 ?_
      refine Zw_if_ne 105 dX10_shut_99 (by decide) (fun c99 => ?_) (fun c99 => ?_)
      · have hbit : ¬ (((μ0 2 i) >>> (nI j &&& 31)) &&& 1) = 0 := c99
        refine Zw_aload_0 dX10_shut_105 ?_
        refine Zw_getr 44 lf_X10_47 dX10_shut_106 (by first | decide | assumption | omega) (by first | rfl | assumption) (by rfl) ?_
        refine Zw_iload_6 dX10_shut_109 ?_
        refine Zw_iload_7 dX10_shut_111 ?_
        refine Zw_aload_3 dX10_shut_113 ?_
        refine Zw_V3 (k := 5) lm_X10_196 dX10_shut_114 (by decide) (by first | decide | assumption | omega) (by first | rfl | assumption) (by rfl) (Nat.le_of_ble_eq_true rfl) ?_
        refine s_without (hx.off (hO.sub (by simp [zSC]))) (by rw [hO 1 (by simp)]; exact hth) hT (fun p hp => by rw [hO 2 (by simp)]; exact hln p hp) hi hlt (by omega) (by rw [hO 2 (by simp)]; exact q_has_of hbit) (by rw [hO 2 (by simp), ← hsy i j hi hlt]; exact q_has_of hbit) (by omega) hsf (by omega) (by omega) (by rw [hO (4 + f) (by simp; omega)]; exact g1) g2 (by rw [hO (4 + f) (by simp; omega)]; exact g3) g4 (by rw [hO (4 + f) (by simp; omega)]; exact g5) g6 (fun μ2 hO2 => ?_)
        rw [xs_off (by have := hx.1.2.1; have := hx.1.2.2.2.1; omega) (hO.sub (by simp [zSC])), hO 2 (by simp), hO 1 (by simp)]
        refine Zw_istore_8 dX10_shut_117 rfl ?_
        refine Zw_iload_8 dX10_shut_119 ?_
        refine Zw_iload_5 dX10_shut_121 ?_
        refine Zw_S2 (k := 0) lm_X10_193 dX10_shut_123 (by decide) (Nat.le_of_ble_eq_true rfl) ?_
        refine s_isLess (fun l1 l2 => ?_) (fun l1 => ?_)
        · refine Zw_if_eq 143 dX10_shut_126 (by decide) (fun c => absurd c (by decide)) (fun _ => ?_)
          refine Zw_bipush (v := 10) dX10_shut_129 (by decide) ?_
          refine Zw_iload_6 dX10_shut_131 ?_
          refine Zw_nmul (10) (i) dX10_shut_133 rfl rfl ?_
          refine Zw_iload_7 dX10_shut_134 ?_
          refine Zw_nadd ((10 * i)) (j) dX10_shut_136 rfl rfl ?_
          refine Zw_istore_4 dX10_shut_137 rfl ?_
          refine Zw_iload_8 dX10_shut_139 ?_
          refine Zw_istore_5 dX10_shut_141 rfl ?_
          refine Zw_iinc_7 dX10_shut_143 rfl (zincn _) ?_
          refine Zw_goto 77 dX10_shut_146 (by decide) ?_
          refine Zw_drop (L' := [.ref 0, .int x0, .int (nI c), .ref (4 + f), .int (nI (10 * i + j)), .int (x_few (xs μ0 t) (q_cutl (μ0 2) i j) (μ0 1 4) w kd nu at0 40 T), .int (nI i), .int (nI (j + 1)), .null]) ⟨Or.inr rfl, Or.inr rfl, Or.inr rfl, Or.inr rfl, Or.inr rfl, Or.inr rfl, Or.inr rfl, Or.inr rfl, Or.inl rfl, trivial⟩ (Nat.le_of_ble_eq_true rfl) ?_
          rw [q_shx_s, if_pos (by omega)] at hV
          rw [q_sh1, q_has_of hbit, if_pos rfl, q_lss_t ⟨l1, l2⟩, if_pos rfl] at hV
          exact l_shut hx hth hT hln hsy hf5 g1 g2 g3 g4 g5 g6 hc h m i (j + 1) _ _ μ2 (by omega) hi (by omega) (by omega) (hO.tr hO2) hV
        · refine Zw_if_eq 143 dX10_shut_126 (by decide) (fun _ => ?_) (fun c => absurd c (by decide))
          refine Zw_iinc_7 dX10_shut_143 rfl (zincn _) ?_
          refine Zw_goto 77 dX10_shut_146 (by decide) ?_
          refine Zw_drop (L' := [.ref 0, .int x0, .int (nI c), .ref (4 + f), .int best, .int least, .int (nI i), .int (nI (j + 1)), .null]) ⟨Or.inr rfl, Or.inr rfl, Or.inr rfl, Or.inr rfl, Or.inr rfl, Or.inr rfl, Or.inr rfl, Or.inr rfl, Or.inl rfl, trivial⟩ (Nat.le_of_ble_eq_true rfl) ?_
          rw [q_shx_s, if_pos (by omega)] at hV
          rw [q_sh1, q_has_of hbit, if_pos rfl, q_lss_f l1, if_neg (by decide)] at hV
          exact l_shut hx hth hT hln hsy hf5 g1 g2 g3 g4 g5 g6 hc h m i (j + 1) _ _ μ2 (by omega) hi (by omega) (by omega) (hO.tr hO2) hV
      · have hbit : (((μ0 2 i) >>> (nI j &&& 31)) &&& 1) = 0 := c99
        refine Zw_goto 143 dX10_shut_102 (by decide) ?_
        refine Zw_iinc_7 dX10_shut_143 rfl (zincn _) ?_
        refine Zw_goto 77 dX10_shut_146 (by decide) ?_
        refine Zw_drop (L' := [.ref 0, .int x0, .int (nI c), .ref (4 + f), .int best, .int least, .int (nI i), .int (nI (j + 1)), .null]) ⟨Or.inr rfl, Or.inr rfl, Or.inr rfl, Or.inr rfl, Or.inr rfl, Or.inr rfl, Or.inr rfl, Or.inr rfl, Or.inl rfl, trivial⟩ (Nat.le_of_ble_eq_true rfl) ?_
        rw [q_shx_s, if_pos (by omega)] at hV
        rw [q_sh1, q_has_no hbit, if_neg (by decide)] at hV
        exact l_shut hx hth hT hln hsy hf5 g1 g2 g3 g4 g5 g6 hc h m i (j + 1) _ _ μ (by omega) hi (by omega) (by omega) hO hV
    · refine Zw_iload_7 dX10_shut_77 ?_
      refine Zw_bipush (v := 8) dX10_shut_79 (by decide) ?_
      refine Zw_icmp_ge 149 dX10_shut_81 (by decide) (fun c81 => ?_) (fun c81 => absurd c81 (fun e => e ((zle (N := 8) rfl (by decide) (by omega)).mpr hge)))
      refine Zw_iinc_6 dX10_shut_149 rfl (zincn _) ?_
      refine Zw_goto 64 dX10_shut_152 (by decide) ?_
      refine Zw_iload_6 dX10_shut_64 ?_
      refine Zw_bipush (v := 8) dX10_shut_66 (by decide) ?_
      refine Zw_nicmp_ge ((i + 1)) (8) 155 dX10_shut_68 (by decide) rfl rfl (by omega) (by omega) (fun c68 => ?_) (fun c68 => ?_)
      · rw [q_shx_s, if_neg (by omega), if_neg (by omega)] at hV
        subst hV
        have hq := h μ hO
        match c, hc with
        | 0, _ =>
          refine Zw_iload_2 dX10_shut_155 ?_
          refine Zw_if_ne 164 dX10_shut_156 (by decide) (fun c => absurd c (by decide)) (fun _ => ?_)
          refine Zw_iload_4 dX10_shut_159 ?_
          refine Zw_goto 166 dX10_shut_161 (by decide) ?_
          refine Zw_ireturn dX10_shut_166 (by first | rfl | assumption) ?_
          exact hq
        | 1, _ =>
          refine Zw_iload_2 dX10_shut_155 ?_
          refine Zw_if_ne 164 dX10_shut_156 (by decide) (fun _ => ?_) (fun c => absurd c (by decide))
          refine Zw_iload_5 dX10_shut_164 ?_
          refine Zw_ireturn dX10_shut_166 (by first | rfl | assumption) ?_
          exact hq
        | n + 2, hc => exact absurd hc (by omega)
      · refine Zw_iload_6 dX10_shut_71 ?_
        refine Zw_iconst (v := 1) dX10_shut_73 (by decide) ?_
        refine Zw_nadd ((i + 1)) (1) dX10_shut_74 rfl rfl ?_
        refine Zw_istore_7 dX10_shut_75 rfl ?_
        refine Zw_drop (L' := [.ref 0, .int x0, .int (nI c), .ref (4 + f), .int best, .int least, .int (nI (i + 1)), .int (nI (i + 2)), .null]) ⟨Or.inr rfl, Or.inr rfl, Or.inr rfl, Or.inr rfl, Or.inr rfl, Or.inr rfl, Or.inr rfl, Or.inr rfl, Or.inl rfl, trivial⟩ (Nat.le_of_ble_eq_true rfl) ?_
        rw [q_shx_s, if_neg (by omega), if_pos (by omega)] at hV
        exact l_shut hx hth hT hln hsy hf5 g1 g2 g3 g4 g5 g6 hc h m (i + 1) (i + 2) _ _ μ (by omega) (by omega) (by omega) (by omega) hO hV
set_option maxRecDepth 20000 in
theorem s_X_shut {x what : Int32} {cnt t n w T : Nat} {Q : zQ} {μ : zMu} {τ : Int64} (hx : x_ok μ cnt t n w) (hth : μ 1 6 = nI T) (hT : T < 256) (hln : x_ln μ) (hsy : x_sy μ) (hbad : ¬ (vp_in x n ∧ vp_in what 2) → Q (some (.int (-2))) μ τ) (h : ∀ f kd nu a, f < n → x = nI f → μ (4 + f) 0 = nI kd → kd < 6 → μ (4 + f) 1 = nI nu → nu < 10 → μ (4 + f) 2 = nI a → a < 8 → ∀ c, c < 2 → what = nI c → ∀ μ2, zOff [19, 20, 43, 44, 45, 46, 47] μ μ2 → Q (some (.int (q_p2 (q_shx (μ 2) (fun i j => x_few (xs μ t) (q_cutl (μ 2) i j) (μ 1 4) w kd nu a 40 T) 100 0 1 (-1, x_few (xs μ t) (μ 2) (μ 1 4) w kd nu a 40 T)) c))) μ2 τ) : Zc 6 yX10_shut cX10_shut 9 (some .int) [.ref 0, .int x, .int what] μ τ Q := by
  refine Zc.mk 6 [.ref 0, .int x, .int what, .null, .null, .null, .null, .null, .null] rfl (by decide) (Nat.le_of_ble_eq_true rfl) ?_
  have hn5 := hx.2.1.1
  have hn := hx.2.1.2.1
  refine Zw_iload_1 dX10_shut_0 ?_
  refine Zw_aload_0 dX10_shut_1 ?_
  refine Zw_getr 1 lf_X10_10 dX10_shut_2 (by first | decide | assumption | omega) (by first | rfl | assumption) (by rfl) ?_
  refine Zw_geti lf_X10_80 dX10_shut_5 (by first | decide | assumption | omega) (by first | rfl | assumption) (by rfl) ?_
  refine Zw_S2 (k := 0) lm_X10_76 dX10_shut_8 (by decide) (Nat.le_of_ble_eq_true rfl) ?_
  refine s_within n (by rw [hn]; exact nI_toInt (by omega)) (fun b1 => ?_) (fun b1 => ?_)
  · refine Zw_if_eq 22 dX10_shut_11 (by decide) (fun c => absurd c (by decide)) (fun _ => ?_)
    refine Zw_iload_2 dX10_shut_14 ?_
    refine Zw_iconst (v := 2) dX10_shut_15 (by decide) ?_
    refine Zw_S2 (k := 0) lm_X10_76 dX10_shut_16 (by decide) (Nat.le_of_ble_eq_true rfl) ?_
    refine s_within 2 (by decide) (fun b2 => ?_) (fun b2 => ?_)
    · refine Zw_if_ne 25 dX10_shut_19 (by decide) (fun _ => ?_) (fun c => absurd c (by decide))
      obtain ⟨f, hf, rfl⟩ := vp_in_of b1 (by omega)
      obtain ⟨kd, nu, at0, g1, g2, g3, g4, g5, g6⟩ := hx.2.1.2.2 f hf
      have hsf := zfin_s (show f < 5 by omega)
      obtain ⟨c, hc, rfl⟩ := vp_in_of b2 (by decide)
      refine Zw_aload_0 dX10_shut_25 ?_
      refine Zw_getr 1 lf_X10_10 dX10_shut_26 (by first | decide | assumption | omega) (by first | rfl | assumption) (by rfl) ?_
      refine Zw_getr 3 lf_X10_109 dX10_shut_29 (by first | decide | assumption | omega) (by first | rfl | assumption) (by rfl) ?_
      refine Zw_iload_1 dX10_shut_32 ?_
      refine Zw_aaldn (f) (4 + f) dX10_shut_33 (by first | decide | assumption | omega) (by first | rfl | assumption) rfl (by omega) (zfin_g (by omega)) (by decide) ?_
      refine Zw_astore_3 dX10_shut_34 rfl ?_
      refine Zw_iconst (v := (-1)) dX10_shut_35 (by decide) ?_
      refine Zw_istore_4 dX10_shut_36 rfl ?_
      refine Zw_aload_0 dX10_shut_38 ?_
      refine Zw_getr 44 lf_X10_47 dX10_shut_39 (by first | decide | assumption | omega) (by first | rfl | assumption) (by rfl) ?_
      refine Zw_aload_3 dX10_shut_42 ?_
      refine Zw_V1 (k := 4) lm_X10_183 dX10_shut_43 (by decide) (by first | decide | assumption | omega) (by first | rfl | assumption) (by rfl) (Nat.le_of_ble_eq_true rfl) ?_
      refine s_prepare (by omega) hsf (by omega) (by have := hx.2.2.2.1; omega) hx.2.2.1 hx.1 g1 g2 g3 g4 (fun μ1 hO1 v1 v2 => ?_)
      have hs1 := x_sp_of v1
      have hee := x_eye_of (xs μ t) (μ 2) (μ 1 4) w kd nu
      have he1 : μ1 44 6 = nI (x_eye (xs μ t) (μ 2) (μ 1 4) w kd nu) := v2.trans hee.1
      refine Zw_aload_0 dX10_shut_46 ?_
      refine Zw_getr 44 lf_X10_47 dX10_shut_47 (by first | decide | assumption | omega) (by first | rfl | assumption) (by rfl) ?_
      refine Zw_aload_3 dX10_shut_50 ?_
      refine Zw_getv (nI at0) lf_X10_172 dX10_shut_51 (by first | decide | assumption | omega) (by first | rfl | assumption) (by rfl) (by rw [hO1 (4 + f) (by simp; omega)]; exact g5) ?_
      refine Zw_bipush (v := 40) dX10_shut_54 (by decide) ?_
      refine Zw_V2 (k := 2) lm_X10_187 dX10_shut_56 (by decide) (by first | decide | assumption | omega) (by first | rfl | assumption) (by rfl) (Nat.le_of_ble_eq_true rfl) ?_
      refine s_fewest (n := 40) (R := x_hr (xs μ t) (μ 2) (μ 1 4) w kd nu at0 40 T) hs1 hee.2 he1 g6 (by omega) hT (by rw [hO1 1 (by simp)]; exact hth) (by rw [hO1 2 (by simp)]; rfl) (fun hT0 μ2 hO2 f1 f2 => ?_) (fun hT0 μ2 hO2 f1 => ?_)
      · refine Zw_istore_5 dX10_shut_59 rfl ?_
        refine Zw_iconst (v := 0) dX10_shut_61 (by decide) ?_
        refine Zw_istore_6 dX10_shut_62 rfl ?_
        refine Zw_iload_6 dX10_shut_64 ?_
        refine Zw_bipush (v := 8) dX10_shut_66 (by decide) ?_
        refine Zw_icmp_ge 155 dX10_shut_68 (by decide) (fun c => absurd c (by decide)) (fun _ => ?_)
        refine Zw_iload_6 dX10_shut_71 ?_
        refine Zw_iconst (v := 1) dX10_shut_73 (by decide) ?_
        refine Zw_nadd (0) (1) dX10_shut_74 rfl rfl ?_
        refine Zw_istore_7 dX10_shut_75 rfl ?_
        have hv : x_few (xs μ t) (μ 2) (μ 1 4) w kd nu at0 40 T = 0 := by rw [x_few, if_pos hT0]
        have hq := h f kd nu at0 hf rfl g1 g2 g3 g4 g5 g6 c hc rfl
        rw [hv] at hq
        refine Zw_drop (L' := [.ref 0, .int (nI f), .int (nI c), .ref (4 + f), .int (-1), .int 0, .int (nI 0), .int (nI 1), .null]) ⟨Or.inr rfl, Or.inr rfl, Or.inr rfl, Or.inr rfl, Or.inr rfl, Or.inr rfl, Or.inr rfl, Or.inr rfl, Or.inl rfl, trivial⟩ (Nat.le_of_ble_eq_true rfl) ?_
        exact l_shut hx hth hT hln hsy (by omega) g1 g2 g3 g4 g5 g6 hc hq 100 0 1 _ _ μ2 (by omega) (by omega) (by omega) (by omega) ((hO1.sub (by simp)).tr (hO2.sub (by simp))) rfl
      · refine Zw_istore_5 dX10_shut_59 rfl ?_
        refine Zw_iconst (v := 0) dX10_shut_61 (by decide) ?_
        refine Zw_istore_6 dX10_shut_62 rfl ?_
        refine Zw_iload_6 dX10_shut_64 ?_
        refine Zw_bipush (v := 8) dX10_shut_66 (by decide) ?_
        refine Zw_icmp_ge 155 dX10_shut_68 (by decide) (fun c => absurd c (by decide)) (fun _ => ?_)
        refine Zw_iload_6 dX10_shut_71 ?_
        refine Zw_iconst (v := 1) dX10_shut_73 (by decide) ?_
        refine Zw_nadd (0) (1) dX10_shut_74 rfl rfl ?_
        refine Zw_istore_7 dX10_shut_75 rfl ?_
        have hv : x_few (xs μ t) (μ 2) (μ 1 4) w kd nu at0 40 T = (x_hr (xs μ t) (μ 2) (μ 1 4) w kd nu at0 40 T).1 := by rw [x_few, if_neg hT0]
        have hq := h f kd nu at0 hf rfl g1 g2 g3 g4 g5 g6 c hc rfl
        rw [hv] at hq
        refine Zw_drop (L' := [.ref 0, .int (nI f), .int (nI c), .ref (4 + f), .int (-1), .int (x_hr (xs μ t) (μ 2) (μ 1 4) w kd nu at0 40 T).1, .int (nI 0), .int (nI 1), .null]) ⟨Or.inr rfl, Or.inr rfl, Or.inr rfl, Or.inr rfl, Or.inr rfl, Or.inr rfl, Or.inr rfl, Or.inr rfl, Or.inl rfl, trivial⟩ (Nat.le_of_ble_eq_true rfl) ?_
        exact l_shut hx hth hT hln hsy (by omega) g1 g2 g3 g4 g5 g6 hc hq 100 0 1 _ _ μ2 (by omega) (by omega) (by omega) (by omega) ((hO1.sub (by simp)).tr (hO2.sub (by simp))) rfl
    · refine Zw_if_ne 25 dX10_shut_19 (by decide) (fun c => absurd c (by decide)) (fun _ => ?_)
      refine Zw_bipush (v := (-2)) dX10_shut_22 (by decide) ?_
      refine Zw_ireturn dX10_shut_24 (by first | rfl | assumption) ?_
      exact hbad (fun e => b2 e.2)
  · refine Zw_if_eq 22 dX10_shut_11 (by decide) (fun _ => ?_) (fun c => absurd c (by decide))
    refine Zw_bipush (v := (-2)) dX10_shut_22 (by decide) ?_
    refine Zw_ireturn dX10_shut_24 (by first | rfl | assumption) ?_
    exact hbad (fun e => b1 e.1)
