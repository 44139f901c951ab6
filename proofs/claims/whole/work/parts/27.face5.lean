set_option maxRecDepth 20000 in
theorem l_lk {Q : zQ} {μ : zMu} {τ : Int64} {nn what on : Int32} {mv : Nat → Int32} {R : Int32 × Int32} (hM : ∀ p, p < 8 → μ 43 p = mv p) (h : Q (some (.int (if what = 0 then R.1 else R.2))) μ τ) : ∀ m i best few, 256 - i < m → i ≤ 256 → q_lk mv on nn (256 - i) i best few = R → Zw 4 RX10 cX10_look 8 (some .int) Q 60 [.ref 0, .int nn, .int what, .int on, .int best, .int few, .int (nI i), .null] [] μ τ
  | 0, i, _, _, hm, _, _ => absurd hm (by omega)
  | m + 1, i, best, few, hm, hi, hV => by
    refine Zw_iload_6 dX10_look_60 ?_
    refine Zw_sipush (v := 255) dX10_look_62 (by decide) ?_
    refine Zw_nicmp_gt (i) (255) 119 dX10_look_65 (by decide) rfl rfl (by omega) (by omega) (fun c65 => ?_) (fun c65 => ?_)
    · refine Zw_iload_2 dX10_look_119 ?_
      refine Zw_if_ne 128 dX10_look_120 (by decide) (fun c120 => ?_) (fun c120 => ?_)
      · refine Zw_iload_5 dX10_look_128 ?_
        refine Zw_ireturn dX10_look_130 (by first | rfl | assumption) ?_
        rw [show 256 - i = 0 by omega] at hV
        subst hV
        simpa [q_lk, c120] using h
      · refine Zw_iload_4 dX10_look_123 ?_
        refine Zw_goto 130 dX10_look_125 (by decide) ?_
        refine Zw_ireturn dX10_look_130 (by first | rfl | assumption) ?_
        rw [show 256 - i = 0 by omega] at hV
        subst hV
        simpa [q_lk, c120] using h
    · refine Zw_iload_6 dX10_look_68 ?_
      refine Zw_S1 (k := 0) lm_X10_178 dX10_look_70 (by decide) (Nat.le_of_ble_eq_true rfl) ?_
      refine s_bitCount ?_
      refine Zw_iload_1 dX10_look_73 ?_
      refine Zw_icmp_eq 80 dX10_look_74 (by decide) (fun c74 => ?_) (fun c74 => ?_)
      · refine Zw_aload_0 dX10_look_80 ?_
        refine Zw_getr 42 lf_X10_38 dX10_look_81 (by first | decide | assumption | omega) (by first | rfl | assumption) (by rfl) ?_
        refine Zw_iload_3 dX10_look_84 ?_
        refine Zw_iload_6 dX10_look_85 ?_
        refine Zw_iconst (v := (-1)) dX10_look_87 (by decide) ?_
        refine Zw_ixor dX10_look_88 ?_
        refine Zw_iand dX10_look_89 ?_
        refine Zw_V1 (k := 0) lm_X10_140 dX10_look_90 (by decide) (by first | decide | assumption | omega) (by first | rfl | assumption) (by rfl) (Nat.le_of_ble_eq_true rfl) ?_
        refine s_spread ?_
        rw [q_spread_congr hM]
        refine Zw_S1 (k := 0) lm_X10_178 dX10_look_93 (by decide) (Nat.le_of_ble_eq_true rfl) ?_
        refine s_bitCount ?_
        refine Zw_istore_7 dX10_look_96 rfl ?_
        refine Zw_iload_7 dX10_look_98 ?_
        refine Zw_iload_5 dX10_look_100 ?_
        refine Zw_icmp_ge 113 dX10_look_102 (by decide) (fun c102 => ?_) (fun c102 => ?_)
        · refine Zw_iinc_6 dX10_look_113 rfl (zincn _) ?_
          refine Zw_goto 60 dX10_look_116 (by decide) ?_
          refine Zw_drop (L' := [.ref 0, .int nn, .int what, .int on, .int best, .int few, .int (nI (i + 1)), .null]) ⟨Or.inr rfl, Or.inr rfl, Or.inr rfl, Or.inr rfl, Or.inr rfl, Or.inr rfl, Or.inr rfl, Or.inl rfl, trivial⟩ (Nat.le_of_ble_eq_true rfl) ?_
          rw [show 256 - i = (256 - (i + 1)) + 1 by omega, q_lk_s, if_neg (fun e => absurd e.2 (Int32.not_lt.mpr c102))] at hV
          exact l_lk hM h m (i + 1) _ _ (by omega) (by omega) hV
        · refine Zw_iload_6 dX10_look_105 ?_
          refine Zw_istore_4 dX10_look_107 rfl ?_
          refine Zw_iload_7 dX10_look_109 ?_
          refine Zw_istore_5 dX10_look_111 rfl ?_
          refine Zw_iinc_6 dX10_look_113 rfl (zincn _) ?_
          refine Zw_goto 60 dX10_look_116 (by decide) ?_
          refine Zw_drop (L' := [.ref 0, .int nn, .int what, .int on, .int (nI i), .int (q_bc (q_spread mv (on &&& (nI i ^^^ (-1))))), .int (nI (i + 1)), .null]) ⟨Or.inr rfl, Or.inr rfl, Or.inr rfl, Or.inr rfl, Or.inr rfl, Or.inr rfl, Or.inr rfl, Or.inl rfl, trivial⟩ (Nat.le_of_ble_eq_true rfl) ?_
          rw [show 256 - i = (256 - (i + 1)) + 1 by omega, q_lk_s, if_pos ⟨c74, Int32.not_le.mp c102⟩] at hV
          exact l_lk hM h m (i + 1) _ _ (by omega) (by omega) hV
      · refine Zw_goto 113 dX10_look_77 (by decide) ?_
        refine Zw_iinc_6 dX10_look_113 rfl (zincn _) ?_
        refine Zw_goto 60 dX10_look_116 (by decide) ?_
        refine Zw_drop (L' := [.ref 0, .int nn, .int what, .int on, .int best, .int few, .int (nI (i + 1)), .null]) ⟨Or.inr rfl, Or.inr rfl, Or.inr rfl, Or.inr rfl, Or.inr rfl, Or.inr rfl, Or.inr rfl, Or.inl rfl, trivial⟩ (Nat.le_of_ble_eq_true rfl) ?_
        rw [show 256 - i = (256 - (i + 1)) + 1 by omega, q_lk_s, if_neg (fun e => c74 e.1)] at hV
        exact l_lk hM h m (i + 1) _ _ (by omega) (by omega) hV
set_option maxRecDepth 20000 in
theorem s_X_look {m what : Int32} {cnt t n w : Nat} {Q : zQ} {μ : zMu} {τ : Int64} (hx : x_ok μ cnt t n w) (hbad : ¬ (1 ≤ m.toInt ∧ m.toInt ≤ 3 ∧ vp_in what 2) → Q (some (.int (-2))) μ τ) (h : 1 ≤ m.toInt → m.toInt ≤ 3 → vp_in what 2 → ∀ μ2, zOff [19, 20, 43] μ μ2 → Q (some (.int (if what = 0 then (q_lk (x_mv μ t w) (q_spread (x_mv μ t w) (μ 1 6)) m 255 1 0 9).1 else (q_lk (x_mv μ t w) (q_spread (x_mv μ t w) (μ 1 6)) m 255 1 0 9).2))) μ2 τ) : Zc 4 yX10_look cX10_look 8 (some .int) [.ref 0, .int m, .int what] μ τ Q := by
  refine Zc.mk 5 [.ref 0, .int m, .int what, .null, .null, .null, .null, .null] rfl (by decide) (Nat.le_of_ble_eq_true rfl) ?_
  refine Zw_iload_1 dX10_look_0 ?_
  refine Zw_iconst (v := 1) dX10_look_1 (by decide) ?_
  refine Zw_icmp_lt 18 dX10_look_2 (by decide) (fun c2 => ?_) (fun c2 => ?_)
  · refine Zw_bipush (v := (-2)) dX10_look_18 (by decide) ?_
    refine Zw_ireturn dX10_look_20 (by first | rfl | assumption) ?_
    exact hbad (fun e => by have := Int32.lt_iff_toInt_lt.mp c2; simp at this; omega)
  · refine Zw_iload_1 dX10_look_5 ?_
    refine Zw_iconst (v := 3) dX10_look_6 (by decide) ?_
    refine Zw_icmp_gt 18 dX10_look_7 (by decide) (fun c7 => ?_) (fun c7 => ?_)
    · refine Zw_bipush (v := (-2)) dX10_look_18 (by decide) ?_
      refine Zw_ireturn dX10_look_20 (by first | rfl | assumption) ?_
      exact hbad (fun e => by have := Int32.lt_iff_toInt_lt.mp c7; simp at this; omega)
    · refine Zw_iload_2 dX10_look_10 ?_
      refine Zw_iconst (v := 2) dX10_look_11 (by decide) ?_
      refine Zw_S2 (k := 0) lm_X10_76 dX10_look_12 (by decide) (Nat.le_of_ble_eq_true rfl) ?_
      refine s_within 2 (by decide) (fun b3 => ?_) (fun b3 => ?_)
      · refine Zw_if_ne 21 dX10_look_15 (by decide) (fun _ => ?_) (fun c => absurd c (by decide))
        have k1 : 1 ≤ m.toInt := by have h6 : ¬ m.toInt < (1 : Int32).toInt := fun e => c2 (Int32.lt_iff_toInt_lt.mpr e); simp at h6; omega
        have k2 : m.toInt ≤ 3 := by have h6 : ¬ (3 : Int32).toInt < m.toInt := fun e => c7 (Int32.lt_iff_toInt_lt.mpr e); simp at h6; omega
        refine Zw_aload_0 dX10_look_21 ?_
        refine Zw_getr 42 lf_X10_38 dX10_look_22 (by first | decide | assumption | omega) (by first | rfl | assumption) (by rfl) ?_
        refine Zw_aload_0 dX10_look_25 ?_
        refine Zw_getr 1 lf_X10_10 dX10_look_26 (by first | decide | assumption | omega) (by first | rfl | assumption) (by rfl) ?_
        refine Zw_getv (nI w) lf_X10_103 dX10_look_29 (by first | decide | assumption | omega) (by first | rfl | assumption) (by rfl) hx.2.2.1 ?_
        refine Zw_V1 (k := 3) lm_X10_136 dX10_look_32 (by decide) (by first | decide | assumption | omega) (by first | rfl | assumption) (by rfl) (Nat.le_of_ble_eq_true rfl) ?_
        refine s_layMoves hx.1 (fun μ1 hO1 hM1 => ?_)
        refine Zw_aload_0 dX10_look_35 ?_
        refine Zw_getr 42 lf_X10_38 dX10_look_36 (by first | decide | assumption | omega) (by first | rfl | assumption) (by rfl) ?_
        refine Zw_aload_0 dX10_look_39 ?_
        refine Zw_getr 1 lf_X10_10 dX10_look_40 (by first | decide | assumption | omega) (by first | rfl | assumption) (by rfl) ?_
        refine Zw_getv (μ 1 6) lf_X10_147 dX10_look_43 (by first | decide | assumption | omega) (by first | rfl | assumption) (by rfl) (by rw [hO1 1 (by simp)]) ?_
        refine Zw_V1 (k := 0) lm_X10_140 dX10_look_46 (by decide) (by first | decide | assumption | omega) (by first | rfl | assumption) (by rfl) (Nat.le_of_ble_eq_true rfl) ?_
        refine s_spread ?_
        rw [q_spread_congr hM1]
        refine Zw_istore_3 dX10_look_49 rfl ?_
        refine Zw_iconst (v := 0) dX10_look_50 (by decide) ?_
        refine Zw_istore_4 dX10_look_51 rfl ?_
        refine Zw_bipush (v := 9) dX10_look_53 (by decide) ?_
        refine Zw_istore_5 dX10_look_55 rfl ?_
        refine Zw_iconst (v := 1) dX10_look_57 (by decide) ?_
        refine Zw_istore_6 dX10_look_58 rfl ?_
        exact l_lk hM1 (h k1 k2 b3 μ1 hO1) 256 1 _ _ (by omega) (by omega) rfl
      · refine Zw_if_ne 21 dX10_look_15 (by decide) (fun c => absurd c (by decide)) (fun _ => ?_)
        refine Zw_bipush (v := (-2)) dX10_look_18 (by decide) ?_
        refine Zw_ireturn dX10_look_20 (by first | rfl | assumption) ?_
        exact hbad (fun e => b3 e.2.2)
theorem q_dgo_s (sy : zSy) (ln : Nat → Int32) (ps : Int32) (m : Nat) (z : Int32) (w p : Nat) : q_dgo sy ln ps (m + 1) z w p = q_dgo sy ln ps m (q_zn z) (w + 1) (q_dp sy ln ps z w p) := rfl
set_option maxRecDepth 20000 in
theorem l_drawn {Q : zQ} {μ0 : zMu} {τ : Int64} {z0 : Int32} {cnt t n w m0 R : Nat} (hx : x_ok μ0 cnt t n w) (hm40 : m0 ≤ 40) (h : ∀ μ2, zOff [19, 20, 51] μ0 μ2 → Q (some (.int (nI R))) μ2 τ) : ∀ m i z v p μ, m0 - i < m → i ≤ m0 → p < 8 → v = w + i → zOff [19, 20, 51] μ0 μ → μ 51 2 = z → μ 51 3 = nI v → μ 51 4 = nI p → q_dgo (xs μ0 t) (μ0 2) (μ0 1 4) (m0 - i) z v p = R → Zw 5 RX10 cX10_drawn 4 (some .int) Q 22 [.ref 0, .int z0, .int (nI m0), .int (nI i)] [] μ τ
  | 0, i, _, _, _, _, hm, _, _, _, _, _, _, _, _ => absurd hm (by omega)
  | m + 1, i, z, v, p, μ, hm, hi, hp, hv, hO, d1, d2, d3, hV => by
    have hS := hO.sc (by decide)
    obtain ⟨e1, e2, e3, e4⟩ := x_same hS hx
    have hw3 := hx.2.2.2.1
    refine Zw_iload_3 dX10_drawn_22 ?_
    refine Zw_iload_2 dX10_drawn_23 ?_
    refine Zw_nicmp_ge (i) (m0) 40 dX10_drawn_24 (by decide) rfl rfl (by omega) (by omega) (fun c24 => ?_) (fun c24 => ?_)
    · refine Zw_aload_0 dX10_drawn_40 ?_
      refine Zw_getr 51 lf_X10_61 dX10_drawn_41 (by first | decide | assumption | omega) (by first | rfl | assumption) (by rfl) ?_
      refine Zw_getv (nI p) lf_X10_234 dX10_drawn_44 (by first | decide | assumption | omega) (by first | rfl | assumption) (by rfl) d3 ?_
      refine Zw_ireturn dX10_drawn_47 (by first | rfl | assumption) ?_
      rw [show m0 - i = 0 by omega] at hV
      change p = R at hV
      subst hV
      exact h μ hO
    · refine Zw_aload_0 dX10_drawn_27 ?_
      refine Zw_getr 51 lf_X10_61 dX10_drawn_28 (by first | decide | assumption | omega) (by first | rfl | assumption) (by rfl) ?_
      refine Zw_V0 (k := 4) lm_X10_227 dX10_drawn_31 (by decide) (by first | decide | assumption | omega) (by first | rfl | assumption) (by rfl) (Nat.le_of_ble_eq_true rfl) ?_
      refine s_goOn d1 d2 d3 hp (by omega) (hx.1.off hS) (fun μ1 hO1 b1 b2 b3 => ?_)
      rw [e1, e2, e3] at b3
      refine Zw_iinc_3 dX10_drawn_34 rfl (zincn _) ?_
      refine Zw_goto 22 dX10_drawn_37 (by decide) ?_
      rw [show m0 - i = (m0 - (i + 1)) + 1 by omega, q_dgo_s] at hV
      exact l_drawn hx hm40 h m (i + 1) _ (v + 1) _ _ (by omega) (by omega) (q_dp_lt hp) (by omega) (hO.tr hO1) b1 b2 b3 hV
set_option maxRecDepth 20000 in
theorem s_X_drawn {z m : Int32} {cnt t n w p : Nat} {Q : zQ} {μ : zMu} {τ : Int64} (hx : x_ok μ cnt t n w) (dk : μ 1 5 = nI p) (hp : p < 8) (hbad : ¬ vp_in m 41 → Q (some (.int (-2))) μ τ) (h : ∀ m0, m0 ≤ 40 → m = nI m0 → ∀ μ2, zOff [19, 20, 51] μ μ2 → Q (some (.int (nI (q_dgo (xs μ t) (μ 2) (μ 1 4) m0 z w p)))) μ2 τ) : Zc 5 yX10_drawn cX10_drawn 4 (some .int) [.ref 0, .int z, .int m] μ τ Q := by
  refine Zc.mk 1 [.ref 0, .int z, .int m, .null] rfl (by decide) (Nat.le_of_ble_eq_true rfl) ?_
  refine Zw_iload_2 dX10_drawn_0 ?_
  refine Zw_bipush (v := 41) dX10_drawn_1 (by decide) ?_
  refine Zw_S2 (k := 0) lm_X10_76 dX10_drawn_3 (by decide) (Nat.le_of_ble_eq_true rfl) ?_
  refine s_within 41 (by decide) (fun b1 => ?_) (fun b1 => ?_)
  · refine Zw_if_ne 12 dX10_drawn_6 (by decide) (fun _ => ?_) (fun c => absurd c (by decide))
    refine Zw_aload_0 dX10_drawn_12 ?_
    refine Zw_getr 51 lf_X10_61 dX10_drawn_13 (by first | decide | assumption | omega) (by first | rfl | assumption) (by rfl) ?_
    refine Zw_iload_1 dX10_drawn_16 ?_
    refine Zw_V1 (k := 0) lm_X10_224 dX10_drawn_17 (by decide) (by first | decide | assumption | omega) (by first | rfl | assumption) (by rfl) (Nat.le_of_ble_eq_true rfl) ?_
    refine s_begin ?_
    refine Zw_iconst (v := 0) dX10_drawn_20 (by decide) ?_
    refine Zw_istore_3 dX10_drawn_21 rfl ?_
    obtain ⟨m0, hm0, rfl⟩ := vp_in_of b1 (by decide)
    exact l_drawn hx (by omega) (h m0 (by omega) rfl) (m0 + 1) 0 z w p _ (by omega) (by omega) hp (by omega) (((zOff.rf.up (by simp)).up (by simp)).up (by simp)) (by simp [zup_at]) (by simp [zup_at, hx.2.2.1]) (by simp [zup_at, dk]) rfl
  · refine Zw_if_ne 12 dX10_drawn_6 (by decide) (fun c => absurd c (by decide)) (fun _ => ?_)
    refine Zw_bipush (v := (-2)) dX10_drawn_9 (by decide) ?_
    refine Zw_ireturn dX10_drawn_11 (by first | rfl | assumption) ?_
    exact hbad b1
/-- where he would be seen, week by week -/
def q_film (sy : zSy) (ln : Nat → Int32) (ps : Int32) (n : Nat) (K N A : Nat → Nat) : Nat → Int32 → Nat → Nat → Int32
  | 0, z, w, p => if q_isSeen sy ln ps n K N A (w + 1) (q_dp sy ln ps z w p) then nI (q_dp sy ln ps z w p) else -1
  | i + 1, z, w, p => q_film sy ln ps n K N A i (q_zn z) (w + 1) (q_dp sy ln ps z w p)
theorem q_film_s (sy : zSy) (ln : Nat → Int32) (ps : Int32) (n : Nat) (K N A : Nat → Nat) (i : Nat) (z : Int32) (w p : Nat) : q_film sy ln ps n K N A (i + 1) z w p = q_film sy ln ps n K N A i (q_zn z) (w + 1) (q_dp sy ln ps z w p) := rfl
theorem q_cut_b : ∀ p, p < 8 → q_cut 0 (nI p) = nI p := by decide +kernel
theorem q_cut_m : q_cut 0 (-1) = -1 := by decide +kernel
theorem x_okf {μ μ' : zMu} {cnt t n w a : Nat} (hx : x_ok μ cnt t n w) (h : zOff [19, 20, 51, 53 + 2 * a, 54 + 2 * a] μ μ') (ha : a < 4) : x_ok μ' cnt t n w ∧ xs μ' t = xs μ t ∧ μ' 2 = μ 2 ∧ μ' 1 = μ 1 ∧ ∀ f, f < n → μ' (4 + f) = μ (4 + f) := by
  have ht : t < 6 := by have := hx.1.2.1; have := hx.1.2.2.2.1; omega
  have hn5 := hx.2.1.1
  have e1 : xs μ' t = xs μ t := by
    funext c env
    unfold xs xsay
    rw [h (22 + 3 * t) (by simp; omega), h (23 + 3 * t) (by simp; omega)]
  have e2 : μ' 2 = μ 2 := h 2 (by simp; omega)
  have e3 : μ' 1 = μ 1 := h 1 (by simp; omega)
  have ef : ∀ f, f < n → μ' (4 + f) = μ (4 + f) := fun f hf => h (4 + f) (by simp; omega)
  refine ⟨?_, e1, e2, e3, ef⟩
  obtain ⟨h1, h2, h3, h4, h5⟩ := hx
  refine ⟨⟨by rw [h 17 (by simp; omega)]; exact h1.1, h1.2.1, by rw [e3]; exact h1.2.2.1, h1.2.2.2.1, ?_⟩, ⟨h2.1, by rw [e3]; exact h2.2.1, fun f hf => by rw [ef f hf]; exact h2.2.2 f hf⟩, by rw [e3]; exact h3, h4, ?_⟩
  · unfold x_tx
    rw [h (23 + 3 * t) (by simp; omega), h (21 + 3 * t) (by simp; omega)]
    exact h1.2.2.2.2
  · unfold x_nw
    rw [e1, h (21 + 3 * t) (by simp; omega)]
    exact h5
set_option maxRecDepth 20000 in
theorem l_film {Q : zQ} {μ0 : zMu} {τ : Int64} {z0 : Int32} {cnt t n w m0 a p0 : Nat} (hx : x_ok μ0 cnt t n w) (ha : a < 4) (hm30 : m0 ≤ 30) (h : ∀ μ2, zOff [19, 20, 51, 53 + 2 * a, 54 + 2 * a] μ0 μ2 → μ2 (53 + 2 * a) 1 = 0 → μ2 (53 + 2 * a) 2 = nI m0 → (∀ j, j < m0 → μ2 (54 + 2 * a) j = q_film (xs μ0 t) (μ0 2) (μ0 1 4) n (xK μ0) (xN μ0) (xA μ0) j z0 w p0) → Q (some (.int (nI m0))) μ2 τ) : ∀ m i z v p μ, m0 - i < m → i ≤ m0 → p < 8 → v = w + i → zOff [19, 20, 51, 53 + 2 * a, 54 + 2 * a] μ0 μ → μ 51 2 = z → μ 51 3 = nI v → μ 51 4 = nI p → μ (53 + 2 * a) 1 = 0 → μ (53 + 2 * a) 2 = nI m0 → (∀ j, j < i → μ (54 + 2 * a) j = q_film (xs μ0 t) (μ0 2) (μ0 1 4) n (xK μ0) (xN μ0) (xA μ0) j z0 w p0) → (∀ j, q_film (xs μ0 t) (μ0 2) (μ0 1 4) n (xK μ0) (xN μ0) (xA μ0) (i + j) z0 w p0 = q_film (xs μ0 t) (μ0 2) (μ0 1 4) n (xK μ0) (xN μ0) (xA μ0) j z v p) → Zw 5 RX10 cX10_film 6 (some .int) Q 46 [.ref 0, .int (nI a), .int z0, .int (nI m0), .ref (53 + 2 * a), .int (nI i)] [] μ τ
  | 0, i, _, _, _, _, hm, _, _, _, _, _, _, _, _, _, _, _ => absurd hm (by omega)
  | m + 1, i, z, v, p, μ, hm, hi, hp, hv, hO, d1, d2, d3, r1, r2, hL, hF => by
    have hra := zRow_of ha
    obtain ⟨a1, a2, a3, a4, a5⟩ := id hra
    have hw3 := hx.2.2.2.1
    have hxo := x_okf hx hO ha
    obtain ⟨hx1, e1, e2, e3, ef⟩ := hxo
    refine Zw_iload_5 dX10_film_46 ?_
    refine Zw_iload_3 dX10_film_48 ?_
    refine Zw_nicmp_ge (i) (m0) 93 dX10_film_49 (by decide) rfl rfl (by omega) (by omega) (fun c49 => ?_) (fun c49 => ?_)
    · refine Zw_iload_3 dX10_film_93 ?_
      refine Zw_ireturn dX10_film_94 (by first | rfl | assumption) ?_
      exact h μ hO r1 r2 (fun j hj => hL j (by omega))
    · refine Zw_aload_0 dX10_film_52 ?_
      refine Zw_getr 51 lf_X10_61 dX10_film_53 (by first | decide | assumption | omega) (by first | rfl | assumption) (by rfl) ?_
      refine Zw_V0 (k := 4) lm_X10_227 dX10_film_56 (by decide) (by first | decide | assumption | omega) (by first | rfl | assumption) (by rfl) (Nat.le_of_ble_eq_true rfl) ?_
      refine s_goOn d1 d2 d3 hp (by omega) hx1.1 (fun μ1 hO1 b1 b2 b3 => ?_)
      rw [e1, e2, e3] at b3
      have hO1f : zOff [19, 20, 51, 53 + 2 * a, 54 + 2 * a] μ0 μ1 := hO.tr (hO1.sub (by intro k hk; simp at hk ⊢; omega))
      obtain ⟨hx2, f1, f2, f3, ff⟩ := x_okf hx hO1f ha
      have hq : q_isSeen (xs μ1 t) (μ1 2) (μ1 1 4) n (xK μ1) (xN μ1) (xA μ1) (v + 1) (q_dp (xs μ0 t) (μ0 2) (μ0 1 4) z v p) = q_isSeen (xs μ0 t) (μ0 2) (μ0 1 4) n (xK μ0) (xN μ0) (xA μ0) (v + 1) (q_dp (xs μ0 t) (μ0 2) (μ0 1 4) z v p) := by
        rw [f1, f2, f3]; unfold q_isSeen; rw [q_seer_congr (fun f hf => by unfold xK; rw [ff f hf]) (fun f hf => by unfold xN; rw [ff f hf]) (fun f hf => by unfold xA; rw [ff f hf])]
      refine Zw_aload_4 dX10_film_59 ?_
      refine Zw_iload_5 dX10_film_61 ?_
      refine Zw_aload_0 dX10_film_63 ?_
      refine Zw_getr 51 lf_X10_61 dX10_film_64 (by first | decide | assumption | omega) (by first | rfl | assumption) (by rfl) ?_
      refine Zw_V0 (k := 4) lm_X10_230 dX10_film_67 (by decide) (by first | decide | assumption | omega) (by first | rfl | assumption) (by rfl) (Nat.le_of_ble_eq_true rfl) ?_
      refine s_isSeen b2 b3 (q_dp_lt hp) (by omega) hx2.1 hx2.2.1 (fun g1 μ2 hO2 => ?_) (fun g1 μ2 hO2 => ?_)
      · refine Zw_if_eq 83 dX10_film_70 (by decide) (fun c => absurd c (by decide)) (fun _ => ?_)
        refine Zw_aload_0 dX10_film_73 ?_
        refine Zw_getr 51 lf_X10_61 dX10_film_74 (by first | decide | assumption | omega) (by first | rfl | assumption) (by rfl) ?_
        refine Zw_getv (nI (q_dp (xs μ0 t) (μ0 2) (μ0 1 4) z v p)) lf_X10_234 dX10_film_77 (by first | decide | assumption | omega) (by first | rfl | assumption) (by rfl) (by rw [hO2 51 (by simp)]; exact b3) ?_
        refine Zw_goto 84 dX10_film_80 (by decide) ?_
        refine Zw_V2 (k := 1) lm_X10_237 dX10_film_84 (by decide) (by first | decide | assumption | omega) (by first | rfl | assumption) (by rfl) (Nat.le_of_ble_eq_true rfl) ?_
        refine s_rowPut hra (by omega : m0 ≤ 40) c49 (by rw [hO2 (53 + 2 * a) (by simp; omega), hO1 (53 + 2 * a) (by simp; omega)]; exact r2) ?_
        rw [hO2 (53 + 2 * a) (by simp; omega), hO1 (53 + 2 * a) (by simp; omega), r1, q_cut_b _ (q_dp_lt hp)]
        refine Zw_iinc_5 dX10_film_87 rfl (zincn _) ?_
        refine Zw_goto 46 dX10_film_90 (by decide) ?_
        rw [hq] at g1
        have hO3 : zOff [19, 20, 51, 53 + 2 * a, 54 + 2 * a] μ0 (zup μ2 (54 + 2 * a) i (nI (q_dp (xs μ0 t) (μ0 2) (μ0 1 4) z v p))) := (hO1f.tr (hO2.sub (by simp))).up (by simp)
        refine l_film hx ha hm30 h m (i + 1) (q_zn z) (v + 1) (q_dp (xs μ0 t) (μ0 2) (μ0 1 4) z v p) _ (by omega) (by omega) (q_dp_lt hp) (by omega) hO3 ?_ ?_ ?_ ?_ ?_ (fun j hj => ?_) (fun j => ?_)
        · rw [zup_ne (by omega), hO2 51 (by simp)]; exact b1
        · rw [zup_ne (by omega), hO2 51 (by simp)]; exact b2
        · rw [zup_ne (by omega), hO2 51 (by simp)]; exact b3
        · rw [zup_ne (by omega), hO2 (53 + 2 * a) (by simp; omega), hO1 (53 + 2 * a) (by simp; omega)]; exact r1
        · rw [zup_ne (by omega), hO2 (53 + 2 * a) (by simp; omega), hO1 (53 + 2 * a) (by simp; omega)]; exact r2
        · rw [zup_at]
          by_cases ej : j = i
          · subst ej
            have hF0 := hF 0
            rw [Nat.add_zero] at hF0
            rw [hF0, if_pos ⟨rfl, rfl⟩, q_film, g1]
            rfl
          · rw [if_neg (by omega), hO2 (54 + 2 * a) (by simp; omega), hO1 (54 + 2 * a) (by simp; omega)]
            exact hL j (by omega)
        · rw [show i + 1 + j = i + (j + 1) by omega, hF (j + 1), q_film_s]
      · refine Zw_if_eq 83 dX10_film_70 (by decide) (fun _ => ?_) (fun c => absurd c (by decide))
        refine Zw_iconst (v := (-1)) dX10_film_83 (by decide) ?_
        refine Zw_V2 (k := 1) lm_X10_237 dX10_film_84 (by decide) (by first | decide | assumption | omega) (by first | rfl | assumption) (by rfl) (Nat.le_of_ble_eq_true rfl) ?_
        refine s_rowPut hra (by omega : m0 ≤ 40) c49 (by rw [hO2 (53 + 2 * a) (by simp; omega), hO1 (53 + 2 * a) (by simp; omega)]; exact r2) ?_
        rw [hO2 (53 + 2 * a) (by simp; omega), hO1 (53 + 2 * a) (by simp; omega), r1, q_cut_m]
        refine Zw_iinc_5 dX10_film_87 rfl (zincn _) ?_
        refine Zw_goto 46 dX10_film_90 (by decide) ?_
        rw [hq] at g1
        have hO3 : zOff [19, 20, 51, 53 + 2 * a, 54 + 2 * a] μ0 (zup μ2 (54 + 2 * a) i (-1)) := (hO1f.tr (hO2.sub (by simp))).up (by simp)
        refine l_film hx ha hm30 h m (i + 1) (q_zn z) (v + 1) (q_dp (xs μ0 t) (μ0 2) (μ0 1 4) z v p) _ (by omega) (by omega) (q_dp_lt hp) (by omega) hO3 ?_ ?_ ?_ ?_ ?_ (fun j hj => ?_) (fun j => ?_)
        · rw [zup_ne (by omega), hO2 51 (by simp)]; exact b1
        · rw [zup_ne (by omega), hO2 51 (by simp)]; exact b2
        · rw [zup_ne (by omega), hO2 51 (by simp)]; exact b3
        · rw [zup_ne (by omega), hO2 (53 + 2 * a) (by simp; omega), hO1 (53 + 2 * a) (by simp; omega)]; exact r1
        · rw [zup_ne (by omega), hO2 (53 + 2 * a) (by simp; omega), hO1 (53 + 2 * a) (by simp; omega)]; exact r2
        · rw [zup_at]
          by_cases ej : j = i
          · subst ej
            have hF0 := hF 0
            rw [Nat.add_zero] at hF0
            rw [hF0, if_pos ⟨rfl, rfl⟩, q_film, g1]
            rfl
          · rw [if_neg (by omega), hO2 (54 + 2 * a) (by simp; omega), hO1 (54 + 2 * a) (by simp; omega)]
            exact hL j (by omega)
        · rw [show i + 1 + j = i + (j + 1) by omega, hF (j + 1), q_film_s]
set_option maxRecDepth 20000 in
theorem s_X_film {s z m : Int32} {cnt t n w p : Nat} {Q : zQ} {μ : zMu} {τ : Int64} (hx : x_ok μ cnt t n w) (dk : μ 1 5 = nI p) (hp : p < 8) (hbad : ¬ (vp_in s 4 ∧ vp_in m 31) → Q (some (.int (-2))) μ τ) (h : ∀ a m0, a < 4 → m0 ≤ 30 → s = nI a → m = nI m0 → ∀ μ2, zOff [19, 20, 51, 53 + 2 * a, 54 + 2 * a] μ μ2 → μ2 (53 + 2 * a) 1 = 0 → μ2 (53 + 2 * a) 2 = nI m0 → (∀ j, j < m0 → μ2 (54 + 2 * a) j = q_film (xs μ t) (μ 2) (μ 1 4) n (xK μ) (xN μ) (xA μ) j z w p) → Q (some (.int (nI m0))) μ2 τ) : Zc 5 yX10_film cX10_film 6 (some .int) [.ref 0, .int s, .int z, .int m] μ τ Q := by
  refine Zc.mk 2 [.ref 0, .int s, .int z, .int m, .null, .null] rfl (by decide) (Nat.le_of_ble_eq_true rfl) ?_
  refine Zw_iload_1 dX10_film_0 ?_
  refine Zw_iconst (v := 4) dX10_film_1 (by decide) ?_
  refine Zw_S2 (k := 0) lm_X10_76 dX10_film_2 (by decide) (Nat.le_of_ble_eq_true rfl) ?_
  refine s_within 4 (by decide) (fun b1 => ?_) (fun b1 => ?_)
  · refine Zw_if_eq 17 dX10_film_5 (by decide) (fun c => absurd c (by decide)) (fun _ => ?_)
    refine Zw_iload_3 dX10_film_8 ?_
    refine Zw_bipush (v := 31) dX10_film_9 (by decide) ?_
    refine Zw_S2 (k := 0) lm_X10_76 dX10_film_11 (by decide) (Nat.le_of_ble_eq_true rfl) ?_
    refine s_within 31 (by decide) (fun b2 => ?_) (fun b2 => ?_)
    · refine Zw_if_ne 20 dX10_film_14 (by decide) (fun _ => ?_) (fun c => absurd c (by decide))
      obtain ⟨a, ha, rfl⟩ := vp_in_of b1 (by decide)
      obtain ⟨m0, hm0, rfl⟩ := vp_in_of b2 (by decide)
      have hra := zRow_of ha
      obtain ⟨a1, a2, a3, a4, a5⟩ := id hra
      refine Zw_aload_0 dX10_film_20 ?_
      refine Zw_getr 52 lf_X10_67 dX10_film_21 (by first | decide | assumption | omega) (by first | rfl | assumption) (by rfl) ?_
      refine Zw_iload_1 dX10_film_24 ?_
      refine Zw_aaldn (a) (53 + 2 * a) dX10_film_25 (by first | decide | assumption | omega) (by first | rfl | assumption) rfl (by omega) (zRow_g ha) (by decide) ?_
      refine Zw_astore_4 dX10_film_26 rfl ?_
      refine Zw_aload_4 dX10_film_28 ?_
      refine Zw_iconst (v := 0) dX10_film_30 (by decide) ?_
      refine Zw_iload_3 dX10_film_31 ?_
      refine Zw_V2 (k := 1) lm_X10_221 dX10_film_32 (by decide) (by first | decide | assumption | omega) (by first | rfl | assumption) (by rfl) (Nat.le_of_ble_eq_true rfl) ?_
      refine s_rowBecome hra (by omega : m0 ≤ 40) (fun μ1 hO1 k1 k2 k3 => ?_)
      refine Zw_aload_0 dX10_film_35 ?_
      refine Zw_getr 51 lf_X10_61 dX10_film_36 (by first | decide | assumption | omega) (by first | rfl | assumption) (by rfl) ?_
      refine Zw_iload_2 dX10_film_39 ?_
      refine Zw_V1 (k := 0) lm_X10_224 dX10_film_40 (by decide) (by first | decide | assumption | omega) (by first | rfl | assumption) (by rfl) (Nat.le_of_ble_eq_true rfl) ?_
      refine s_begin ?_
      refine Zw_iconst (v := 0) dX10_film_43 (by decide) ?_
      refine Zw_istore_5 dX10_film_44 rfl ?_
      have e1 : μ1 1 = μ 1 := hO1 1 (by simp; omega)
      exact l_film hx ha (by omega) (h a m0 ha (by omega) rfl rfl) (m0 + 1) 0 z w p _ (by omega) (by omega) hp (by omega) ((((hO1.sub (by simp)).up (by simp)).up (by simp)).up (by simp)) (by simp [zup_at]) (by simp [zup_at, e1, hx.2.2.1]) (by simp [zup_at, e1, dk]) (by rw [zup_ne (by omega), zup_ne (by omega), zup_ne (by omega)]; exact k1) (by rw [zup_ne (by omega), zup_ne (by omega), zup_ne (by omega)]; exact k2) (fun j hj => absurd hj (by omega)) (fun j => by rw [Nat.zero_add])
    · refine Zw_if_ne 20 dX10_film_14 (by decide) (fun c => absurd c (by decide)) (fun _ => ?_)
      refine Zw_bipush (v := (-2)) dX10_film_17 (by decide) ?_
      refine Zw_ireturn dX10_film_19 (by first | rfl | assumption) ?_
      exact hbad (fun e => b2 e.2)
  · refine Zw_if_eq 17 dX10_film_5 (by decide) (fun _ => ?_) (fun c => absurd c (by decide))
    refine Zw_bipush (v := (-2)) dX10_film_17 (by decide) ?_
    refine Zw_ireturn dX10_film_19 (by first | rfl | assumption) ?_
    exact hbad (fun e => b1 e.1)
