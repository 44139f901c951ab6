def zSW : List Nat := [19, 20, 43, 44, 45, 46, 47, 51]
theorem zSW_lt {k : Nat} (h : k < 19 ∨ (20 < k ∧ k < 43) ∨ (47 < k ∧ k < 51) ∨ 51 < k) : k ∉ zSW := by simp [zSW]; omega
/-- a week on: WEEK, DUKE, THOUGHT (and the scratch) move, nothing else -/
def zWk (μ μ' : zMu) : Prop := (∀ k, k ∉ zSW → k ≠ 1 → μ' k = μ k) ∧ ∀ j, j ≠ 3 → j ≠ 5 → j ≠ 6 → μ' 1 j = μ 1 j
theorem zWk.rf {μ : zMu} : zWk μ μ := ⟨fun _ _ _ => rfl, fun _ _ _ _ => rfl⟩
theorem zWk.off {μ μ1 μ2 : zMu} (h : zWk μ μ1) (h2 : zOff zSW μ1 μ2) : zWk μ μ2 := ⟨fun k hk h1 => by rw [h2 k hk]; exact h.1 k hk h1, fun j a b c => by rw [h2 1 (zSW_lt (by omega))]; exact h.2 j a b c⟩
theorem zWk.up {μ μ1 : zMu} (h : zWk μ μ1) {j : Nat} (hj : j = 3 ∨ j = 5 ∨ j = 6) (x : Int32) : zWk μ (zup μ1 1 j x) := ⟨fun k hk h1 => by rw [zup_ne h1]; exact h.1 k hk h1, fun i a b c => by rw [zup_at, if_neg (by omega)]; exact h.2 i a b c⟩
theorem zWk.same {μ μ' : zMu} {cnt t n w : Nat} (h : zWk μ μ') (hx : x_ok μ cnt t n w) : xs μ' t = xs μ t ∧ μ' 2 = μ 2 ∧ μ' 1 4 = μ 1 4 ∧ x_rl μ' cnt t ∧ x_fd μ' n ∧ (∀ v, x_wt μ' t n v = x_wt μ t n v) ∧ (∀ v p, q_seer (xs μ' t) (μ' 2) (μ' 1 4) v n (xK μ') (xN μ') (xA μ') p = q_seer (xs μ t) (μ 2) (μ 1 4) v n (xK μ) (xN μ) (xA μ) p) := by
  have ht : t < 6 := by have := hx.1.2.1; have := hx.1.2.2.2.1; omega
  have hn5 := hx.2.1.1
  have e1 : xs μ' t = xs μ t := by
    funext c env
    unfold xs xsay
    rw [h.1 (22 + 3 * t) (zSW_lt (by omega)) (by omega), h.1 (23 + 3 * t) (zSW_lt (by omega)) (by omega)]
  have e2 : μ' 2 = μ 2 := h.1 2 (zSW_lt (by omega)) (by omega)
  have e3 : μ' 1 4 = μ 1 4 := h.2 4 (by decide) (by decide) (by decide)
  have ef : ∀ f, f < n → μ' (4 + f) = μ (4 + f) := fun f hf => h.1 (4 + f) (zSW_lt (by omega)) (by omega)
  obtain ⟨h1, h2, -⟩ := hx
  refine ⟨e1, e2, e3, ⟨by rw [h.1 17 (zSW_lt (by omega)) (by omega)]; exact h1.1, h1.2.1, by rw [h.2 7 (by decide) (by decide) (by decide)]; exact h1.2.2.1, h1.2.2.2.1, ?_⟩, ⟨h2.1, by rw [h.2 2 (by decide) (by decide) (by decide)]; exact h2.2.1, fun f hf => by rw [ef f hf]; exact h2.2.2 f hf⟩, fun v => ?_, fun v p => ?_⟩
  · unfold x_tx
    rw [h.1 (23 + 3 * t) (zSW_lt (by omega)) (by omega), h.1 (21 + 3 * t) (zSW_lt (by omega)) (by omega)]
    exact h1.2.2.2.2
  · show q_watch _ _ _ _ _ _ _ _ = q_watch _ _ _ _ _ _ _ _
    rw [e1, e2, e3]
    exact q_watch_congr (fun f hf => by unfold xK; rw [ef f hf]) (fun f hf => by unfold xN; rw [ef f hf]) (fun f hf => by unfold xA; rw [ef f hf])
  · rw [e1, e2, e3]
    exact q_seer_congr (fun f hf => by unfold xK; rw [ef f hf]) (fun f hf => by unfold xN; rw [ef f hf]) (fun f hf => by unfold xA; rw [ef f hf])
theorem q_scan_in (g : Nat → Bool) : ∀ m i, q_scan g m i = -1 ∨ ∃ f, i ≤ f ∧ f < i + m ∧ q_scan g m i = nI f ∧ g f = true
  | 0, _ => Or.inl rfl
  | m + 1, i => by
    rw [q_scan_s]
    by_cases h : g i = true
    · rw [if_pos h]
      exact Or.inr ⟨i, Nat.le_refl _, by omega, rfl, h⟩
    · rw [if_neg h]
      rcases q_scan_in g m (i + 1) with e | ⟨f, h1, h2, h3, h4⟩
      · exact Or.inl e
      · exact Or.inr ⟨f, by omega, by omega, h3, h4⟩
def q_min9 (x : Int32) : Int32 := if 999 < x then 999 else x
set_option maxRecDepth 20000 in
theorem s_X_week {z : Int32} {cnt t n w p : Nat} {Q : zQ} {μ : zMu} {τ : Int64} (hx : x_ok μ cnt t n w) (dk : μ 1 5 = nI p) (hp : p < 8) (hst : w = 999 → Q (some (.int (-3))) μ τ) (h0 : w < 999 → (q_seer (xs μ t) (μ 2) (μ 1 4) (w + 1) n (xK μ) (xN μ) (xA μ) (q_dp (xs μ t) (μ 2) (μ 1 4) z w p)) = -1 → ∀ μ2, zWk μ μ2 → μ2 1 3 = nI (w + 1) → μ2 1 5 = nI (q_dp (xs μ t) (μ 2) (μ 1 4) z w p) → μ2 1 6 = (q_spread (x_mv μ t w) (μ 1 6)) &&& (x_wt μ t n (w + 1) ^^^ (-1)) → Q (some (.int (-1))) μ2 τ) (h1 : w < 999 → ∀ f, f < n → (q_seer (xs μ t) (μ 2) (μ 1 4) (w + 1) n (xK μ) (xN μ) (xA μ) (q_dp (xs μ t) (μ 2) (μ 1 4) z w p)) = nI f → ∀ μ2, zWk μ μ2 → μ2 1 3 = nI (w + 1) → μ2 1 5 = nI (q_dp (xs μ t) (μ 2) (μ 1 4) z w p) → Q (some (.int (nI f))) (zup (zup μ2 (4 + f) 3 (q_min9 (μ (4 + f) 3 + 1))) 1 6 (q_bit (q_dp (xs μ t) (μ 2) (μ 1 4) z w p))) τ) : Zc 4 yX10_week cX10_week 4 (some .int) [.ref 0, .int z] μ τ Q := by
  refine Zc.mk 2 [.ref 0, .int z, .null, .null] rfl (by decide) (Nat.le_of_ble_eq_true rfl) ?_
  have hw9 := hx.2.2.2.1
  refine Zw_aload_0 dX10_week_0 ?_
  refine Zw_getr 1 lf_X10_10 dX10_week_1 (by first | decide | assumption | omega) (by first | rfl | assumption) (by rfl) ?_
  refine Zw_getv (nI w) lf_X10_103 dX10_week_4 (by first | decide | assumption | omega) (by first | rfl | assumption) (by rfl) hx.2.2.1 ?_
  refine Zw_sipush (v := 999) dX10_week_7 (by decide) ?_
  refine Zw_nicmp_lt (w) (999) 16 dX10_week_10 (by decide) rfl rfl (by omega) (by omega) (fun c10 => ?_) (fun c10 => ?_)
  · refine Zw_aload_0 dX10_week_16 ?_
    refine Zw_getr 42 lf_X10_38 dX10_week_17 (by first | decide | assumption | omega) (by first | rfl | assumption) (by rfl) ?_
    refine Zw_aload_0 dX10_week_20 ?_
    refine Zw_getr 1 lf_X10_10 dX10_week_21 (by first | decide | assumption | omega) (by first | rfl | assumption) (by rfl) ?_
    refine Zw_getv (nI w) lf_X10_103 dX10_week_24 (by first | decide | assumption | omega) (by first | rfl | assumption) (by rfl) hx.2.2.1 ?_
    refine Zw_V1 (k := 3) lm_X10_136 dX10_week_27 (by decide) (by first | decide | assumption | omega) (by first | rfl | assumption) (by rfl) (Nat.le_of_ble_eq_true rfl) ?_
    refine s_layMoves hx.1 (fun μ1 hO1 hM1 => ?_)
    refine Zw_aload_0 dX10_week_30 ?_
    refine Zw_getr 1 lf_X10_10 dX10_week_31 (by first | decide | assumption | omega) (by first | rfl | assumption) (by rfl) ?_
    refine Zw_aload_0 dX10_week_34 ?_
    refine Zw_getr 42 lf_X10_38 dX10_week_35 (by first | decide | assumption | omega) (by first | rfl | assumption) (by rfl) ?_
    refine Zw_aload_0 dX10_week_38 ?_
    refine Zw_getr 1 lf_X10_10 dX10_week_39 (by first | decide | assumption | omega) (by first | rfl | assumption) (by rfl) ?_
    refine Zw_getv (μ 1 6) lf_X10_147 dX10_week_42 (by first | decide | assumption | omega) (by first | rfl | assumption) (by rfl) (by rw [hO1 1 (by simp)]) ?_
    refine Zw_V1 (k := 0) lm_X10_140 dX10_week_45 (by decide) (by first | decide | assumption | omega) (by first | rfl | assumption) (by rfl) (Nat.le_of_ble_eq_true rfl) ?_
    refine s_spread ?_
    rw [q_spread_congr hM1]
    refine Zw_put lp_X10_147 dX10_week_48 (by first | decide | assumption | omega) (by first | rfl | assumption) (by rfl) (by first | rfl | assumption) (by first | rfl | assumption) ?_
    refine Zw_aload_0 dX10_week_51 ?_
    refine Zw_getr 1 lf_X10_10 dX10_week_52 (by first | decide | assumption | omega) (by first | rfl | assumption) (by rfl) ?_
    refine Zw_aload_0 dX10_week_55 ?_
    refine Zw_getr 42 lf_X10_38 dX10_week_56 (by first | decide | assumption | omega) (by first | rfl | assumption) (by rfl) ?_
    refine Zw_aload_0 dX10_week_59 ?_
    refine Zw_getr 1 lf_X10_10 dX10_week_60 (by first | decide | assumption | omega) (by first | rfl | assumption) (by rfl) ?_
    refine Zw_getv (nI p) lf_X10_150 dX10_week_63 (by first | decide | assumption | omega) (by first | rfl | assumption) (by rfl) (by rw [zup_at, if_neg (by omega), hO1 1 (by simp)]; exact dk) ?_
    refine Zw_aload_0 dX10_week_66 ?_
    refine Zw_getr 1 lf_X10_10 dX10_week_67 (by first | decide | assumption | omega) (by first | rfl | assumption) (by rfl) ?_
    refine Zw_getv (nI w) lf_X10_103 dX10_week_70 (by first | decide | assumption | omega) (by first | rfl | assumption) (by rfl) (by rw [zup_at, if_neg (by omega), hO1 1 (by simp)]; exact hx.2.2.1) ?_
    refine Zw_iload_1 dX10_week_73 ?_
    refine Zw_S1 (k := 0) lm_X10_153 dX10_week_74 (by decide) (Nat.le_of_ble_eq_true rfl) ?_
    refine s_after ?_
    refine Zw_V3 (k := 3) lm_X10_156 dX10_week_77 (by decide) (by first | decide | assumption | omega) (by first | rfl | assumption) (by rfl) (Nat.le_of_ble_eq_true rfl) ?_
    have hk1 : zWk μ (zup μ1 1 6 (q_spread (x_mv μ t w) (μ 1 6))) := (zWk.rf.off (hO1.sub (by decide))).up (by omega) _
    obtain ⟨e1, e2, e3, e4, e5, e6, e7⟩ := hk1.same hx
    refine s_pick hp e4 (fun μ2 hO2 => ?_)
    rw [e1, e2, e3, show q_pick (q_next (xs μ t) (μ 2) (μ 1 4) (nI w) p) p (z * 1103515245 + 12345) = q_dp (xs μ t) (μ 2) (μ 1 4) z w p from rfl]
    refine Zw_put lp_X10_150 dX10_week_80 (by first | decide | assumption | omega) (by first | rfl | assumption) (by rfl) (by first | rfl | assumption) (by first | rfl | assumption) ?_
    refine Zw_aload_0 dX10_week_83 ?_
    refine Zw_getr 1 lf_X10_10 dX10_week_84 (by first | decide | assumption | omega) (by first | rfl | assumption) (by rfl) ?_
    refine Zw_dup dX10_week_87 rfl ?_
    refine Zw_getv (nI w) lf_X10_103 dX10_week_88 (by first | decide | assumption | omega) (by first | rfl | assumption) (by rfl) (by rw [zup_at, if_neg (by omega), hO2 1 (by simp), zup_at, if_neg (by omega), hO1 1 (by simp)]; exact hx.2.2.1) ?_
    refine Zw_iconst (v := 1) dX10_week_91 (by decide) ?_
    refine Zw_nadd (w) (1) dX10_week_92 rfl rfl ?_
    refine Zw_put lp_X10_103 dX10_week_93 (by first | decide | assumption | omega) (by first | rfl | assumption) (by rfl) (by first | rfl | assumption) (by first | rfl | assumption) ?_
    refine Zw_aload_0 dX10_week_96 ?_
    refine Zw_getr 42 lf_X10_38 dX10_week_97 (by first | decide | assumption | omega) (by first | rfl | assumption) (by rfl) ?_
    have hd3 : (zup (zup μ2 1 5 (nI (q_dp (xs μ t) (μ 2) (μ 1 4) z w p))) 1 3 (nI (w + 1))) 1 5 = nI (q_dp (xs μ t) (μ 2) (μ 1 4) z w p) := by simp [zup_at]
    have hw3 : (zup (zup μ2 1 5 (nI (q_dp (xs μ t) (μ 2) (μ 1 4) z w p))) 1 3 (nI (w + 1))) 1 3 = nI (w + 1) := by simp [zup_at]
    have ht3 : (zup (zup μ2 1 5 (nI (q_dp (xs μ t) (μ 2) (μ 1 4) z w p))) 1 3 (nI (w + 1))) 1 6 = (q_spread (x_mv μ t w) (μ 1 6)) := by simp [zup_at, hO2 1 (by simp)]
    refine Zw_aload_0 dX10_week_100 ?_
    refine Zw_getr 1 lf_X10_10 dX10_week_101 (by first | decide | assumption | omega) (by first | rfl | assumption) (by rfl) ?_
    refine Zw_getv (nI (q_dp (xs μ t) (μ 2) (μ 1 4) z w p)) lf_X10_150 dX10_week_104 (by first | decide | assumption | omega) (by first | rfl | assumption) (by rfl) hd3 ?_
    refine Zw_aload_0 dX10_week_107 ?_
    refine Zw_getr 1 lf_X10_10 dX10_week_108 (by first | decide | assumption | omega) (by first | rfl | assumption) (by rfl) ?_
    refine Zw_getv (nI (w + 1)) lf_X10_103 dX10_week_111 (by first | decide | assumption | omega) (by first | rfl | assumption) (by rfl) hw3 ?_
    refine Zw_V2 (k := 3) lm_X10_159 dX10_week_114 (by decide) (by first | decide | assumption | omega) (by first | rfl | assumption) (by rfl) (Nat.le_of_ble_eq_true rfl) ?_
    have hk3 : zWk μ (zup (zup μ2 1 5 (nI (q_dp (xs μ t) (μ 2) (μ 1 4) z w p))) 1 3 (nI (w + 1))) := ((hk1.off (hO2.sub (by decide))).up (by omega) _).up (by omega) _
    obtain ⟨g1, g2, g3, g4, g5, g6, g7⟩ := hk3.same hx
    refine s_seer (q_dp_lt hp) (by omega) g4 g5 (fun μ3 hO3 => ?_)
    rw [g7]
    refine Zw_istore_2 dX10_week_117 rfl ?_
    refine Zw_iload_2 dX10_week_118 ?_
    refine Zw_iconst (v := (-1)) dX10_week_119 (by decide) ?_
    refine Zw_icmp_ne 154 dX10_week_120 (by decide) (fun c120 => ?_) (fun c120 => ?_)
    · obtain ⟨f, -, hf, hsf, -⟩ := (q_scan_in _ n 0).resolve_left c120
      have hsf : (q_seer (xs μ t) (μ 2) (μ 1 4) (w + 1) n (xK μ) (xN μ) (xA μ) (q_dp (xs μ t) (μ 2) (μ 1 4) z w p)) = nI f := hsf
      rw [hsf] at c120 ⊢
      have hn5 := hx.2.1.1
      rw [Nat.zero_add] at hf
      have hff := zfin_s (show f < 5 by omega)
      refine Zw_aload_0 dX10_week_154 ?_
      refine Zw_getr 1 lf_X10_10 dX10_week_155 (by first | decide | assumption | omega) (by first | rfl | assumption) (by rfl) ?_
      refine Zw_getr 3 lf_X10_109 dX10_week_158 (by first | decide | assumption | omega) (by first | rfl | assumption) (by rfl) ?_
      refine Zw_iload_2 dX10_week_161 ?_
      refine Zw_aaldn (f) (4 + f) dX10_week_162 (by first | decide | assumption | omega) (by first | rfl | assumption) rfl (by omega) (zfin_g (by omega)) (by decide) ?_
      refine Zw_astore_3 dX10_week_163 rfl ?_
      refine Zw_aload_3 dX10_week_164 ?_
      refine Zw_aload_3 dX10_week_165 ?_
      refine Zw_getv (μ (4 + f) 3) lf_X10_162 dX10_week_166 (by first | decide | assumption | omega) (by first | rfl | assumption) (by rfl) (by rw [hO3 (4 + f) (by simp; omega), hk3.1 (4 + f) (zSW_lt (by omega)) (by omega)]) ?_
      refine Zw_iconst (v := 1) dX10_week_169 (by decide) ?_
      refine Zw_iadd dX10_week_170 ?_
      refine Zw_sipush (v := 999) dX10_week_171 (by decide) ?_
      refine Zw_min lcm_X10_167 dX10_week_174 (by decide) (Nat.le_of_ble_eq_true rfl) ?_
      refine Zw_put lp_X10_162 dX10_week_177 (by first | decide | assumption | omega) (by first | rfl | assumption) (by rfl) (by first | rfl | assumption) (by first | rfl | assumption) ?_
      refine Zw_aload_0 dX10_week_180 ?_
      refine Zw_getr 1 lf_X10_10 dX10_week_181 (by first | decide | assumption | omega) (by first | rfl | assumption) (by rfl) ?_
      refine Zw_iconst (v := 1) dX10_week_184 (by decide) ?_
      refine Zw_aload_0 dX10_week_185 ?_
      refine Zw_getr 1 lf_X10_10 dX10_week_186 (by first | decide | assumption | omega) (by first | rfl | assumption) (by rfl) ?_
      refine Zw_getv (nI (q_dp (xs μ t) (μ 2) (μ 1 4) z w p)) lf_X10_150 dX10_week_189 (by first | decide | assumption | omega) (by first | rfl | assumption) (by rfl) (by rw [zup_ne (by omega), hO3 1 (by simp)]; exact hd3) ?_
      refine Zw_ishl dX10_week_192 ?_
      refine Zw_put lp_X10_147 dX10_week_193 (by first | decide | assumption | omega) (by first | rfl | assumption) (by rfl) (by first | rfl | assumption) (by first | rfl | assumption) ?_
      refine Zw_iload_2 dX10_week_196 ?_
      refine Zw_ireturn dX10_week_197 (by first | rfl | assumption) ?_
      exact h1 c10 f hf hsf μ3 (hk3.off (hO3.sub (by decide))) (by rw [hO3 1 (by simp)]; exact hw3) (by rw [hO3 1 (by simp)]; exact hd3)
    · refine Zw_aload_0 dX10_week_123 ?_
      refine Zw_getr 1 lf_X10_10 dX10_week_124 (by first | decide | assumption | omega) (by first | rfl | assumption) (by rfl) ?_
      refine Zw_dup dX10_week_127 rfl ?_
      refine Zw_getv ((q_spread (x_mv μ t w) (μ 1 6))) lf_X10_147 dX10_week_128 (by first | decide | assumption | omega) (by first | rfl | assumption) (by rfl) (by rw [hO3 1 (by simp)]; exact ht3) ?_
      refine Zw_aload_0 dX10_week_131 ?_
      refine Zw_getr 42 lf_X10_38 dX10_week_132 (by first | decide | assumption | omega) (by first | rfl | assumption) (by rfl) ?_
      refine Zw_aload_0 dX10_week_135 ?_
      refine Zw_getr 1 lf_X10_10 dX10_week_136 (by first | decide | assumption | omega) (by first | rfl | assumption) (by rfl) ?_
      refine Zw_getv (nI (w + 1)) lf_X10_103 dX10_week_139 (by first | decide | assumption | omega) (by first | rfl | assumption) (by rfl) (by rw [hO3 1 (by simp)]; exact hw3) ?_
      refine Zw_V1 (k := 3) lm_X10_144 dX10_week_142 (by decide) (by first | decide | assumption | omega) (by first | rfl | assumption) (by rfl) (Nat.le_of_ble_eq_true rfl) ?_
      have hk4 := hk3.off (hO3.sub (by decide))
      obtain ⟨i1, i2, i3, i4, i5, i6, i7⟩ := hk4.same hx
      refine s_watch (by omega) i4 i5 (fun μ4 hO4 => ?_)
      have hi6 := i6 (w + 1)
      unfold x_wt at hi6
      rw [hi6]
      refine Zw_iconst (v := (-1)) dX10_week_145 (by decide) ?_
      refine Zw_ixor dX10_week_146 ?_
      refine Zw_iand dX10_week_147 ?_
      refine Zw_put lp_X10_147 dX10_week_148 (by first | decide | assumption | omega) (by first | rfl | assumption) (by rfl) (by first | rfl | assumption) (by first | rfl | assumption) ?_
      refine Zw_goto 196 dX10_week_151 (by decide) ?_
      refine Zw_iload_2 dX10_week_196 ?_
      refine Zw_ireturn dX10_week_197 (by first | rfl | assumption) ?_
      rw [c120]
      exact h0 c10 c120 _ ((hk4.off (hO4.sub (by decide))).up (by omega) _) (by rw [zup_at, if_neg (by omega), hO4 1 (by simp), hO3 1 (by simp)]; exact hw3) (by rw [zup_at, if_neg (by omega), hO4 1 (by simp), hO3 1 (by simp)]; exact hd3) (by simp [zup_at])
  · refine Zw_bipush (v := (-3)) dX10_week_13 (by decide) ?_
    refine Zw_ireturn dX10_week_15 (by first | rfl | assumption) ?_
    exact hst (by omega)
