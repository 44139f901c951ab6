/-! a week, truly -/
def mWk (μ μ' : zMu) : Prop := nOff [65] μ μ' ∧ ∀ j, j ≠ 0 → j ≠ 2 → j ≠ 3 → μ' 65 j = μ 65 j
theorem mWk.refl (μ : zMu) : mWk μ μ := ⟨nOff.refl _ _, fun _ _ _ _ => rfl⟩
theorem mWk.off {a b c : zMu} (h : mWk a b) (h' : nOff [] b c) : mWk a c := ⟨h.1.tr (h'.sub (by simp)), fun j h1 h2 h3 => by rw [h'.1 65 (by simp)]; exact h.2 j h1 h2 h3⟩
theorem mWk.up {a b : zMu} {j : Nat} {x : Int32} (h : mWk a b) (hj : j = 0 ∨ j = 2 ∨ j = 3) : mWk a (zup b 65 j x) := ⟨h.1.st (by simp) (by decide), fun i h1 h2 h3 => by rw [zup_at, if_neg (by omega)]; exact h.2 i h1 h2 h3⟩
theorem m_cx.d {C : mC} {w j : Nat} {μ : zMu} {x : Int32} (hc : m_cx C w μ) (hj : j = 2 ∨ j = 3) : m_cx C w (zup μ 65 j x) := by
  obtain ⟨t, h1, h2, h3, h4, h5⟩ := hc
  obtain ⟨⟨a1, a2, a3⟩, ⟨b1, b2, b3⟩, c1, c2, c3⟩ := h1
  have ho : zOff [65] μ (zup μ 65 j x) := zOff.rf.up (by simp)
  refine ⟨t, ⟨⟨by rw [zup_ne (by decide)]; exact a1, a2, m_tx_off ho (by simp) (by simp) a3⟩, ⟨b1, by rw [zup_ne (by decide)]; exact b2, ?_⟩, by rw [zup_at, if_neg (by omega)]; exact c1, c2, ?_⟩, ?_, ?_, ?_, ?_⟩
  · rw [zup_ne (by decide), zup_ne (by decide)]; exact b3
  · rw [zup_ne (by decide)]; exact c3
  · rw [m_say_off ho (by simp) (by simp) (by simp; omega) (by simp; omega)]; exact h2
  · rw [zup_ne (by decide)]; exact h3
  · rw [zup_at, if_neg (by omega)]; exact h4
  · rw [zup_ne (by decide), zup_ne (by decide)]; exact h5
def c_seer (C : mC) (w p : Nat) : Int32 := q_seer C.1 C.2.1 C.2.2.1 w (cN C) (cK C) (cU C) (cA C) p
theorem c_seer_e (C : mC) (w p : Nat) : c_seer C w p = q_scan (fun f => decide (cA C f = p) && c_see C w f p) (cN C) 0 := rfl
theorem sub_1 (x : Int32) : x - 1 = x + (-1) := by
  apply Int32.toBitVec_inj.mp; simp [BitVec.sub_eq_add_neg]
theorem pred_n (k : Nat) : nI (k + 1) + (-1) = nI k := by rw [← sub_1]; exact nI_pred k
set_option maxRecDepth 20000 in
theorem l_mwk {Q : zQ} {μ0 : zMu} {C : mC} {z : Int32} {w to : Nat} (hto : to < 8) (h : ∀ μ2 τ2, nOff [] μ0 μ2 → Zw 45 RX11 cX11_week 5 (some .int) Q 121 [.ref 61, .int z, .int (nI to), .int (c_seer C w to), .null] [] μ2 τ2) : ∀ k who μ τ, k ≤ cN C → m_cx C w μ → nOff [] μ0 μ → who = q_scan (fun f => decide (cA C f = to) && c_see C w f to) (cN C - k) k → Zw 45 RX11 cX11_week 5 (some .int) Q 78 [.ref 61, .int z, .int (nI to), .int who, .int (nI k + (-1))] [] μ τ
  | 0, who, μ, τ, _, _, hO, hW => by
    rw [show nI 0 + (-1) = -1 from by decide]
    refine Zw_iload_4 dX11_week_78 ?_
    refine Zw_if_lt 121 dX11_week_80 (by decide) (fun _ => ?_) (fun c => absurd c (by decide))
    refine Zw_drop (L' := [.ref 61, .int z, .int (nI to), .int who, .null]) ⟨Or.inr rfl, Or.inr rfl, Or.inr rfl, Or.inr rfl, Or.inl rfl, trivial⟩ (Nat.le_of_ble_eq_true rfl) ?_
    rw [Nat.sub_zero] at hW
    rw [hW]
    exact h _ _ hO
  | k + 1, who, μ, τ, hk, hc, hO, hW => by
    rw [pred_n k]
    have hn5 := hc.n5.1
    have hfd := hc.fd (show k < cN C by omega)
    refine Zw_iload_4 dX11_week_78 ?_
    refine Zw_if_lt 121 dX11_week_80 (by decide) (fun c80 => absurd c80 (nI_pos (by omega))) (fun c80 => ?_)
    refine Zw_aload_0 dX11_week_83 ?_
    refine Zw_getr 68 lf_X11_32 dX11_week_84 (by first | decide | assumption | omega) (by first | rfl | assumption) (by rfl) ?_
    refine Zw_iconst (v := 3) dX11_week_87 (by decide) ?_
    refine Zw_iload_4 dX11_week_88 ?_
    refine Zw_nmul (3) (k) dX11_week_90 rfl rfl ?_
    refine Zw_iconst (v := 1) dX11_week_91 (by decide) ?_
    refine Zw_nadd ((3 * k)) (1) dX11_week_92 rfl rfl ?_
    refine Zw_ialdnv (((3 * k) + 1)) (nI (cA C k)) dX11_week_93 (by first | decide | assumption | omega) (by first | rfl | assumption) rfl (by omega) (by decide) hfd.2.2.1 ?_
    refine Zw_iload_2 dX11_week_94 ?_
    have hA8 := hfd.2.2.2.2.2
    refine Zw_nicmp_ne ((cA C k)) (to) 113 dX11_week_95 (by decide) rfl rfl (by omega) (by omega) (fun c95 => ?_) (fun c95 => ?_)
    · refine Zw_iload_3 dX11_week_113 ?_
      refine Zw_istore_3 dX11_week_114 rfl ?_
      refine Zw_iinc_4 dX11_week_115 rfl (zincm1 _) ?_
      refine Zw_goto 78 dX11_week_118 (by decide) ?_
      have hs : (fun f => decide (cA C f = to) && c_see C w f to) k = false := by simp [c95]
      have hsc := q_scan_s (fun f => decide (cA C f = to) && c_see C w f to) (cN C - (k + 1)) k
      rw [if_neg (by rw [show (decide (cA C k = to) && c_see C w k to) = false from hs]; simp)] at hsc
      exact l_mwk hto h k _ _ _ (by omega) hc hO (by rw [show cN C - k = (cN C - (k + 1)) + 1 by omega, hsc]; exact hW)
    · refine Zw_aload_0 dX11_week_98 ?_
      refine Zw_iload_4 dX11_week_99 ?_
      refine Zw_iload_2 dX11_week_101 ?_
      refine Zw_V2 (k := 43) lm_X11_336 dX11_week_102 (by decide) (by first | decide | assumption | omega) (by first | rfl | assumption) (by rfl) (Nat.le_of_ble_eq_true rfl) ?_
      refine s_c_see hc (show k < cN C by omega) hto (fun g1 μ1 τ1 o1 => ?_) (fun g0 μ1 τ1 o1 => ?_)
      · refine Zw_if_eq 113 dX11_week_105 (by decide) (fun c => absurd c (by decide)) (fun _ => ?_)
        refine Zw_iload_4 dX11_week_108 ?_
        refine Zw_goto 114 dX11_week_110 (by decide) ?_
        refine Zw_istore_3 dX11_week_114 rfl ?_
        refine Zw_iinc_4 dX11_week_115 rfl (zincm1 _) ?_
        refine Zw_goto 78 dX11_week_118 (by decide) ?_
        have hs : (fun f => decide (cA C f = to) && c_see C w f to) k = true := by simp [c95, g1]
        have hsc := q_scan_s (fun f => decide (cA C f = to) && c_see C w f to) (cN C - (k + 1)) k
        rw [if_pos hs] at hsc
        exact l_mwk hto h k _ _ _ (by omega) (hc.off o1 (by simp)) (hO.tr o1) (by rw [show cN C - k = (cN C - (k + 1)) + 1 by omega, hsc])
      · refine Zw_if_eq 113 dX11_week_105 (by decide) (fun _ => ?_) (fun c => absurd c (by decide))
        refine Zw_iload_3 dX11_week_113 ?_
        refine Zw_istore_3 dX11_week_114 rfl ?_
        refine Zw_iinc_4 dX11_week_115 rfl (zincm1 _) ?_
        refine Zw_goto 78 dX11_week_118 (by decide) ?_
        have hs : (fun f => decide (cA C f = to) && c_see C w f to) k = false := by simp [g0]
        have hsc := q_scan_s (fun f => decide (cA C f = to) && c_see C w f to) (cN C - (k + 1)) k
        rw [if_neg (by rw [show (decide (cA C k = to) && c_see C w k to) = false from hs]; simp)] at hsc
        exact l_mwk hto h k _ _ _ (by omega) (hc.off o1 (by simp)) (hO.tr o1) (by rw [show cN C - k = (cN C - (k + 1)) + 1 by omega, hsc]; exact hW)
set_option maxRecDepth 20000 in
theorem s_mweekS {z : Int32} {Q : zQ} {μ : zMu} {τ : Int64} (hw : μ 65 0 = 999) (h : Q (some (.int (-3))) μ τ) : Zc 45 yX11_week cX11_week 5 (some .int) [.ref 61, .int z] μ τ Q := by
  refine Zc.mk 3 [.ref 61, .int z, .null, .null, .null] rfl (by decide) (Nat.le_of_ble_eq_true rfl) ?_
  refine Zw_aload_0 dX11_week_0 ?_
  refine Zw_getr 65 lf_X11_23 dX11_week_1 (by first | decide | assumption | omega) (by first | rfl | assumption) (by rfl) ?_
  refine Zw_iconst (v := 0) dX11_week_4 (by decide) ?_
  refine Zw_ialdnv (0) (999) dX11_week_5 (by first | decide | assumption | omega) (by first | rfl | assumption) rfl (by omega) (by decide) hw ?_
  refine Zw_sipush (v := 999) dX11_week_6 (by decide) ?_
  refine Zw_icmp_ne 15 dX11_week_9 (by decide) (fun c => absurd c (by decide)) (fun _ => ?_)
  refine Zw_bipush (v := (-3)) dX11_week_12 (by decide) ?_
  refine Zw_ireturn dX11_week_14 (by first | rfl | assumption) ?_
  exact h
theorem c_seer_in {C : mC} {w p : Nat} (h5 : cN C ≤ 5) : c_seer C w p = -1 ∨ ∃ f, f < cN C ∧ c_seer C w p = nI f := by
  rcases q_scan_in (fun f => decide (cA C f = p) && c_see C w f p) (cN C) 0 with e | ⟨f, _, h2, h3, _⟩
  · exact Or.inl e
  · exact Or.inr ⟨f, by omega, h3⟩
set_option maxRecDepth 20000 in
theorem l_mwA {Q : zQ} {μ : zMu} {τ : Int64} {C : mC} {z : Int32} {w to : Nat} {s : Int32} (hc : m_cx C w μ) (h3 : μ 65 3 = s) (h : ∀ μ2 τ2, nOff [] μ μ2 → Q (some (.int (-1))) (zup μ2 65 3 (s &&& (c_wt C w ^^^ (-1)))) τ2) : Zw 45 RX11 cX11_week 5 (some .int) Q 121 [.ref 61, .int z, .int (nI to), .int (-1), .null] [] μ τ := by
  refine Zw_iload_3 dX11_week_121 ?_
  refine Zw_iconst (v := (-1)) dX11_week_122 (by decide) ?_
  refine Zw_icmp_ne 143 dX11_week_123 (by decide) (fun c => absurd c (by decide)) (fun _ => ?_)
  refine Zw_aload_0 dX11_week_126 ?_
  refine Zw_getr 65 lf_X11_23 dX11_week_127 (by first | decide | assumption | omega) (by first | rfl | assumption) (by rfl) ?_
  refine Zw_iconst (v := 3) dX11_week_130 (by decide) ?_
  refine Zw_dup2 dX11_week_131 rfl rfl ?_
  refine Zw_ialdnv (3) (s) dX11_week_132 (by first | decide | assumption | omega) (by first | rfl | assumption) rfl (by omega) (by decide) h3 ?_
  refine Zw_aload_0 dX11_week_133 ?_
  refine Zw_V0 (k := 44) lm_X11_344 dX11_week_134 (by decide) (by first | decide | assumption | omega) (by first | rfl | assumption) (by rfl) (Nat.le_of_ble_eq_true rfl) ?_
  refine s_c_seen hc (fun μ2 τ2 o2 => ?_)
  refine Zw_iconst (v := (-1)) dX11_week_137 (by decide) ?_
  refine Zw_ixor dX11_week_138 ?_
  refine Zw_iand dX11_week_139 ?_
  refine Zw_iastn (3) dX11_week_140 (by first | decide | assumption | omega) (by first | rfl | assumption) rfl (by omega) (by decide) ?_
  refine Zw_iconst (v := (-1)) dX11_week_141 (by decide) ?_
  refine Zw_ireturn dX11_week_142 (by first | rfl | assumption) ?_
  exact h _ _ o2
set_option maxRecDepth 20000 in
theorem l_mwB {Q : zQ} {μ : zMu} {τ : Int64} {z : Int32} {to f : Nat} {s : Int32} (hf : f < 5) (h2 : μ 68 (3 * f + 2) = s) (h : Q (some (.int (nI f))) (zup (zup μ 68 (3 * f + 2) (if s = 999 then 999 else s + 1)) 65 3 (q_bit to)) τ) : Zw 45 RX11 cX11_week 5 (some .int) Q 121 [.ref 61, .int z, .int (nI to), .int (nI f), .null] [] μ τ := by
  refine Zw_iload_3 dX11_week_121 ?_
  refine Zw_iconst (v := (-1)) dX11_week_122 (by decide) ?_
  refine Zw_icmp_ne 143 dX11_week_123 (by decide) (fun c123 => ?_) (fun c123 => absurd c123 (nI_m1 (by omega)))
  refine Zw_aload_0 dX11_week_143 ?_
  refine Zw_getr 68 lf_X11_32 dX11_week_144 (by first | decide | assumption | omega) (by first | rfl | assumption) (by rfl) ?_
  refine Zw_iconst (v := 3) dX11_week_147 (by decide) ?_
  refine Zw_iload_3 dX11_week_148 ?_
  refine Zw_nmul (3) (f) dX11_week_149 rfl rfl ?_
  refine Zw_iconst (v := 2) dX11_week_150 (by decide) ?_
  refine Zw_nadd ((3 * f)) (2) dX11_week_151 rfl rfl ?_
  refine Zw_aload_0 dX11_week_152 ?_
  refine Zw_getr 68 lf_X11_32 dX11_week_153 (by first | decide | assumption | omega) (by first | rfl | assumption) (by rfl) ?_
  refine Zw_iconst (v := 3) dX11_week_156 (by decide) ?_
  refine Zw_iload_3 dX11_week_157 ?_
  refine Zw_nmul (3) (f) dX11_week_158 rfl rfl ?_
  refine Zw_iconst (v := 2) dX11_week_159 (by decide) ?_
  refine Zw_nadd ((3 * f)) (2) dX11_week_160 rfl rfl ?_
  refine Zw_ialdnv (((3 * f) + 2)) (s) dX11_week_161 (by first | decide | assumption | omega) (by first | rfl | assumption) rfl (by omega) (by decide) h2 ?_
  refine Zw_sipush (v := 999) dX11_week_162 (by decide) ?_
  refine Zw_icmp_ne 174 dX11_week_165 (by decide) (fun c165 => ?_) (fun c165 => ?_)
  · refine Zw_aload_0 dX11_week_174 ?_
    refine Zw_getr 68 lf_X11_32 dX11_week_175 (by first | decide | assumption | omega) (by first | rfl | assumption) (by rfl) ?_
    refine Zw_iconst (v := 3) dX11_week_178 (by decide) ?_
    refine Zw_iload_3 dX11_week_179 ?_
    refine Zw_nmul (3) (f) dX11_week_180 rfl rfl ?_
    refine Zw_iconst (v := 2) dX11_week_181 (by decide) ?_
    refine Zw_nadd ((3 * f)) (2) dX11_week_182 rfl rfl ?_
    refine Zw_ialdnv (((3 * f) + 2)) (s) dX11_week_183 (by first | decide | assumption | omega) (by first | rfl | assumption) rfl (by omega) (by decide) h2 ?_
    refine Zw_iconst (v := 1) dX11_week_184 (by decide) ?_
    refine Zw_iadd dX11_week_185 ?_
    refine Zw_iastn (((3 * f) + 2)) dX11_week_186 (by first | decide | assumption | omega) (by first | rfl | assumption) rfl (by omega) (by decide) ?_
    refine Zw_aload_0 dX11_week_187 ?_
    refine Zw_getr 65 lf_X11_23 dX11_week_188 (by first | decide | assumption | omega) (by first | rfl | assumption) (by rfl) ?_
    refine Zw_iconst (v := 3) dX11_week_191 (by decide) ?_
    refine Zw_iconst (v := 1) dX11_week_192 (by decide) ?_
    refine Zw_iload_2 dX11_week_193 ?_
    refine Zw_ishl dX11_week_194 ?_
    refine Zw_iastn (3) dX11_week_195 (by first | decide | assumption | omega) (by first | rfl | assumption) rfl (by omega) (by decide) ?_
    refine Zw_iload_3 dX11_week_196 ?_
    refine Zw_ireturn dX11_week_197 (by first | rfl | assumption) ?_
    rw [if_neg c165] at h
    exact h
  · refine Zw_sipush (v := 999) dX11_week_168 (by decide) ?_
    refine Zw_goto 186 dX11_week_171 (by decide) ?_
    refine Zw_iastn (((3 * f) + 2)) dX11_week_186 (by first | decide | assumption | omega) (by first | rfl | assumption) rfl (by omega) (by decide) ?_
    refine Zw_aload_0 dX11_week_187 ?_
    refine Zw_getr 65 lf_X11_23 dX11_week_188 (by first | decide | assumption | omega) (by first | rfl | assumption) (by rfl) ?_
    refine Zw_iconst (v := 3) dX11_week_191 (by decide) ?_
    refine Zw_iconst (v := 1) dX11_week_192 (by decide) ?_
    refine Zw_iload_2 dX11_week_193 ?_
    refine Zw_ishl dX11_week_194 ?_
    refine Zw_iastn (3) dX11_week_195 (by first | decide | assumption | omega) (by first | rfl | assumption) rfl (by omega) (by decide) ?_
    refine Zw_iload_3 dX11_week_196 ?_
    refine Zw_ireturn dX11_week_197 (by first | rfl | assumption) ?_
    rw [if_pos c165] at h
    exact h
set_option maxRecDepth 20000 in
theorem s_mweek {C : mC} {z : Int32} {w p : Nat} {Q : zQ} {μ : zMu} {τ : Int64} (hc : m_cx C w μ) (hw : w < 999) (dk : μ 65 2 = nI p) (hp : p < 8) (hr : r8 (μ 65 3)) (h0 : c_seer C (w + 1) (c_dp C z w p) = -1 → ∀ μ2 τ2, mWk μ μ2 → μ2 65 0 = nI (w + 1) → μ2 65 2 = nI (c_dp C z w p) → μ2 65 3 = (q_spread (c_mv C w) (μ 65 3)) &&& (c_wt C (w + 1) ^^^ (-1)) → Q (some (.int (-1))) μ2 τ2) (h1 : ∀ f, f < cN C → c_seer C (w + 1) (c_dp C z w p) = nI f → ∀ μ2 τ2, mWk μ μ2 → μ2 65 0 = nI (w + 1) → μ2 65 2 = nI (c_dp C z w p) → Q (some (.int (nI f))) (zup (zup μ2 68 (3 * f + 2) (if μ 68 (3 * f + 2) = 999 then 999 else μ 68 (3 * f + 2) + 1)) 65 3 (q_bit (c_dp C z w p))) τ2) : Zc 45 yX11_week cX11_week 5 (some .int) [.ref 61, .int z] μ τ Q := by
  refine Zc.mk 3 [.ref 61, .int z, .null, .null, .null] rfl (by decide) (Nat.le_of_ble_eq_true rfl) ?_
  refine Zw_aload_0 dX11_week_0 ?_
  refine Zw_getr 65 lf_X11_23 dX11_week_1 (by first | decide | assumption | omega) (by first | rfl | assumption) (by rfl) ?_
  refine Zw_iconst (v := 0) dX11_week_4 (by decide) ?_
  refine Zw_ialdnv (0) (nI w) dX11_week_5 (by first | decide | assumption | omega) (by first | rfl | assumption) rfl (by omega) (by decide) hc.n5.2.2.1 ?_
  refine Zw_sipush (v := 999) dX11_week_6 (by decide) ?_
  refine Zw_icmp_ne 15 dX11_week_9 (by decide) (fun c9 => ?_) (fun c9 => absurd c9 (fun e => absurd ((nI_eq (b := 999) (by omega) (by omega)).mp e) (by omega)))
  refine Zw_aload_0 dX11_week_15 ?_
  refine Zw_aload_0 dX11_week_16 ?_
  refine Zw_getr 65 lf_X11_23 dX11_week_17 (by first | decide | assumption | omega) (by first | rfl | assumption) (by rfl) ?_
  refine Zw_iconst (v := 2) dX11_week_20 (by decide) ?_
  refine Zw_ialdnv (2) (nI p) dX11_week_21 (by first | decide | assumption | omega) (by first | rfl | assumption) rfl (by omega) (by decide) dk ?_
  refine Zw_iload_1 dX11_week_22 ?_
  refine Zw_ldcw dX11_week_23 zw1 ?_
  refine Zw_imul dX11_week_26 ?_
  refine Zw_sipush (v := 12345) dX11_week_27 (by decide) ?_
  refine Zw_iadd dX11_week_30 ?_
  refine Zw_V2 (k := 44) lm_X11_348 dX11_week_31 (by decide) (by first | decide | assumption | omega) (by first | rfl | assumption) (by rfl) (Nat.le_of_ble_eq_true rfl) ?_
  refine s_steps hc hp (fun μ1 τ1 o1 => ?_)
  rw [show q_pick (c_mv C w p) p (z * 1103515245 + 12345) = c_dp C z w p from rfl]
  refine Zw_istore_2 dX11_week_34 rfl ?_
  refine Zw_aload_0 dX11_week_35 ?_
  refine Zw_getr 65 lf_X11_23 dX11_week_36 (by first | decide | assumption | omega) (by first | rfl | assumption) (by rfl) ?_
  refine Zw_iconst (v := 3) dX11_week_39 (by decide) ?_
  refine Zw_aload_0 dX11_week_40 ?_
  refine Zw_aload_0 dX11_week_41 ?_
  refine Zw_getr 65 lf_X11_23 dX11_week_42 (by first | decide | assumption | omega) (by first | rfl | assumption) (by rfl) ?_
  refine Zw_iconst (v := 3) dX11_week_45 (by decide) ?_
  refine Zw_ialdnv (3) (μ 65 3) dX11_week_46 (by first | decide | assumption | omega) (by first | rfl | assumption) rfl (by omega) (by decide) (by rw [o1.1 65 (by simp)]) ?_
  refine Zw_V1 (k := 44) lm_X11_341 dX11_week_47 (by decide) (by first | decide | assumption | omega) (by first | rfl | assumption) (by rfl) (Nat.le_of_ble_eq_true rfl) ?_
  refine s_c_spread (hc.off o1 (by simp)) hr (fun μx τx ox => ?_)
  have oo := o1.tr ox
  refine Zw_iastn (3) dX11_week_50 (by first | decide | assumption | omega) (by first | rfl | assumption) rfl (by omega) (by decide) ?_
  refine Zw_aload_0 dX11_week_51 ?_
  refine Zw_getr 65 lf_X11_23 dX11_week_52 (by first | decide | assumption | omega) (by first | rfl | assumption) (by rfl) ?_
  refine Zw_iconst (v := 2) dX11_week_55 (by decide) ?_
  refine Zw_iload_2 dX11_week_56 ?_
  refine Zw_iastn (2) dX11_week_57 (by first | decide | assumption | omega) (by first | rfl | assumption) rfl (by omega) (by decide) ?_
  refine Zw_aload_0 dX11_week_58 ?_
  refine Zw_getr 65 lf_X11_23 dX11_week_59 (by first | decide | assumption | omega) (by first | rfl | assumption) (by rfl) ?_
  refine Zw_iconst (v := 0) dX11_week_62 (by decide) ?_
  refine Zw_dup2 dX11_week_63 rfl rfl ?_
  refine Zw_ialdnv (0) (nI w) dX11_week_64 (by first | decide | assumption | omega) (by first | rfl | assumption) rfl (by omega) (by decide) (by rw [zup_at, if_neg (by simp), zup_at, if_neg (by simp), oo.1 65 (by simp)]; exact hc.n5.2.2.1) ?_
  refine Zw_iconst (v := 1) dX11_week_65 (by decide) ?_
  refine Zw_nadd (w) (1) dX11_week_66 rfl rfl ?_
  refine Zw_iastn (0) dX11_week_67 (by first | decide | assumption | omega) (by first | rfl | assumption) rfl (by omega) (by decide) ?_
  have hto : c_dp C z w p < 8 := c_dp_lt hp
  have hca : m_cx C (w + 1) (zup (zup (zup μx 65 3 (q_spread (c_mv C w) (μ 65 3))) 65 2 (nI (c_dp C z w p))) 65 0 (nI (w + 1))) := (((hc.off oo (by simp)).d (Or.inr rfl)).d (Or.inl rfl)).wk rfl (by omega)
  have hK : mWk μ (zup (zup (zup μx 65 3 (q_spread (c_mv C w) (μ 65 3))) 65 2 (nI (c_dp C z w p))) 65 0 (nI (w + 1))) := ((((mWk.refl μ).off oo).up (Or.inr (Or.inr rfl))).up (Or.inr (Or.inl rfl))).up (Or.inl rfl)
  have hn5 := hca.n5.1
  generalize hμa : zup (zup (zup μx 65 3 (q_spread (c_mv C w) (μ 65 3))) 65 2 (nI (c_dp C z w p))) 65 0 (nI (w + 1)) = μa at hca hK ⊢
  have k0 : μa 65 0 = nI (w + 1) := hca.n5.2.2.1
  have k2 : μa 65 2 = nI (c_dp C z w p) := by rw [← hμa, zup_at, if_neg (by simp), zup_at, if_pos ⟨rfl, rfl⟩]
  have k3 : μa 65 3 = q_spread (c_mv C w) (μ 65 3) := by rw [← hμa, zup_at, if_neg (by simp), zup_at, if_neg (by simp), zup_at, if_pos ⟨rfl, rfl⟩]
  have k68 : ∀ j, μa 68 j = μ 68 j := fun j => by rw [← hμa, zup_ne (by decide), zup_ne (by decide), zup_ne (by decide), oo.1 68 (by simp)]
  refine Zw_iconst (v := (-1)) dX11_week_68 (by decide) ?_
  refine Zw_istore_3 dX11_week_69 rfl ?_
  refine Zw_aload_0 dX11_week_70 ?_
  refine Zw_getv (nI (cN C)) lf_X11_73 dX11_week_71 (by first | decide | assumption | omega) (by first | rfl | assumption) (by rfl) hca.n5.2.1 ?_
  refine Zw_iconst (v := 1) dX11_week_74 (by decide) ?_
  refine Zw_isub dX11_week_75 ?_
  refine Zw_istore_4 dX11_week_76 rfl ?_
  rw [show nI (cN C) - 1 = nI (cN C) + (-1) from sub_1 _]
  refine l_mwk hto (fun μ2 τ2 o2 => ?_) (cN C) (-1) _ _ (Nat.le_refl _) hca (nOff.refl _ _) (by rw [Nat.sub_self]; rfl)
  rcases c_seer_in (C := C) (w := w + 1) (p := c_dp C z w p) hn5 with hsr | ⟨f, hf, hsr⟩
  · rw [hsr]
    refine l_mwA (hca.off o2 (by simp)) rfl (fun μ3 τ3 o3 => ?_)
    refine h0 hsr _ _ (((hK.off o2).off o3).up (Or.inr (Or.inr rfl))) ?_ ?_ ?_
    · rw [zup_at, if_neg (by simp), o3.1 65 (by simp), o2.1 65 (by simp)]; exact k0
    · rw [zup_at, if_neg (by simp), o3.1 65 (by simp), o2.1 65 (by simp)]; exact k2
    · rw [zup_at, if_pos ⟨rfl, rfl⟩, o2.1 65 (by simp), k3]
  · rw [hsr]
    refine l_mwB (by omega) (s := μ 68 (3 * f + 2)) (by rw [o2.1 68 (by simp)]; exact k68 _) ?_
    exact h1 f hf hsr _ τ2 (hK.off o2) (by rw [o2.1 65 (by simp)]; exact k0) (by rw [o2.1 65 (by simp)]; exact k2)
