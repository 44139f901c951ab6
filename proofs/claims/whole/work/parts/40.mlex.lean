def mB (fr n : Nat) (b : Nat → Int32) (μ : zMu) : Prop := fr + 160 ≤ 960 ∧ n ≤ 160 ∧ μ 61 18 = nI fr ∧ μ 61 19 = nI n ∧ (∀ i, i < n → μ 62 (fr + i) = b i) ∧ k_by b n
def mOff (μ μ' : zMu) : Prop := zOff [61] μ μ' ∧ ∀ s, s ≠ 20 → s ≠ 21 → s ≠ 22 → s ≠ 24 → s ≠ 25 → s ≠ 26 → μ' 61 s = μ 61 s
theorem mOff.refl (μ : zMu) : mOff μ μ := ⟨fun _ _ => rfl, fun _ _ _ _ _ _ _ => rfl⟩
theorem mOff.tr {a b c : zMu} (h : mOff a b) (h' : mOff b c) : mOff a c := ⟨h.1.tr h'.1, fun s h1 h2 h3 h4 h5 h6 => (h'.2 s h1 h2 h3 h4 h5 h6).trans (h.2 s h1 h2 h3 h4 h5 h6)⟩
theorem mOff.up {a b : zMu} {j : Nat} {x : Int32} (h : mOff a b) (hj : j = 20 ∨ j = 21 ∨ j = 22 ∨ j = 24 ∨ j = 25 ∨ j = 26) : mOff a (zup b 61 j x) := by
  refine ⟨fun k hk => ?_, fun s h1 h2 h3 h4 h5 h6 => ?_⟩
  · have hk' : k ≠ 61 := by simpa using hk
    rw [zup_ne hk']
    exact h.1 k hk
  · rw [zup_eq]
    have e : upd (b 61) j x s = b 61 s := if_neg (by omega)
    rw [e]
    exact h.2 s h1 h2 h3 h4 h5 h6
/-- only here, token, tokenAt -/
def mOn (μ μ' : zMu) : Prop := zOff [61] μ μ' ∧ ∀ s, s ≠ 20 → s ≠ 21 → s ≠ 22 → μ' 61 s = μ 61 s
theorem mOn.refl (μ : zMu) : mOn μ μ := ⟨fun _ _ => rfl, fun _ _ _ _ => rfl⟩
theorem mOn.off {a b : zMu} (h : mOn a b) : mOff a b := ⟨h.1, fun s h1 h2 h3 _ _ _ => h.2 s h1 h2 h3⟩
theorem mOn.up {a b : zMu} {j : Nat} {x : Int32} (h : mOn a b) (hj : j = 20 ∨ j = 21 ∨ j = 22) : mOn a (zup b 61 j x) := by
  refine ⟨fun k hk => ?_, fun s h1 h2 h3 => ?_⟩
  · have hk' : k ≠ 61 := by simpa using hk
    rw [zup_ne hk']
    exact h.1 k hk
  · rw [zup_eq]
    have e : upd (b 61) j x s = b 61 s := if_neg (by omega)
    rw [e]
    exact h.2 s h1 h2 h3
def mOh (μ μ' : zMu) : Prop := zOff [61] μ μ' ∧ ∀ s, s ≠ 20 → μ' 61 s = μ 61 s
theorem mOh.refl (μ : zMu) : mOh μ μ := ⟨fun _ _ => rfl, fun _ _ => rfl⟩
theorem mOh.on {a b : zMu} (h : mOh a b) : mOn a b := ⟨h.1, fun s h1 _ _ => h.2 s h1⟩
theorem mOn.tr {a b c : zMu} (h : mOn a b) (h' : mOn b c) : mOn a c := ⟨h.1.tr h'.1, fun s h1 h2 h3 => (h'.2 s h1 h2 h3).trans (h.2 s h1 h2 h3)⟩
theorem mOh.up {a b : zMu} {x : Int32} (h : mOh a b) : mOh a (zup b 61 20 x) := by
  refine ⟨fun k hk => ?_, fun s h1 => ?_⟩
  · have hk' : k ≠ 61 := by simpa using hk
    rw [zup_ne hk']
    exact h.1 k hk
  · rw [zup_eq]
    have e : upd (b 61) 20 x s = b 61 s := if_neg (by omega)
    rw [e]
    exact h.2 s h1
theorem mB.off {fr n : Nat} {b : Nat → Int32} {μ μ' : zMu} (h : mB fr n b μ) (ho : mOff μ μ') : mB fr n b μ' := by
  obtain ⟨h1, h2, h3, h4, h5, h6⟩ := h
  exact ⟨h1, h2, by rw [ho.2 18 (by decide) (by decide) (by decide) (by decide) (by decide) (by decide)]; exact h3, by rw [ho.2 19 (by decide) (by decide) (by decide) (by decide) (by decide) (by decide)]; exact h4, fun i hi => by rw [ho.1 62 (by simp)]; exact h5 i hi, h6⟩
def m_kd (b : Nat → Int32) (n p : Nat) : Nat := if n ≤ p then 0 else if k_let (b p) = true then 1 else if k_dig (b p) = true then (if 4 < k_end k_dig b n p - p then 4 else 2) else if k_sgn (b p) = 19 then 4 else 3
def mS (b : Nat → Int32) (n : Nat) (μ : zMu) (τ : Int64) (pos : Nat) : Prop := μ 61 22 = nI (k_pl b n pos) ∧ μ 61 21 = nI (m_kd b n (k_pl b n pos)) ∧ (m_kd b n (k_pl b n pos) ≠ 0 → m_kd b n (k_pl b n pos) ≠ 4 → μ 61 20 = nI (k_nx b n pos)) ∧ (m_kd b n (k_pl b n pos) = 2 → τ.toInt32 = k_val b n pos) ∧ (m_kd b n (k_pl b n pos) = 3 → τ = (b (k_pl b n pos)).toInt64)
theorem k_nv_r (b : Nat → Int32) : ∀ (m p : Nat) (v : Int32), k_nv b (m + 1) p v = k_nv b m p v * 10 + b (p + m) - 48
  | 0, p, v => rfl
  | m + 1, p, v => by
    show k_nv b (m + 1) (p + 1) (v * 10 + b p - 48) = _
    rw [k_nv_r b m (p + 1), show p + 1 + m = p + (m + 1) by omega]
    rfl
theorem t_dig {t : Int64} {x y : Int32} (h : t.toInt32 = x) : (10 * t + y.toInt64 - 48).toInt32 = x * 10 + y - 48 := by
  subst h
  rw [Int64.toInt32_sub, Int64.toInt32_add, Int64.toInt32_mul, Int32.toInt32_toInt64]
  rw [show (10 : Int64).toInt32 = 10 by decide, show (48 : Int64).toInt32 = 48 by decide, Int32.mul_comm]
theorem l97 : (97 : Int64).toInt = 97 ∧ (122 : Int64).toInt = 122 ∧ (48 : Int64).toInt = 48 ∧ (57 : Int64).toInt = 57 := by decide
set_option maxRecDepth 20000 in
theorem s_byteAt {fr n i : Nat} {b : Nat → Int32} {Q : zQ} {μ : zMu} {τ : Int64} (hB : mB fr n b μ) (hi : i ≤ 160) (h1 : i < n → Q (some (.int (b i))) μ τ) (h0 : n ≤ i → Q (some (.int (-1))) μ τ) : Zc 0 yX11_byteAt cX11_byteAt 2 (some .int) [.ref 61, .int (nI i)] μ τ Q := by
  refine Zc.mk 0 [.ref 61, .int (nI i)] rfl (by decide) (Nat.le_of_ble_eq_true rfl) ?_
  obtain ⟨b1, b2, b3, b4, b5, b6⟩ := hB
  refine Zw_iload_1 dX11_byteAt_0 ?_
  refine Zw_aload_0 dX11_byteAt_1 ?_
  refine Zw_getv (nI n) lf_X11_128 dX11_byteAt_2 (by first | decide | assumption | omega) (by first | rfl | assumption) (by rfl) b4 ?_
  refine Zw_nicmp_ge (i) (n) 22 dX11_byteAt_5 (by decide) rfl rfl (by omega) (by omega) (fun c5 => ?_) (fun c5 => ?_)
  · refine Zw_iconst (v := (-1)) dX11_byteAt_22 (by decide) ?_
    refine Zw_ireturn dX11_byteAt_23 (by first | rfl | assumption) ?_
    exact h0 c5
  · refine Zw_aload_0 dX11_byteAt_8 ?_
    refine Zw_getr 62 lf_X11_13 dX11_byteAt_9 (by first | decide | assumption | omega) (by first | rfl | assumption) (by rfl) ?_
    refine Zw_aload_0 dX11_byteAt_12 ?_
    refine Zw_getv (nI fr) lf_X11_131 dX11_byteAt_13 (by first | decide | assumption | omega) (by first | rfl | assumption) (by rfl) b3 ?_
    refine Zw_iload_1 dX11_byteAt_16 ?_
    refine Zw_nadd (fr) (i) dX11_byteAt_17 rfl rfl ?_
    refine Zw_ialdnv ((fr + i)) (b i) dX11_byteAt_18 (by first | decide | assumption | omega) (by first | rfl | assumption) rfl (by omega) (by decide) (b5 i c5) ?_
    refine Zw_goto 23 dX11_byteAt_19 (by decide) ?_
    refine Zw_ireturn dX11_byteAt_23 (by first | rfl | assumption) ?_
    exact h1 c5
set_option maxRecDepth 20000 in
theorem l_mw {Q : zQ} {μ0 : zMu} {fr n p : Nat} {b : Nat → Int32} {x0 x1 : Value} (hB : mB fr n b μ0) (h : ∀ μ2 τ2, mOh μ0 μ2 → μ2 61 20 = nI (k_end k_let b n p) → Q none μ2 τ2) : ∀ m i μ τ, n - i < m → i ≤ n → mOh μ0 μ → μ 61 20 = nI i → k_end k_let b n i = k_end k_let b n p → Zw 1 RX11 cX11_next 3 none Q 100 [.ref 61, x0, x1] [] μ τ
  | 0, i, _, _, hm, _, _, _, _ => absurd hm (by omega)
  | m + 1, i, μ, τ, hm, hi, hO, h5, he => by
    have hB1 := hB.off hO.on.off
    have hn := hB.2.1
    refine Zw_aload_0 dX11_next_100 ?_
    refine Zw_aload_0 dX11_next_101 ?_
    refine Zw_getv (nI i) lf_X11_134 dX11_next_102 (by first | decide | assumption | omega) (by first | rfl | assumption) (by rfl) h5 ?_
    refine Zw_V1 (k := 0) lm_X11_137 dX11_next_105 (by decide) (by first | decide | assumption | omega) (by first | rfl | assumption) (by rfl) (Nat.le_of_ble_eq_true rfl) ?_
    refine s_byteAt (i := i) hB1 (by omega) (fun y1 => ?_) (fun y0 => ?_)
    · refine Zw_i2l dX11_next_108 ?_
      refine Zw_ldc2 dX11_next_109 zw13 ?_
      refine Zw_ldc2 dX11_next_112 zw14 ?_
      refine Zw_S3 (k := 0) lm_X11_76 dX11_next_115 (by decide) (Nat.le_of_ble_eq_true rfl) ?_
      refine s_in (fun d1 d2 => ?_) (fun d1 => ?_)
      all_goals simp only [Int32.toInt_toInt64, l97.1, l97.2.1] at d1
      · refine Zw_if_eq 321 dX11_next_118 (by decide) (fun c => absurd c (by decide)) (fun _ => ?_)
        refine Zw_aload_0 dX11_next_121 ?_
        refine Zw_dup dX11_next_122 rfl ?_
        refine Zw_getv (nI i) lf_X11_134 dX11_next_123 (by first | decide | assumption | omega) (by first | rfl | assumption) (by rfl) h5 ?_
        refine Zw_iconst (v := 1) dX11_next_126 (by decide) ?_
        refine Zw_nadd (i) (1) dX11_next_127 rfl rfl ?_
        refine Zw_put lp_X11_134 dX11_next_128 (by first | decide | assumption | omega) (by first | rfl | assumption) (by rfl) (by first | rfl | assumption) (by first | rfl | assumption) ?_
        refine Zw_goto 100 dX11_next_131 (by decide) ?_
        have hl : k_let (b i) = true := decide_eq_true ⟨d1, by simp only [Int32.toInt_toInt64, l97.2.1] at d2; exact d2⟩
        exact l_mw hB h m (i + 1) _ _ (by omega) (by omega) hO.up rfl ((k_end_go y1 hl).symm.trans he)
      · refine Zw_if_eq 321 dX11_next_118 (by decide) (fun _ => ?_) (fun c => absurd c (by decide))
        refine Zw_return dX11_next_321 ?_
        have hno : k_end k_let b n i = i := k_end_no (fun q => d1 (of_decide_eq_true q.2))
        exact h _ _ hO (by rw [h5, ← he, hno])
    · refine Zw_i2l dX11_next_108 ?_
      refine Zw_ldc2 dX11_next_109 zw13 ?_
      refine Zw_ldc2 dX11_next_112 zw14 ?_
      refine Zw_S3 (k := 0) lm_X11_76 dX11_next_115 (by decide) (Nat.le_of_ble_eq_true rfl) ?_
      refine s_in (fun d1 d2 => absurd d1 (by decide)) (fun _ => ?_)
      refine Zw_if_eq 321 dX11_next_118 (by decide) (fun _ => ?_) (fun c => absurd c (by decide))
      refine Zw_return dX11_next_321 ?_
      have hno : k_end k_let b n i = i := k_end_no (fun q => absurd q.1 (by omega))
      exact h _ _ hO (by rw [h5, ← he, hno])
set_option maxRecDepth 20000 in
theorem l_md {Q : zQ} {μ0 : zMu} {fr n p : Nat} {b : Nat → Int32} {z0 : Int32} (hB : mB fr n b μ0) (h : ∀ e μ2 τ2, e = k_end k_dig b n p → mOn μ0 μ2 → μ2 61 22 = nI p → μ2 61 20 = nI e → μ2 61 21 = nI (if 4 < e - p then 4 else 2) → (e - p ≤ 4 → τ2.toInt32 = k_nv b (e - p) p 0) → Q none μ2 τ2) : ∀ m i μ τ, n - i < m → i ≤ n → p ≤ i → mOn μ0 μ → μ 61 20 = nI i → μ 61 22 = nI p → (i - p ≤ 4 → τ.toInt32 = k_nv b (i - p) p 0) → k_end k_dig b n i = k_end k_dig b n p → Zw 1 RX11 cX11_next 3 none Q 160 [.ref 61, .int z0, .int (nI (i - p))] [] μ τ
  | 0, i, _, _, hm, _, _, _, _, _, _, _ => absurd hm (by omega)
  | m + 1, i, μ, τ, hm, hi, hpi, hO, h5, h4, ht, he => by
    have hB1 := hB.off hO.off
    have hn := hB.2.1
    refine Zw_aload_0 dX11_next_160 ?_
    refine Zw_aload_0 dX11_next_161 ?_
    refine Zw_getv (nI i) lf_X11_134 dX11_next_162 (by first | decide | assumption | omega) (by first | rfl | assumption) (by rfl) h5 ?_
    refine Zw_V1 (k := 0) lm_X11_137 dX11_next_165 (by decide) (by first | decide | assumption | omega) (by first | rfl | assumption) (by rfl) (Nat.le_of_ble_eq_true rfl) ?_
    refine s_byteAt (i := i) hB1 (by omega) (fun y1 => ?_) (fun y0 => ?_)
    · refine Zw_i2l dX11_next_168 ?_
      refine Zw_ldc2 dX11_next_169 zw15 ?_
      refine Zw_ldc2 dX11_next_172 zw16 ?_
      refine Zw_S3 (k := 0) lm_X11_76 dX11_next_175 (by decide) (Nat.le_of_ble_eq_true rfl) ?_
      refine s_in (fun d1 d2 => ?_) (fun d1 => ?_)
      all_goals simp only [Int32.toInt_toInt64, l97.2.2.1, l97.2.2.2] at d1
      · refine Zw_if_eq 235 dX11_next_178 (by decide) (fun c => absurd c (by decide)) (fun _ => ?_)
        refine Zw_aload_0 dX11_next_181 ?_
        refine Zw_iload_2 dX11_next_182 ?_
        refine Zw_iconst (v := 4) dX11_next_183 (by decide) ?_
        refine Zw_nicmp_ge ((i - p)) (4) 212 dX11_next_184 (by decide) rfl rfl (by omega) (by omega) (fun c184 => ?_) (fun c184 => ?_)
        · refine Zw_aload_0 dX11_next_212 ?_
          refine Zw_getl lf_X11_154 dX11_next_213 (by first | decide | assumption | omega) (by first | rfl | assumption) (by rfl) ?_
          refine Zw_putl lp_X11_154 dX11_next_216 ?_
          refine Zw_iinc_2 dX11_next_219 rfl (zincn _) ?_
          refine Zw_aload_0 dX11_next_222 ?_
          refine Zw_dup dX11_next_223 rfl ?_
          refine Zw_getv (nI i) lf_X11_134 dX11_next_224 (by first | decide | assumption | omega) (by first | rfl | assumption) (by rfl) h5 ?_
          refine Zw_iconst (v := 1) dX11_next_227 (by decide) ?_
          refine Zw_nadd (i) (1) dX11_next_228 rfl rfl ?_
          refine Zw_put lp_X11_134 dX11_next_229 (by first | decide | assumption | omega) (by first | rfl | assumption) (by rfl) (by first | rfl | assumption) (by first | rfl | assumption) ?_
          refine Zw_goto 160 dX11_next_232 (by decide) ?_
          have hl : k_dig (b i) = true := decide_eq_true ⟨d1, by simp only [Int32.toInt_toInt64, l97.2.2.2] at d2; exact d2⟩
          have hgo := k_end_go y1 hl
          rw [show nI (i - p + 1) = nI (i + 1 - p) by rw [show i - p + 1 = i + 1 - p by omega]]
          refine Zw_drop (L' := [.ref 61, .int z0, .int (nI (i + 1 - p))]) ⟨Or.inr rfl, Or.inr rfl, Or.inr rfl, trivial⟩ (Nat.le_of_ble_eq_true rfl) ?_
          exact l_md hB h m (i + 1) _ _ (by omega) (by omega) (by omega) (hO.up (by omega)) rfl h4 (fun q => absurd q (by omega)) (hgo.symm.trans he)
        · refine Zw_ldc2 dX11_next_187 zw11 ?_
          refine Zw_aload_0 dX11_next_190 ?_
          refine Zw_getl lf_X11_154 dX11_next_191 (by first | decide | assumption | omega) (by first | rfl | assumption) (by rfl) ?_
          refine Zw_lmul dX11_next_194 ?_
          refine Zw_aload_0 dX11_next_195 ?_
          refine Zw_aload_0 dX11_next_196 ?_
          refine Zw_getv (nI i) lf_X11_134 dX11_next_197 (by first | decide | assumption | omega) (by first | rfl | assumption) (by rfl) h5 ?_
          refine Zw_V1 (k := 0) lm_X11_137 dX11_next_200 (by decide) (by first | decide | assumption | omega) (by first | rfl | assumption) (by rfl) (Nat.le_of_ble_eq_true rfl) ?_
          refine s_byteAt (i := i) hB1 (by omega) (fun _ => ?_) (fun y0 => absurd y0 (by omega))
          refine Zw_i2l dX11_next_203 ?_
          refine Zw_ladd dX11_next_204 ?_
          refine Zw_ldc2 dX11_next_205 zw15 ?_
          refine Zw_lsub dX11_next_208 ?_
          refine Zw_goto 216 dX11_next_209 (by decide) ?_
          refine Zw_putl lp_X11_154 dX11_next_216 ?_
          refine Zw_iinc_2 dX11_next_219 rfl (zincn _) ?_
          refine Zw_aload_0 dX11_next_222 ?_
          refine Zw_dup dX11_next_223 rfl ?_
          refine Zw_getv (nI i) lf_X11_134 dX11_next_224 (by first | decide | assumption | omega) (by first | rfl | assumption) (by rfl) h5 ?_
          refine Zw_iconst (v := 1) dX11_next_227 (by decide) ?_
          refine Zw_nadd (i) (1) dX11_next_228 rfl rfl ?_
          refine Zw_put lp_X11_134 dX11_next_229 (by first | decide | assumption | omega) (by first | rfl | assumption) (by rfl) (by first | rfl | assumption) (by first | rfl | assumption) ?_
          refine Zw_goto 160 dX11_next_232 (by decide) ?_
          have hl : k_dig (b i) = true := decide_eq_true ⟨d1, by simp only [Int32.toInt_toInt64, l97.2.2.2] at d2; exact d2⟩
          have hgo := k_end_go y1 hl
          rw [show nI (i - p + 1) = nI (i + 1 - p) by rw [show i - p + 1 = i + 1 - p by omega]]
          refine Zw_drop (L' := [.ref 61, .int z0, .int (nI (i + 1 - p))]) ⟨Or.inr rfl, Or.inr rfl, Or.inr rfl, trivial⟩ (Nat.le_of_ble_eq_true rfl) ?_
          exact l_md hB h m (i + 1) _ _ (by omega) (by omega) (by omega) (hO.up (by omega)) rfl h4 (fun _ => by rw [show i + 1 - p = (i - p) + 1 by omega, k_nv_r, t_dig (ht (by omega)), show p + (i - p) = i by omega]) (hgo.symm.trans he)
      · refine Zw_if_eq 235 dX11_next_178 (by decide) (fun _ => ?_) (fun c => absurd c (by decide))
        refine Zw_aload_0 dX11_next_235 ?_
        refine Zw_iload_2 dX11_next_236 ?_
        refine Zw_iconst (v := 4) dX11_next_237 (by decide) ?_
        refine Zw_nicmp_le ((i - p)) (4) 245 dX11_next_238 (by decide) rfl rfl (by omega) (by omega) (fun c238 => ?_) (fun c238 => ?_)
        · refine Zw_iconst (v := 2) dX11_next_245 (by decide) ?_
          refine Zw_put lp_X11_143 dX11_next_246 (by first | decide | assumption | omega) (by first | rfl | assumption) (by rfl) (by first | rfl | assumption) (by first | rfl | assumption) ?_
          refine Zw_goto 321 dX11_next_249 (by decide) ?_
          refine Zw_return dX11_next_321 ?_
          have hno : k_end k_dig b n i = i := k_end_no (fun q => d1 (of_decide_eq_true q.2))
          have hie : i = k_end k_dig b n p := hno.symm.trans he
          refine h i _ _ hie (hO.up (by omega)) h4 h5 (by rw [if_neg (by omega)]; rfl) ht
        · refine Zw_iconst (v := 4) dX11_next_241 (by decide) ?_
          refine Zw_goto 246 dX11_next_242 (by decide) ?_
          refine Zw_put lp_X11_143 dX11_next_246 (by first | decide | assumption | omega) (by first | rfl | assumption) (by rfl) (by first | rfl | assumption) (by first | rfl | assumption) ?_
          refine Zw_goto 321 dX11_next_249 (by decide) ?_
          refine Zw_return dX11_next_321 ?_
          have hno : k_end k_dig b n i = i := k_end_no (fun q => d1 (of_decide_eq_true q.2))
          have hie : i = k_end k_dig b n p := hno.symm.trans he
          refine h i _ _ hie (hO.up (by omega)) h4 h5 (by rw [if_pos (by omega)]; rfl) (fun q => absurd q (by omega))
    · refine Zw_i2l dX11_next_168 ?_
      refine Zw_ldc2 dX11_next_169 zw15 ?_
      refine Zw_ldc2 dX11_next_172 zw16 ?_
      refine Zw_S3 (k := 0) lm_X11_76 dX11_next_175 (by decide) (Nat.le_of_ble_eq_true rfl) ?_
      refine s_in (fun d1 d2 => absurd d1 (by decide)) (fun _ => ?_)
      refine Zw_if_eq 235 dX11_next_178 (by decide) (fun _ => ?_) (fun c => absurd c (by decide))
      refine Zw_aload_0 dX11_next_235 ?_
      refine Zw_iload_2 dX11_next_236 ?_
      refine Zw_iconst (v := 4) dX11_next_237 (by decide) ?_
      refine Zw_nicmp_le ((i - p)) (4) 245 dX11_next_238 (by decide) rfl rfl (by omega) (by omega) (fun c238 => ?_) (fun c238 => ?_)
      · refine Zw_iconst (v := 2) dX11_next_245 (by decide) ?_
        refine Zw_put lp_X11_143 dX11_next_246 (by first | decide | assumption | omega) (by first | rfl | assumption) (by rfl) (by first | rfl | assumption) (by first | rfl | assumption) ?_
        refine Zw_goto 321 dX11_next_249 (by decide) ?_
        refine Zw_return dX11_next_321 ?_
        have hno : k_end k_dig b n i = i := k_end_no (fun q => absurd q.1 (by omega))
        have hie : i = k_end k_dig b n p := hno.symm.trans he
        refine h i _ _ hie (hO.up (by omega)) h4 h5 (by rw [if_neg (by omega)]; rfl) ht
      · refine Zw_iconst (v := 4) dX11_next_241 (by decide) ?_
        refine Zw_goto 246 dX11_next_242 (by decide) ?_
        refine Zw_put lp_X11_143 dX11_next_246 (by first | decide | assumption | omega) (by first | rfl | assumption) (by rfl) (by first | rfl | assumption) (by first | rfl | assumption) ?_
        refine Zw_goto 321 dX11_next_249 (by decide) ?_
        refine Zw_return dX11_next_321 ?_
        have hno : k_end k_dig b n i = i := k_end_no (fun q => absurd q.1 (by omega))
        have hie : i = k_end k_dig b n p := hno.symm.trans he
        refine h i _ _ hie (hO.up (by omega)) h4 h5 (by rw [if_pos (by omega)]; rfl) (fun q => absurd q (by omega))
theorem k_sgn_in {x : Int32} (h : x = 40 ∨ x = 41 ∨ x = 59 ∨ x = 43 ∨ x = 45 ∨ x = 42 ∨ x = 60 ∨ x = 61) : ¬ k_sgn x = 19 := by
  rcases h with h | h | h | h | h | h | h | h <;> subst h <;> decide
theorem k_sgn_out {x : Int32} (h : ¬ (x = 40 ∨ x = 41 ∨ x = 59 ∨ x = 43 ∨ x = 45 ∨ x = 42 ∨ x = 60 ∨ x = 61)) : k_sgn x = 19 := by
  unfold k_sgn
  rw [if_neg (fun e => h (by simp [e])), if_neg (fun e => h (by simp [e])), if_neg (fun e => h (by simp [e])), if_neg (fun e => h (by simp [e])), if_neg (fun e => h (by simp [e])), if_neg (fun e => h (by simp [e])), if_neg (fun e => h (by simp [e])), if_neg (fun e => h (by simp [e]))]
theorem byte_ge {x : Int32} (h : ∃ v, v < 256 ∧ x = nI v) : 0 ≤ x := by
  obtain ⟨v, hv, rfl⟩ := h
  exact nI_pos' (by omega)
set_option maxRecDepth 20000 in
theorem l_mn {Q : zQ} {μ0 : zMu} {fr n i0 : Nat} {b : Nat → Int32} (hB : mB fr n b μ0) (h : ∀ μ2 τ2, mOn μ0 μ2 → mS b n μ2 τ2 i0 → Q none μ2 τ2) : ∀ m i μ τ, n - i < m → i ≤ n → mOn μ0 μ → μ 61 20 = nI i → k_end k_spc b n i = k_end k_spc b n i0 → Zw 1 RX11 cX11_next 3 none Q 0 [.ref 61, .null, .null] [] μ τ
  | 0, i, _, _, hm, _, _, _, _ => absurd hm (by omega)
  | m + 1, i, μ, τ, hm, hi, hO, h5, he => by
    have hB1 := hB.off hO.off
    have hn := hB.2.1
    have hn19 := hB1.2.2.2.1
    refine Zw_aload_0 dX11_next_0 ?_
    refine Zw_aload_0 dX11_next_1 ?_
    refine Zw_getv (nI i) lf_X11_134 dX11_next_2 (by first | decide | assumption | omega) (by first | rfl | assumption) (by rfl) h5 ?_
    refine Zw_V1 (k := 0) lm_X11_137 dX11_next_5 (by decide) (by first | decide | assumption | omega) (by first | rfl | assumption) (by rfl) (Nat.le_of_ble_eq_true rfl) ?_
    refine s_byteAt (i := i) hB1 (by omega) (fun y1 => ?_) (fun y0 => ?_)
    · refine Zw_bipush (v := 32) dX11_next_8 (by decide) ?_
      refine Zw_icmp_eq 26 dX11_next_10 (by decide) (fun c10 => ?_) (fun c10 => ?_)
      · refine Zw_aload_0 dX11_next_26 ?_
        refine Zw_dup dX11_next_27 rfl ?_
        refine Zw_getv (nI i) lf_X11_134 dX11_next_28 (by first | decide | assumption | omega) (by first | rfl | assumption) (by rfl) h5 ?_
        refine Zw_iconst (v := 1) dX11_next_31 (by decide) ?_
        refine Zw_nadd (i) (1) dX11_next_32 rfl rfl ?_
        refine Zw_put lp_X11_134 dX11_next_33 (by first | decide | assumption | omega) (by first | rfl | assumption) (by rfl) (by first | rfl | assumption) (by first | rfl | assumption) ?_
        refine Zw_goto 0 dX11_next_36 (by decide) ?_
        have hd : k_spc (b i) = true := decide_eq_true (Or.inl c10)
        exact l_mn hB h m (i + 1) _ _ (by omega) (by omega) (hO.up (by omega)) rfl ((k_end_go y1 hd).symm.trans he)
      · refine Zw_aload_0 dX11_next_13 ?_
        refine Zw_aload_0 dX11_next_14 ?_
        refine Zw_getv (nI i) lf_X11_134 dX11_next_15 (by first | decide | assumption | omega) (by first | rfl | assumption) (by rfl) h5 ?_
        refine Zw_V1 (k := 0) lm_X11_137 dX11_next_18 (by decide) (by first | decide | assumption | omega) (by first | rfl | assumption) (by rfl) (Nat.le_of_ble_eq_true rfl) ?_
        refine s_byteAt (i := i) hB1 (by omega) (fun _ => ?_) (fun y0 => absurd y0 (by omega))
        refine Zw_bipush (v := 10) dX11_next_21 (by decide) ?_
        refine Zw_icmp_ne 39 dX11_next_23 (by decide) (fun c23 => ?_) (fun c23 => ?_)
        · have hno : k_end k_spc b n i = i := k_end_no (fun q => (of_decide_eq_true q.2).elim c10 c23)
          have hpl : k_pl b n i0 = i := he.symm.trans hno
          have hby := hB.2.2.2.2.2 i y1
          refine Zw_aload_0 dX11_next_39 ?_
          refine Zw_aload_0 dX11_next_40 ?_
          refine Zw_getv (nI i) lf_X11_134 dX11_next_41 (by first | decide | assumption | omega) (by first | rfl | assumption) (by rfl) h5 ?_
          refine Zw_put lp_X11_140 dX11_next_44 (by first | decide | assumption | omega) (by first | rfl | assumption) (by rfl) (by first | rfl | assumption) (by first | rfl | assumption) ?_
          refine Zw_aload_0 dX11_next_47 ?_
          refine Zw_aload_0 dX11_next_48 ?_
          refine Zw_getv (nI i) lf_X11_134 dX11_next_49 (by first | decide | assumption | omega) (by first | rfl | assumption) (by rfl) h5 ?_
          refine Zw_V1 (k := 0) lm_X11_137 dX11_next_52 (by decide) (by first | decide | assumption | omega) (by first | rfl | assumption) (by rfl) (Nat.le_of_ble_eq_true rfl) ?_
          refine s_byteAt (i := i) (mB.off hB1 (mOff.up (mOff.refl _) (by omega))) (by omega) (fun _ => ?_) (fun y0 => absurd y0 (by omega))
          refine Zw_istore_1 dX11_next_55 rfl ?_
          refine Zw_aload_0 dX11_next_56 ?_
          refine Zw_iconst (v := 4) dX11_next_57 (by decide) ?_
          refine Zw_put lp_X11_143 dX11_next_58 (by first | decide | assumption | omega) (by first | rfl | assumption) (by rfl) (by first | rfl | assumption) (by first | rfl | assumption) ?_
          refine Zw_iload_1 dX11_next_61 ?_
          refine Zw_if_ge 81 dX11_next_62 (by decide) (fun c62 => ?_) (fun c62 => absurd c62 (fun e => e (byte_ge hby)))
          refine Zw_iload_1 dX11_next_81 ?_
          refine Zw_i2l dX11_next_82 ?_
          refine Zw_ldc2 dX11_next_83 zw13 ?_
          refine Zw_ldc2 dX11_next_86 zw14 ?_
          refine Zw_S3 (k := 0) lm_X11_76 dX11_next_89 (by decide) (Nat.le_of_ble_eq_true rfl) ?_
          refine s_in (fun d1 d2 => ?_) (fun d1 => ?_)
          all_goals simp only [Int32.toInt_toInt64, l97.1, l97.2.1] at d1
          · refine Zw_if_eq 134 dX11_next_92 (by decide) (fun c => absurd c (by decide)) (fun _ => ?_)
            refine Zw_aload_0 dX11_next_95 ?_
            refine Zw_iconst (v := 1) dX11_next_96 (by decide) ?_
            refine Zw_put lp_X11_143 dX11_next_97 (by first | decide | assumption | omega) (by first | rfl | assumption) (by rfl) (by first | rfl | assumption) (by first | rfl | assumption) ?_
            have hl : k_let (b i) = true := decide_eq_true ⟨d1, by simp only [Int32.toInt_toInt64, l97.2.1] at d2; exact d2⟩
            have hk : m_kd b n (k_pl b n i0) = 1 := by rw [hpl, m_kd, if_neg (by omega), if_pos hl]
            refine l_mw (p := i) (mB.off hB1 (mOff.up (mOff.up (mOff.up (mOff.refl _) (by omega)) (by omega)) (by omega))) (fun μ2 τ2 o1 o2 => ?_) (n + 1) i _ _ (by omega) (by omega) (mOh.refl _) h5 rfl
            refine h _ _ ((((hO.up (by omega)).up (by omega)).up (by omega)).tr o1.on) ⟨?_, ?_, ?_, ?_, ?_⟩
            · rw [hpl]; exact o1.2 22 (by decide)
            · rw [hk]; exact o1.2 21 (by decide)
            · intro _ _; rw [k_nx, hpl, k_nxP, if_neg (by omega), if_pos hl]; exact o2
            · intro q; rw [hk] at q; omega
            · intro q; rw [hk] at q; omega
          · refine Zw_if_eq 134 dX11_next_92 (by decide) (fun _ => ?_) (fun c => absurd c (by decide))
            refine Zw_iload_1 dX11_next_134 ?_
            refine Zw_i2l dX11_next_135 ?_
            refine Zw_ldc2 dX11_next_136 zw15 ?_
            refine Zw_ldc2 dX11_next_139 zw16 ?_
            refine Zw_S3 (k := 0) lm_X11_76 dX11_next_142 (by decide) (Nat.le_of_ble_eq_true rfl) ?_
            refine s_in (fun g1 g2 => ?_) (fun g1 => ?_)
            all_goals simp only [Int32.toInt_toInt64, l97.2.2.1, l97.2.2.2] at g1
            · refine Zw_if_eq 252 dX11_next_145 (by decide) (fun c => absurd c (by decide)) (fun _ => ?_)
              refine Zw_aload_0 dX11_next_148 ?_
              refine Zw_iconst (v := 2) dX11_next_149 (by decide) ?_
              refine Zw_put lp_X11_143 dX11_next_150 (by first | decide | assumption | omega) (by first | rfl | assumption) (by rfl) (by first | rfl | assumption) (by first | rfl | assumption) ?_
              refine Zw_aload_0 dX11_next_153 ?_
              refine Zw_lconst (v := 0) dX11_next_154 (by decide) ?_
              refine Zw_putl lp_X11_154 dX11_next_155 ?_
              refine Zw_iconst (v := 0) dX11_next_158 (by decide) ?_
              refine Zw_istore_2 dX11_next_159 rfl ?_
              have hl : ¬ k_let (b i) = true := fun q => d1 (of_decide_eq_true q)
              have hg : k_dig (b i) = true := decide_eq_true ⟨g1, by simp only [Int32.toInt_toInt64, l97.2.2.2] at g2; exact g2⟩
              rw [show (0 : Int32) = nI (i - i) by rw [Nat.sub_self]; rfl]
              refine l_md (p := i) (mB.off hB1 (mOff.up (mOff.up (mOff.up (mOff.refl _) (by omega)) (by omega)) (by omega))) (fun e μ2 τ2 e1 o1 o2 o3 o4 o5 => ?_) (n + 1) i _ _ (by omega) (by omega) (Nat.le_refl i) (mOn.refl _) h5 rfl (fun _ => by rw [Nat.sub_self]; rfl) rfl
              have hk : m_kd b n (k_pl b n i0) = if 4 < e - i then 4 else 2 := by rw [hpl, m_kd, if_neg (by omega), if_neg hl, if_pos hg, e1]
              refine h _ _ ((((hO.up (by omega)).up (by omega)).up (by omega)).tr o1) ⟨?_, ?_, ?_, ?_, ?_⟩
              · rw [hpl]; exact o2
              · rw [hk]; exact o4
              · intro _ _; rw [k_nx, hpl, k_nxP, if_neg (by omega), if_neg hl, if_pos hg, ← e1]; exact o3
              · intro q
                rw [hk] at q
                have h4 : e - i ≤ 4 := by
                  rcases Nat.lt_or_ge 4 (e - i) with h | h
                  · rw [if_pos h] at q; omega
                  · exact h
                rw [o5 h4, k_val, hpl, k_valP, if_neg hl, ← e1]
              · intro q
                rw [hk] at q
                split at q <;> omega
            · refine Zw_if_eq 252 dX11_next_145 (by decide) (fun _ => ?_) (fun c => absurd c (by decide))
              refine Zw_iload_1 dX11_next_252 ?_
              refine Zw_bipush (v := 40) dX11_next_253 (by decide) ?_
              refine Zw_icmp_eq 300 dX11_next_255 (by decide) (fun c255 => ?_) (fun c255 => ?_)
              · refine Zw_aload_0 dX11_next_300 ?_
                refine Zw_iconst (v := 3) dX11_next_301 (by decide) ?_
                refine Zw_put lp_X11_143 dX11_next_302 (by first | decide | assumption | omega) (by first | rfl | assumption) (by rfl) (by first | rfl | assumption) (by first | rfl | assumption) ?_
                refine Zw_aload_0 dX11_next_305 ?_
                refine Zw_iload_1 dX11_next_306 ?_
                refine Zw_i2l dX11_next_307 ?_
                refine Zw_putl lp_X11_154 dX11_next_308 ?_
                refine Zw_aload_0 dX11_next_311 ?_
                refine Zw_dup dX11_next_312 rfl ?_
                refine Zw_getv (nI i) lf_X11_134 dX11_next_313 (by first | decide | assumption | omega) (by first | rfl | assumption) (by rfl) h5 ?_
                refine Zw_iconst (v := 1) dX11_next_316 (by decide) ?_
                refine Zw_nadd (i) (1) dX11_next_317 rfl rfl ?_
                refine Zw_put lp_X11_134 dX11_next_318 (by first | decide | assumption | omega) (by first | rfl | assumption) (by rfl) (by first | rfl | assumption) (by first | rfl | assumption) ?_
                refine Zw_return dX11_next_321 ?_
                have hl : ¬ k_let (b i) = true := fun q => d1 (of_decide_eq_true q)
                have hg : ¬ k_dig (b i) = true := fun q => g1 (of_decide_eq_true q)
                have hsg : ¬ k_sgn (b i) = 19 := k_sgn_in (Or.inl c255)
                have hk : m_kd b n (k_pl b n i0) = 3 := by rw [hpl, m_kd, if_neg (by omega), if_neg hl, if_neg hg, if_neg hsg]
                refine h _ _ ((((hO.up (by omega)).up (by omega)).up (by omega)).up (by omega)) ⟨?_, ?_, ?_, ?_, ?_⟩
                · rw [hpl]; rfl
                · rw [hk]; rfl
                · intro _ _; rw [k_nx, hpl, k_nxP, if_neg (by omega), if_neg hl, if_neg hg]; rfl
                · intro q; rw [hk] at q; omega
                · intro _; rw [hpl]
              · refine Zw_iload_1 dX11_next_258 ?_
                refine Zw_bipush (v := 41) dX11_next_259 (by decide) ?_
                refine Zw_icmp_eq 300 dX11_next_261 (by decide) (fun c261 => ?_) (fun c261 => ?_)
                · refine Zw_aload_0 dX11_next_300 ?_
                  refine Zw_iconst (v := 3) dX11_next_301 (by decide) ?_
                  refine Zw_put lp_X11_143 dX11_next_302 (by first | decide | assumption | omega) (by first | rfl | assumption) (by rfl) (by first | rfl | assumption) (by first | rfl | assumption) ?_
                  refine Zw_aload_0 dX11_next_305 ?_
                  refine Zw_iload_1 dX11_next_306 ?_
                  refine Zw_i2l dX11_next_307 ?_
                  refine Zw_putl lp_X11_154 dX11_next_308 ?_
                  refine Zw_aload_0 dX11_next_311 ?_
                  refine Zw_dup dX11_next_312 rfl ?_
                  refine Zw_getv (nI i) lf_X11_134 dX11_next_313 (by first | decide | assumption | omega) (by first | rfl | assumption) (by rfl) h5 ?_
                  refine Zw_iconst (v := 1) dX11_next_316 (by decide) ?_
                  refine Zw_nadd (i) (1) dX11_next_317 rfl rfl ?_
                  refine Zw_put lp_X11_134 dX11_next_318 (by first | decide | assumption | omega) (by first | rfl | assumption) (by rfl) (by first | rfl | assumption) (by first | rfl | assumption) ?_
                  refine Zw_return dX11_next_321 ?_
                  have hl : ¬ k_let (b i) = true := fun q => d1 (of_decide_eq_true q)
                  have hg : ¬ k_dig (b i) = true := fun q => g1 (of_decide_eq_true q)
                  have hsg : ¬ k_sgn (b i) = 19 := k_sgn_in (Or.inr (Or.inl c261))
                  have hk : m_kd b n (k_pl b n i0) = 3 := by rw [hpl, m_kd, if_neg (by omega), if_neg hl, if_neg hg, if_neg hsg]
                  refine h _ _ ((((hO.up (by omega)).up (by omega)).up (by omega)).up (by omega)) ⟨?_, ?_, ?_, ?_, ?_⟩
                  · rw [hpl]; rfl
                  · rw [hk]; rfl
                  · intro _ _; rw [k_nx, hpl, k_nxP, if_neg (by omega), if_neg hl, if_neg hg]; rfl
                  · intro q; rw [hk] at q; omega
                  · intro _; rw [hpl]
                · refine Zw_iload_1 dX11_next_264 ?_
                  refine Zw_bipush (v := 59) dX11_next_265 (by decide) ?_
                  refine Zw_icmp_eq 300 dX11_next_267 (by decide) (fun c267 => ?_) (fun c267 => ?_)
                  · refine Zw_aload_0 dX11_next_300 ?_
                    refine Zw_iconst (v := 3) dX11_next_301 (by decide) ?_
                    refine Zw_put lp_X11_143 dX11_next_302 (by first | decide | assumption | omega) (by first | rfl | assumption) (by rfl) (by first | rfl | assumption) (by first | rfl | assumption) ?_
                    refine Zw_aload_0 dX11_next_305 ?_
                    refine Zw_iload_1 dX11_next_306 ?_
                    refine Zw_i2l dX11_next_307 ?_
                    refine Zw_putl lp_X11_154 dX11_next_308 ?_
                    refine Zw_aload_0 dX11_next_311 ?_
                    refine Zw_dup dX11_next_312 rfl ?_
                    refine Zw_getv (nI i) lf_X11_134 dX11_next_313 (by first | decide | assumption | omega) (by first | rfl | assumption) (by rfl) h5 ?_
                    refine Zw_iconst (v := 1) dX11_next_316 (by decide) ?_
                    refine Zw_nadd (i) (1) dX11_next_317 rfl rfl ?_
                    refine Zw_put lp_X11_134 dX11_next_318 (by first | decide | assumption | omega) (by first | rfl | assumption) (by rfl) (by first | rfl | assumption) (by first | rfl | assumption) ?_
                    refine Zw_return dX11_next_321 ?_
                    have hl : ¬ k_let (b i) = true := fun q => d1 (of_decide_eq_true q)
                    have hg : ¬ k_dig (b i) = true := fun q => g1 (of_decide_eq_true q)
                    have hsg : ¬ k_sgn (b i) = 19 := k_sgn_in (Or.inr (Or.inr (Or.inl c267)))
                    have hk : m_kd b n (k_pl b n i0) = 3 := by rw [hpl, m_kd, if_neg (by omega), if_neg hl, if_neg hg, if_neg hsg]
                    refine h _ _ ((((hO.up (by omega)).up (by omega)).up (by omega)).up (by omega)) ⟨?_, ?_, ?_, ?_, ?_⟩
                    · rw [hpl]; rfl
                    · rw [hk]; rfl
                    · intro _ _; rw [k_nx, hpl, k_nxP, if_neg (by omega), if_neg hl, if_neg hg]; rfl
                    · intro q; rw [hk] at q; omega
                    · intro _; rw [hpl]
                  · refine Zw_iload_1 dX11_next_270 ?_
                    refine Zw_bipush (v := 43) dX11_next_271 (by decide) ?_
                    refine Zw_icmp_eq 300 dX11_next_273 (by decide) (fun c273 => ?_) (fun c273 => ?_)
                    · refine Zw_aload_0 dX11_next_300 ?_
                      refine Zw_iconst (v := 3) dX11_next_301 (by decide) ?_
                      refine Zw_put lp_X11_143 dX11_next_302 (by first | decide | assumption | omega) (by first | rfl | assumption) (by rfl) (by first | rfl | assumption) (by first | rfl | assumption) ?_
                      refine Zw_aload_0 dX11_next_305 ?_
                      refine Zw_iload_1 dX11_next_306 ?_
                      refine Zw_i2l dX11_next_307 ?_
                      refine Zw_putl lp_X11_154 dX11_next_308 ?_
                      refine Zw_aload_0 dX11_next_311 ?_
                      refine Zw_dup dX11_next_312 rfl ?_
                      refine Zw_getv (nI i) lf_X11_134 dX11_next_313 (by first | decide | assumption | omega) (by first | rfl | assumption) (by rfl) h5 ?_
                      refine Zw_iconst (v := 1) dX11_next_316 (by decide) ?_
                      refine Zw_nadd (i) (1) dX11_next_317 rfl rfl ?_
                      refine Zw_put lp_X11_134 dX11_next_318 (by first | decide | assumption | omega) (by first | rfl | assumption) (by rfl) (by first | rfl | assumption) (by first | rfl | assumption) ?_
                      refine Zw_return dX11_next_321 ?_
                      have hl : ¬ k_let (b i) = true := fun q => d1 (of_decide_eq_true q)
                      have hg : ¬ k_dig (b i) = true := fun q => g1 (of_decide_eq_true q)
                      have hsg : ¬ k_sgn (b i) = 19 := k_sgn_in (Or.inr (Or.inr (Or.inr (Or.inl c273))))
                      have hk : m_kd b n (k_pl b n i0) = 3 := by rw [hpl, m_kd, if_neg (by omega), if_neg hl, if_neg hg, if_neg hsg]
                      refine h _ _ ((((hO.up (by omega)).up (by omega)).up (by omega)).up (by omega)) ⟨?_, ?_, ?_, ?_, ?_⟩
                      · rw [hpl]; rfl
                      · rw [hk]; rfl
                      · intro _ _; rw [k_nx, hpl, k_nxP, if_neg (by omega), if_neg hl, if_neg hg]; rfl
                      · intro q; rw [hk] at q; omega
                      · intro _; rw [hpl]
                    · refine Zw_iload_1 dX11_next_276 ?_
                      refine Zw_bipush (v := 45) dX11_next_277 (by decide) ?_
                      refine Zw_icmp_eq 300 dX11_next_279 (by decide) (fun c279 => ?_) (fun c279 => ?_)
                      · refine Zw_aload_0 dX11_next_300 ?_
                        refine Zw_iconst (v := 3) dX11_next_301 (by decide) ?_
                        refine Zw_put lp_X11_143 dX11_next_302 (by first | decide | assumption | omega) (by first | rfl | assumption) (by rfl) (by first | rfl | assumption) (by first | rfl | assumption) ?_
                        refine Zw_aload_0 dX11_next_305 ?_
                        refine Zw_iload_1 dX11_next_306 ?_
                        refine Zw_i2l dX11_next_307 ?_
                        refine Zw_putl lp_X11_154 dX11_next_308 ?_
                        refine Zw_aload_0 dX11_next_311 ?_
                        refine Zw_dup dX11_next_312 rfl ?_
                        refine Zw_getv (nI i) lf_X11_134 dX11_next_313 (by first | decide | assumption | omega) (by first | rfl | assumption) (by rfl) h5 ?_
                        refine Zw_iconst (v := 1) dX11_next_316 (by decide) ?_
                        refine Zw_nadd (i) (1) dX11_next_317 rfl rfl ?_
                        refine Zw_put lp_X11_134 dX11_next_318 (by first | decide | assumption | omega) (by first | rfl | assumption) (by rfl) (by first | rfl | assumption) (by first | rfl | assumption) ?_
                        refine Zw_return dX11_next_321 ?_
                        have hl : ¬ k_let (b i) = true := fun q => d1 (of_decide_eq_true q)
                        have hg : ¬ k_dig (b i) = true := fun q => g1 (of_decide_eq_true q)
                        have hsg : ¬ k_sgn (b i) = 19 := k_sgn_in (Or.inr (Or.inr (Or.inr (Or.inr (Or.inl c279)))))
                        have hk : m_kd b n (k_pl b n i0) = 3 := by rw [hpl, m_kd, if_neg (by omega), if_neg hl, if_neg hg, if_neg hsg]
                        refine h _ _ ((((hO.up (by omega)).up (by omega)).up (by omega)).up (by omega)) ⟨?_, ?_, ?_, ?_, ?_⟩
                        · rw [hpl]; rfl
                        · rw [hk]; rfl
                        · intro _ _; rw [k_nx, hpl, k_nxP, if_neg (by omega), if_neg hl, if_neg hg]; rfl
                        · intro q; rw [hk] at q; omega
                        · intro _; rw [hpl]
                      · refine Zw_iload_1 dX11_next_282 ?_
                        refine Zw_bipush (v := 42) dX11_next_283 (by decide) ?_
                        refine Zw_icmp_eq 300 dX11_next_285 (by decide) (fun c285 => ?_) (fun c285 => ?_)
                        · refine Zw_aload_0 dX11_next_300 ?_
                          refine Zw_iconst (v := 3) dX11_next_301 (by decide) ?_
                          refine Zw_put lp_X11_143 dX11_next_302 (by first | decide | assumption | omega) (by first | rfl | assumption) (by rfl) (by first | rfl | assumption) (by first | rfl | assumption) ?_
                          refine Zw_aload_0 dX11_next_305 ?_
                          refine Zw_iload_1 dX11_next_306 ?_
                          refine Zw_i2l dX11_next_307 ?_
                          refine Zw_putl lp_X11_154 dX11_next_308 ?_
                          refine Zw_aload_0 dX11_next_311 ?_
                          refine Zw_dup dX11_next_312 rfl ?_
                          refine Zw_getv (nI i) lf_X11_134 dX11_next_313 (by first | decide | assumption | omega) (by first | rfl | assumption) (by rfl) h5 ?_
                          refine Zw_iconst (v := 1) dX11_next_316 (by decide) ?_
                          refine Zw_nadd (i) (1) dX11_next_317 rfl rfl ?_
                          refine Zw_put lp_X11_134 dX11_next_318 (by first | decide | assumption | omega) (by first | rfl | assumption) (by rfl) (by first | rfl | assumption) (by first | rfl | assumption) ?_
                          refine Zw_return dX11_next_321 ?_
                          have hl : ¬ k_let (b i) = true := fun q => d1 (of_decide_eq_true q)
                          have hg : ¬ k_dig (b i) = true := fun q => g1 (of_decide_eq_true q)
                          have hsg : ¬ k_sgn (b i) = 19 := k_sgn_in (Or.inr (Or.inr (Or.inr (Or.inr (Or.inr (Or.inl c285))))))
                          have hk : m_kd b n (k_pl b n i0) = 3 := by rw [hpl, m_kd, if_neg (by omega), if_neg hl, if_neg hg, if_neg hsg]
                          refine h _ _ ((((hO.up (by omega)).up (by omega)).up (by omega)).up (by omega)) ⟨?_, ?_, ?_, ?_, ?_⟩
                          · rw [hpl]; rfl
                          · rw [hk]; rfl
                          · intro _ _; rw [k_nx, hpl, k_nxP, if_neg (by omega), if_neg hl, if_neg hg]; rfl
                          · intro q; rw [hk] at q; omega
                          · intro _; rw [hpl]
                        · refine Zw_iload_1 dX11_next_288 ?_
                          refine Zw_bipush (v := 60) dX11_next_289 (by decide) ?_
                          refine Zw_icmp_eq 300 dX11_next_291 (by decide) (fun c291 => ?_) (fun c291 => ?_)
                          · refine Zw_aload_0 dX11_next_300 ?_
                            refine Zw_iconst (v := 3) dX11_next_301 (by decide) ?_
                            refine Zw_put lp_X11_143 dX11_next_302 (by first | decide | assumption | omega) (by first | rfl | assumption) (by rfl) (by first | rfl | assumption) (by first | rfl | assumption) ?_
                            refine Zw_aload_0 dX11_next_305 ?_
                            refine Zw_iload_1 dX11_next_306 ?_
                            refine Zw_i2l dX11_next_307 ?_
                            refine Zw_putl lp_X11_154 dX11_next_308 ?_
                            refine Zw_aload_0 dX11_next_311 ?_
                            refine Zw_dup dX11_next_312 rfl ?_
                            refine Zw_getv (nI i) lf_X11_134 dX11_next_313 (by first | decide | assumption | omega) (by first | rfl | assumption) (by rfl) h5 ?_
                            refine Zw_iconst (v := 1) dX11_next_316 (by decide) ?_
                            refine Zw_nadd (i) (1) dX11_next_317 rfl rfl ?_
                            refine Zw_put lp_X11_134 dX11_next_318 (by first | decide | assumption | omega) (by first | rfl | assumption) (by rfl) (by first | rfl | assumption) (by first | rfl | assumption) ?_
                            refine Zw_return dX11_next_321 ?_
                            have hl : ¬ k_let (b i) = true := fun q => d1 (of_decide_eq_true q)
                            have hg : ¬ k_dig (b i) = true := fun q => g1 (of_decide_eq_true q)
                            have hsg : ¬ k_sgn (b i) = 19 := k_sgn_in (Or.inr (Or.inr (Or.inr (Or.inr (Or.inr (Or.inr (Or.inl c291)))))))
                            have hk : m_kd b n (k_pl b n i0) = 3 := by rw [hpl, m_kd, if_neg (by omega), if_neg hl, if_neg hg, if_neg hsg]
                            refine h _ _ ((((hO.up (by omega)).up (by omega)).up (by omega)).up (by omega)) ⟨?_, ?_, ?_, ?_, ?_⟩
                            · rw [hpl]; rfl
                            · rw [hk]; rfl
                            · intro _ _; rw [k_nx, hpl, k_nxP, if_neg (by omega), if_neg hl, if_neg hg]; rfl
                            · intro q; rw [hk] at q; omega
                            · intro _; rw [hpl]
                          · refine Zw_iload_1 dX11_next_294 ?_
                            refine Zw_bipush (v := 61) dX11_next_295 (by decide) ?_
                            refine Zw_icmp_ne 321 dX11_next_297 (by decide) (fun c297 => ?_) (fun c297 => ?_)
                            · refine Zw_return dX11_next_321 ?_
                              have hl : ¬ k_let (b i) = true := fun q => d1 (of_decide_eq_true q)
                              have hg : ¬ k_dig (b i) = true := fun q => g1 (of_decide_eq_true q)
                              have hsg : k_sgn (b i) = 19 := k_sgn_out (by simp [c255, c261, c267, c273, c279, c285, c291, c297])
                              have hk : m_kd b n (k_pl b n i0) = 4 := by rw [hpl, m_kd, if_neg (by omega), if_neg hl, if_neg hg, if_pos hsg]
                              refine h _ _ ((hO.up (by omega)).up (by omega)) ⟨?_, ?_, ?_, ?_, ?_⟩
                              · rw [hpl]; rfl
                              · rw [hk]; rfl
                              · intro _ q; exact absurd hk q
                              · intro q; rw [hk] at q; omega
                              · intro q; rw [hk] at q; omega
                            · refine Zw_aload_0 dX11_next_300 ?_
                              refine Zw_iconst (v := 3) dX11_next_301 (by decide) ?_
                              refine Zw_put lp_X11_143 dX11_next_302 (by first | decide | assumption | omega) (by first | rfl | assumption) (by rfl) (by first | rfl | assumption) (by first | rfl | assumption) ?_
                              refine Zw_aload_0 dX11_next_305 ?_
                              refine Zw_iload_1 dX11_next_306 ?_
                              refine Zw_i2l dX11_next_307 ?_
                              refine Zw_putl lp_X11_154 dX11_next_308 ?_
                              refine Zw_aload_0 dX11_next_311 ?_
                              refine Zw_dup dX11_next_312 rfl ?_
                              refine Zw_getv (nI i) lf_X11_134 dX11_next_313 (by first | decide | assumption | omega) (by first | rfl | assumption) (by rfl) h5 ?_
                              refine Zw_iconst (v := 1) dX11_next_316 (by decide) ?_
                              refine Zw_nadd (i) (1) dX11_next_317 rfl rfl ?_
                              refine Zw_put lp_X11_134 dX11_next_318 (by first | decide | assumption | omega) (by first | rfl | assumption) (by rfl) (by first | rfl | assumption) (by first | rfl | assumption) ?_
                              refine Zw_return dX11_next_321 ?_
                              have hl : ¬ k_let (b i) = true := fun q => d1 (of_decide_eq_true q)
                              have hg : ¬ k_dig (b i) = true := fun q => g1 (of_decide_eq_true q)
                              have hsg : ¬ k_sgn (b i) = 19 := k_sgn_in (Or.inr (Or.inr (Or.inr (Or.inr (Or.inr (Or.inr (Or.inr (c297))))))))
                              have hk : m_kd b n (k_pl b n i0) = 3 := by rw [hpl, m_kd, if_neg (by omega), if_neg hl, if_neg hg, if_neg hsg]
                              refine h _ _ ((((hO.up (by omega)).up (by omega)).up (by omega)).up (by omega)) ⟨?_, ?_, ?_, ?_, ?_⟩
                              · rw [hpl]; rfl
                              · rw [hk]; rfl
                              · intro _ _; rw [k_nx, hpl, k_nxP, if_neg (by omega), if_neg hl, if_neg hg]; rfl
                              · intro q; rw [hk] at q; omega
                              · intro _; rw [hpl]
        · refine Zw_aload_0 dX11_next_26 ?_
          refine Zw_dup dX11_next_27 rfl ?_
          refine Zw_getv (nI i) lf_X11_134 dX11_next_28 (by first | decide | assumption | omega) (by first | rfl | assumption) (by rfl) h5 ?_
          refine Zw_iconst (v := 1) dX11_next_31 (by decide) ?_
          refine Zw_nadd (i) (1) dX11_next_32 rfl rfl ?_
          refine Zw_put lp_X11_134 dX11_next_33 (by first | decide | assumption | omega) (by first | rfl | assumption) (by rfl) (by first | rfl | assumption) (by first | rfl | assumption) ?_
          refine Zw_goto 0 dX11_next_36 (by decide) ?_
          have hd : k_spc (b i) = true := decide_eq_true (Or.inr c23)
          exact l_mn hB h m (i + 1) _ _ (by omega) (by omega) (hO.up (by omega)) rfl ((k_end_go y1 hd).symm.trans he)
    · refine Zw_bipush (v := 32) dX11_next_8 (by decide) ?_
      refine Zw_icmp_eq 26 dX11_next_10 (by decide) (fun c => absurd c (by decide)) (fun _ => ?_)
      refine Zw_aload_0 dX11_next_13 ?_
      refine Zw_aload_0 dX11_next_14 ?_
      refine Zw_getv (nI i) lf_X11_134 dX11_next_15 (by first | decide | assumption | omega) (by first | rfl | assumption) (by rfl) h5 ?_
      refine Zw_V1 (k := 0) lm_X11_137 dX11_next_18 (by decide) (by first | decide | assumption | omega) (by first | rfl | assumption) (by rfl) (Nat.le_of_ble_eq_true rfl) ?_
      refine s_byteAt (i := i) hB1 (by omega) (fun y1 => absurd y1 (by omega)) (fun _ => ?_)
      refine Zw_bipush (v := 10) dX11_next_21 (by decide) ?_
      refine Zw_icmp_ne 39 dX11_next_23 (by decide) (fun _ => ?_) (fun c => absurd c (by decide))
      have hno : k_end k_spc b n i = i := k_end_no (fun q => absurd q.1 (by omega))
      have hpl : k_pl b n i0 = i := he.symm.trans hno
      refine Zw_aload_0 dX11_next_39 ?_
      refine Zw_aload_0 dX11_next_40 ?_
      refine Zw_getv (nI i) lf_X11_134 dX11_next_41 (by first | decide | assumption | omega) (by first | rfl | assumption) (by rfl) h5 ?_
      refine Zw_put lp_X11_140 dX11_next_44 (by first | decide | assumption | omega) (by first | rfl | assumption) (by rfl) (by first | rfl | assumption) (by first | rfl | assumption) ?_
      refine Zw_aload_0 dX11_next_47 ?_
      refine Zw_aload_0 dX11_next_48 ?_
      refine Zw_getv (nI i) lf_X11_134 dX11_next_49 (by first | decide | assumption | omega) (by first | rfl | assumption) (by rfl) h5 ?_
      refine Zw_V1 (k := 0) lm_X11_137 dX11_next_52 (by decide) (by first | decide | assumption | omega) (by first | rfl | assumption) (by rfl) (Nat.le_of_ble_eq_true rfl) ?_
      refine s_byteAt (i := i) (mB.off hB1 (mOff.up (mOff.refl _) (by omega))) (by omega) (fun y1 => absurd y1 (by omega)) (fun _ => ?_)
      refine Zw_istore_1 dX11_next_55 rfl ?_
      refine Zw_aload_0 dX11_next_56 ?_
      refine Zw_iconst (v := 4) dX11_next_57 (by decide) ?_
      refine Zw_put lp_X11_143 dX11_next_58 (by first | decide | assumption | omega) (by first | rfl | assumption) (by rfl) (by first | rfl | assumption) (by first | rfl | assumption) ?_
      refine Zw_iload_1 dX11_next_61 ?_
      refine Zw_if_ge 81 dX11_next_62 (by decide) (fun c => absurd c (by decide)) (fun _ => ?_)
      refine Zw_aload_0 dX11_next_65 ?_
      refine Zw_iconst (v := 0) dX11_next_66 (by decide) ?_
      refine Zw_put lp_X11_143 dX11_next_67 (by first | decide | assumption | omega) (by first | rfl | assumption) (by rfl) (by first | rfl | assumption) (by first | rfl | assumption) ?_
      refine Zw_aload_0 dX11_next_70 ?_
      refine Zw_aload_0 dX11_next_71 ?_
      refine Zw_getv (nI n) lf_X11_128 dX11_next_72 (by first | decide | assumption | omega) (by first | rfl | assumption) (by rfl) hn19 ?_
      refine Zw_put lp_X11_140 dX11_next_75 (by first | decide | assumption | omega) (by first | rfl | assumption) (by rfl) (by first | rfl | assumption) (by first | rfl | assumption) ?_
      refine Zw_goto 321 dX11_next_78 (by decide) ?_
      refine Zw_return dX11_next_321 ?_
      have hk : m_kd b n (k_pl b n i0) = 0 := by rw [hpl, m_kd, if_pos (by omega)]
      refine h _ _ (((hO.up (by omega)).up (by omega)).up (by omega) |>.up (by omega)) ⟨?_, ?_, ?_, ?_, ?_⟩
      · rw [hpl, show i = n by omega]; rfl
      · rw [hk]; rfl
      · intro q; exact absurd hk q
      · intro q; rw [hk] at q; omega
      · intro q; rw [hk] at q; omega
