set_option maxRecDepth 20000 in
theorem s_mnext {fr n i : Nat} {b : Nat → Int32} {Q : zQ} {μ : zMu} {τ : Int64} (hB : mB fr n b μ) (h20 : μ 61 20 = nI i) (hi : i ≤ n) (h : ∀ μ2 τ2, mOn μ μ2 → mS b n μ2 τ2 i → Q none μ2 τ2) : Zc 1 yX11_next cX11_next 3 none [.ref 61] μ τ Q := by
  refine Zc.mk 2 [.ref 61, .null, .null] rfl (by decide) (Nat.le_of_ble_eq_true rfl) ?_
  exact l_mn hB h (n + 1) i _ _ (by omega) hi (mOn.refl μ) h20 rfl
set_option maxRecDepth 20000 in
theorem s_failB {Q : zQ} {μ : zMu} {τ : Int64} (hb : μ 61 25 = 1) (h : Q none μ τ) : Zc 0 yX11_fail cX11_fail 1 none [.ref 61] μ τ Q := by
  refine Zc.mk 0 [.ref 61] rfl (by decide) (Nat.le_of_ble_eq_true rfl) ?_
  refine Zw_aload_0 dX11_fail_0 ?_
  refine Zw_getv (1) lf_X11_158 dX11_fail_1 (by first | decide | assumption | omega) (by first | rfl | assumption) (by rfl) hb ?_
  refine Zw_if_ne 20 dX11_fail_4 (by decide) (fun _ => ?_) (fun c => absurd c (by decide))
  refine Zw_return dX11_fail_20 ?_
  exact h
set_option maxRecDepth 20000 in
theorem s_fail0 {p : Nat} {Q : zQ} {μ : zMu} {τ : Int64} (hb : μ 61 25 = 0) (hp : μ 61 22 = nI p) (h : Q none (zup (zup μ 61 25 1) 61 26 (nI p)) τ) : Zc 0 yX11_fail cX11_fail 1 none [.ref 61] μ τ Q := by
  refine Zc.mk 0 [.ref 61] rfl (by decide) (Nat.le_of_ble_eq_true rfl) ?_
  refine Zw_aload_0 dX11_fail_0 ?_
  refine Zw_getv (0) lf_X11_158 dX11_fail_1 (by first | decide | assumption | omega) (by first | rfl | assumption) (by rfl) hb ?_
  refine Zw_if_ne 20 dX11_fail_4 (by decide) (fun c => absurd c (by decide)) (fun _ => ?_)
  refine Zw_aload_0 dX11_fail_7 ?_
  refine Zw_iconst (v := 1) dX11_fail_8 (by decide) ?_
  refine Zw_put lp_X11_158 dX11_fail_9 (by first | decide | assumption | omega) (by first | rfl | assumption) (by rfl) (by first | rfl | assumption) (by first | rfl | assumption) ?_
  refine Zw_aload_0 dX11_fail_12 ?_
  refine Zw_aload_0 dX11_fail_13 ?_
  refine Zw_getv (nI p) lf_X11_140 dX11_fail_14 (by first | decide | assumption | omega) (by first | rfl | assumption) (by rfl) hp ?_
  refine Zw_put lp_X11_162 dX11_fail_17 (by first | decide | assumption | omega) (by first | rfl | assumption) (by rfl) (by first | rfl | assumption) (by first | rfl | assumption) ?_
  refine Zw_return dX11_fail_20 ?_
  exact h
set_option maxRecDepth 20000 in
theorem s_signB {x : Int32} {Q : zQ} {μ : zMu} {τ : Int64} (hb : μ 61 25 = 1) (h : Q (some (.int 0)) μ τ) : Zc 0 yX11_isSign cX11_isSign 2 (some .boolean) [.ref 61, .int x] μ τ Q := by
  refine Zc.mk 0 [.ref 61, .int x] rfl (by decide) (Nat.le_of_ble_eq_true rfl) ?_
  refine Zw_aload_0 dX11_isSign_0 ?_
  refine Zw_getv (1) lf_X11_158 dX11_isSign_1 (by first | decide | assumption | omega) (by first | rfl | assumption) (by rfl) hb ?_
  refine Zw_if_ne 29 dX11_isSign_4 (by decide) (fun _ => ?_) (fun c => absurd c (by decide))
  refine Zw_iconst (v := 0) dX11_isSign_29 (by decide) ?_
  refine Zw_ireturn dX11_isSign_30 (by first | rfl | assumption) ?_
  exact h
theorem k_sgn_ne (x : Int32) : k_sgn x ≠ 18 ∧ k_sgn x ≠ 16 ∧ k_sgn x ≠ 17 ∧ k_sgn x ≠ 13 ∧ k_sgn x ≠ 14 ∧ k_sgn x ≠ 15 ∧ k_sgn x ≠ 1 ∧ k_sgn x ≠ 2 ∧ k_sgn x ≠ 3 := by
  unfold k_sgn
  repeat (split; · omega)
  omega
theorem k_wt_in (r : Nat) : k_wt r = 13 ∨ k_wt r = 14 ∨ k_wt r = 15 ∨ k_wt r = 1 ∨ k_wt r = 2 ∨ k_wt r = 3 ∨ k_wt r = 17 ∨ k_wt r = 19 := by
  unfold k_wt
  split
  · omega
  · split
    · omega
    · split <;> omega
theorem k_sgn_inj {x y : Int32} (h : k_sgn x = k_sgn y) (hx : k_sgn x ≠ 19) : x = y := by
  by_cases hy : y = 40 ∨ y = 41 ∨ y = 59 ∨ y = 43 ∨ y = 45 ∨ y = 42 ∨ y = 60 ∨ y = 61
  · by_cases hx2 : x = 40 ∨ x = 41 ∨ x = 59 ∨ x = 43 ∨ x = 45 ∨ x = 42 ∨ x = 60 ∨ x = 61
    · rcases hx2 with e | e | e | e | e | e | e | e <;> rcases hy with f | f | f | f | f | f | f | f <;> subst e <;> subst f <;> first | rfl | exact absurd h (by decide)
    · exact absurd (k_sgn_out hx2) hx
  · exact absurd (h.trans (k_sgn_out hy)) hx
theorem sg_iff {b : Nat → Int32} {n p tk : Nat} {x : Int32} (hx : k_sgn x = tk) (h19 : tk ≠ 19) : (m_kd b n p = 3 ∧ b p = x) ↔ k_tokP b n p = tk := by
  unfold m_kd k_tokP
  have hn := k_sgn_ne x
  rw [hx] at hn
  by_cases h1 : n ≤ p
  · rw [if_pos h1, if_pos h1]; omega
  · rw [if_neg h1, if_neg h1]
    by_cases h2 : k_let (b p) = true
    · rw [if_pos h2, if_pos h2]
      have := k_wt_in (k_word b p (k_end k_let b n p))
      omega
    · rw [if_neg h2, if_neg h2]
      by_cases h3 : k_dig (b p) = true
      · rw [if_pos h3, if_pos h3]
        split <;> omega
      · rw [if_neg h3, if_neg h3]
        constructor
        · rintro ⟨-, e⟩; rw [e]; exact hx
        · intro e
          have h4 : k_sgn (b p) ≠ 19 := by rw [e]; exact h19
          exact ⟨if_neg h4, k_sgn_inj (e.trans hx.symm) h4⟩
theorem m_kd_lt (b : Nat → Int32) (n p : Nat) : m_kd b n p < 5 := by
  unfold m_kd
  split
  · omega
  · split
    · omega
    · split
      · split <;> omega
      · split <;> omega
theorem i32_inj {x y : Int32} (h : x.toInt64 = y.toInt64) : x = y := by
  have := congrArg Int64.toInt32 h
  rwa [Int32.toInt32_toInt64, Int32.toInt32_toInt64] at this
theorem m_cmp {x y : Int32} {t : Int64} (h : t = x.toInt64) (hc : lg_cmp t y.toInt64 = 0) : x = y := by
  rw [lg_e, h] at hc
  exact i32_inj hc
theorem m_cmp0 (x : Int32) : lg_cmp x.toInt64 x.toInt64 = 0 := (lg_e _ _).mpr rfl
set_option maxRecDepth 20000 in
theorem s_sign {n pos tk : Nat} {b : Nat → Int32} {x : Int32} {Q : zQ} {μ : zMu} {τ : Int64} (hb : μ 61 25 = 0) (hS : mS b n μ τ pos) (hx : k_sgn x = tk) (h19 : tk ≠ 19) (h1 : k_tok b n pos = tk → Q (some (.int 1)) μ τ) (h0 : k_tok b n pos ≠ tk → Q (some (.int 0)) μ τ) : Zc 0 yX11_isSign cX11_isSign 2 (some .boolean) [.ref 61, .int x] μ τ Q := by
  refine Zc.mk 0 [.ref 61, .int x] rfl (by decide) (Nat.le_of_ble_eq_true rfl) ?_
  obtain ⟨h2a, h2, h3, h4, h5⟩ := hS
  have hkl := m_kd_lt b n (k_pl b n pos)
  refine Zw_aload_0 dX11_isSign_0 ?_
  refine Zw_getv (0) lf_X11_158 dX11_isSign_1 (by first | decide | assumption | omega) (by first | rfl | assumption) (by rfl) hb ?_
  refine Zw_if_ne 29 dX11_isSign_4 (by decide) (fun c => absurd c (by decide)) (fun _ => ?_)
  refine Zw_aload_0 dX11_isSign_7 ?_
  refine Zw_getv (nI (m_kd b n (k_pl b n pos))) lf_X11_143 dX11_isSign_8 (by first | decide | assumption | omega) (by first | rfl | assumption) (by rfl) h2 ?_
  refine Zw_iconst (v := 3) dX11_isSign_11 (by decide) ?_
  refine Zw_nicmp_ne ((m_kd b n (k_pl b n pos))) (3) 29 dX11_isSign_12 (by decide) rfl rfl (by omega) (by omega) (fun c12 => ?_) (fun c12 => ?_)
  · refine Zw_iconst (v := 0) dX11_isSign_29 (by decide) ?_
    refine Zw_ireturn dX11_isSign_30 (by first | rfl | assumption) ?_
    exact h0 (fun q => absurd ((sg_iff hx h19).mpr q).1 (by omega))
  · refine Zw_aload_0 dX11_isSign_15 ?_
    refine Zw_getl lf_X11_154 dX11_isSign_16 (by first | decide | assumption | omega) (by first | rfl | assumption) (by rfl) ?_
    refine Zw_iload_1 dX11_isSign_19 ?_
    refine Zw_i2l dX11_isSign_20 ?_
    refine Zw_lcmp dX11_isSign_21 ?_
    refine Zw_if_ne 29 dX11_isSign_22 (by decide) (fun c22 => ?_) (fun c22 => ?_)
    · refine Zw_iconst (v := 0) dX11_isSign_29 (by decide) ?_
      refine Zw_ireturn dX11_isSign_30 (by first | rfl | assumption) ?_
      exact h0 (fun q => c22 (by rw [h5 (by omega), ((sg_iff hx h19).mpr q).2]; exact m_cmp0 _))
    · refine Zw_iconst (v := 1) dX11_isSign_25 (by decide) ?_
      refine Zw_goto 30 dX11_isSign_26 (by decide) ?_
      refine Zw_ireturn dX11_isSign_30 (by first | rfl | assumption) ?_
      exact h1 ((sg_iff hx h19).mp ⟨by omega, m_cmp (h5 (by omega)) c22⟩)
def m_lt (b : Nat → Int32) (p e j : Nat) (a : Int32) : Prop := if p + j < e then b (p + j) = a else a = 0
set_option maxRecDepth 20000 in
theorem s_mletter {fr n p e j : Nat} {b : Nat → Int32} {a : Int32} {Q : zQ} {μ : zMu} {τ : Int64} (hB : mB fr n b μ) (hp : μ 61 22 = nI p) (he : μ 61 20 = nI e) (hj : j < 8) (hen : e ≤ n) (hpe : p ≤ e) (h1 : m_lt b p e j a → Q (some (.int 1)) μ τ) (h0 : ¬ m_lt b p e j a → Q (some (.int 0)) μ τ) : Zc 1 yX11_isLetter cX11_isLetter 3 (some .boolean) [.ref 61, .int (nI j), .int a] μ τ Q := by
  refine Zc.mk 0 [.ref 61, .int (nI j), .int a] rfl (by decide) (Nat.le_of_ble_eq_true rfl) ?_
  have hn := hB.2.1
  refine Zw_aload_0 dX11_isLetter_0 ?_
  refine Zw_getv (nI p) lf_X11_140 dX11_isLetter_1 (by first | decide | assumption | omega) (by first | rfl | assumption) (by rfl) hp ?_
  refine Zw_iload_1 dX11_isLetter_4 ?_
  refine Zw_nadd (p) (j) dX11_isLetter_5 rfl rfl ?_
  refine Zw_aload_0 dX11_isLetter_6 ?_
  refine Zw_getv (nI e) lf_X11_134 dX11_isLetter_7 (by first | decide | assumption | omega) (by first | rfl | assumption) (by rfl) he ?_
  refine Zw_nicmp_ge ((p + j)) (e) 35 dX11_isLetter_10 (by decide) rfl rfl (by omega) (by omega) (fun c10 => ?_) (fun c10 => ?_)
  · refine Zw_iload_2 dX11_isLetter_35 ?_
    refine Zw_if_ne 43 dX11_isLetter_36 (by decide) (fun c36 => ?_) (fun c36 => ?_)
    · refine Zw_iconst (v := 0) dX11_isLetter_43 (by decide) ?_
      refine Zw_ireturn dX11_isLetter_44 (by first | rfl | assumption) ?_
      exact h0 (by unfold m_lt; rw [if_neg (by omega)]; exact c36)
    · refine Zw_iconst (v := 1) dX11_isLetter_39 (by decide) ?_
      refine Zw_goto 44 dX11_isLetter_40 (by decide) ?_
      refine Zw_ireturn dX11_isLetter_44 (by first | rfl | assumption) ?_
      exact h1 (by unfold m_lt; rw [if_neg (by omega)]; exact c36)
  · refine Zw_aload_0 dX11_isLetter_13 ?_
    refine Zw_aload_0 dX11_isLetter_14 ?_
    refine Zw_getv (nI p) lf_X11_140 dX11_isLetter_15 (by first | decide | assumption | omega) (by first | rfl | assumption) (by rfl) hp ?_
    refine Zw_iload_1 dX11_isLetter_18 ?_
    refine Zw_nadd (p) (j) dX11_isLetter_19 rfl rfl ?_
    refine Zw_V1 (k := 0) lm_X11_137 dX11_isLetter_20 (by decide) (by first | decide | assumption | omega) (by first | rfl | assumption) (by rfl) (Nat.le_of_ble_eq_true rfl) ?_
    refine s_byteAt (i := p + j) hB (by omega) (fun _ => ?_) (fun y0 => absurd y0 (by omega))
    refine Zw_iload_2 dX11_isLetter_23 ?_
    refine Zw_icmp_ne 31 dX11_isLetter_24 (by decide) (fun c24 => ?_) (fun c24 => ?_)
    · refine Zw_iconst (v := 0) dX11_isLetter_31 (by decide) ?_
      refine Zw_goto 44 dX11_isLetter_32 (by decide) ?_
      refine Zw_ireturn dX11_isLetter_44 (by first | rfl | assumption) ?_
      exact h0 (by unfold m_lt; rw [if_pos c10]; exact c24)
    · refine Zw_iconst (v := 1) dX11_isLetter_27 (by decide) ?_
      refine Zw_goto 44 dX11_isLetter_28 (by decide) ?_
      refine Zw_ireturn dX11_isLetter_44 (by first | rfl | assumption) ?_
      exact h1 (by unfold m_lt; rw [if_pos c10]; exact c24)
def m_w (w i : Nat) : Int32 := if i < 6 then (if kW (w * 6 + i) = 32 then 0 else kW (w * 6 + i)) else 0
theorem k_run_all (p : Int32 → Bool) (b : Nat → Int32) (n : Nat) : ∀ m i j, i ≤ j → j < k_run p b n m i → p (b j) = true
  | 0, i, j, h1, h2 => absurd h2 (by unfold k_run; omega)
  | m + 1, i, j, h1, h2 => by
    unfold k_run at h2
    split at h2
    · rename_i hc
      by_cases e : i = j
      · subst e; exact hc.2
      · exact k_run_all p b n m (i + 1) j (by omega) h2
    · omega
theorem k_isl_iff (b : Nat → Int32) (p ln w : Nat) : ∀ m i, k_isl b p ln w m i = true ↔ ∀ j, i ≤ j → j < i + m → (if j < ln then b (p + j) = kW (w * 6 + j) else kW (w * 6 + j) = 32)
  | 0, i => ⟨fun _ j h1 h2 => absurd h2 (by omega), fun _ => rfl⟩
  | m + 1, i => by
    rw [k_isl_s]
    constructor
    · intro h
      by_cases hc : (if i < ln then b (p + i) = kW (w * 6 + i) else kW (w * 6 + i) = 32)
      · rw [if_pos hc] at h
        intro j h1 h2
        by_cases e : i = j
        · subst e; exact hc
        · exact (k_isl_iff b p ln w m (i + 1)).mp h j (by omega) (by omega)
      · rw [if_neg hc] at h; cases h
    · intro h
      rw [if_pos (h i (Nat.le_refl i) (by omega))]
      exact (k_isl_iff b p ln w m (i + 1)).mpr (fun j h1 h2 => h j (by omega) (by omega))
theorem k_isw_iff (b : Nat → Int32) (p e w : Nat) : k_isw b p e w = true ↔ e - p ≤ 6 ∧ ∀ j, j < 6 → (if j < e - p then b (p + j) = kW (w * 6 + j) else kW (w * 6 + j) = 32) := by
  unfold k_isw
  by_cases h : 6 < e - p
  · rw [if_pos h]
    exact ⟨fun q => (by cases q), fun q => absurd q.1 (by omega)⟩
  · rw [if_neg h, k_isl_iff]
    exact ⟨fun q => ⟨by omega, fun j hj => q j (Nat.zero_le _) (by omega)⟩, fun q j _ hj => q.2 j (by omega)⟩
theorem kW_inj : ∀ w, w < 12 → ∀ v, v < 12 → (∀ j, j < 6 → kW (w * 6 + j) = kW (v * 6 + j)) → w = v := by decide +kernel
theorem k_isw_u {b : Nat → Int32} {p e w v : Nat} (hw : w < 12) (hv : v < 12) (h1 : k_isw b p e w = true) (h2 : k_isw b p e v = true) : w = v := by
  rw [k_isw_iff] at h1 h2
  refine kW_inj w hw v hv (fun j hj => ?_)
  have a1 := h1.2 j hj
  have a2 := h2.2 j hj
  by_cases h : j < e - p
  · rw [if_pos h] at a1 a2; rw [← a1, ← a2]
  · rw [if_neg h] at a1 a2; rw [a1, a2]
theorem k_wi_of {b : Nat → Int32} {p e v : Nat} (hv : v < 12) (h : k_isw b p e v = true) : ∀ m w r, w + m = 12 → (w ≤ v ∨ r = v) → k_wi b p e m w r = v
  | 0, w, r, hm, h1 => by
    have hr : r = v := by omega
    exact hr
  | m + 1, w, r, hm, h1 => by
    rw [k_wi_s]
    refine k_wi_of hv h m (w + 1) _ (by omega) ?_
    by_cases e1 : k_isw b p e w = true
    · rw [if_pos e1]
      exact Or.inr (k_isw_u (by omega) hv e1 h)
    · rw [if_neg e1]
      have : w ≠ v := fun q => e1 (q ▸ h)
      omega
theorem k_wi_is {b : Nat → Int32} {p e v : Nat} : ∀ m w r, w + m = 12 → k_wi b p e m w r = v → v < 12 → r = v ∨ k_isw b p e v = true
  | 0, w, r, hm, h, hv => Or.inl h
  | m + 1, w, r, hm, h, hv => by
    rw [k_wi_s] at h
    rcases k_wi_is m (w + 1) _ (by omega) h hv with q | q
    · by_cases e1 : k_isw b p e w = true
      · rw [if_pos e1] at q; subst q; exact Or.inr e1
      · rw [if_neg e1] at q; exact Or.inl q
    · exact Or.inr q
theorem k_word_iff {b : Nat → Int32} {p e w : Nat} (hw : w < 12) : k_word b p e = w ↔ k_isw b p e w = true := by
  constructor
  · intro h
    rcases k_wi_is 12 0 12 rfl h hw with q | q
    · omega
    · exact q
  · intro h
    exact k_wi_of hw h 12 0 12 rfl (Or.inl (Nat.zero_le _))
theorem let_ne {x : Int32} (h : k_let x = true) : x ≠ 0 ∧ x ≠ 32 := by
  have := of_decide_eq_true h
  constructor
  · intro e; subst e; exact absurd this.1 (by decide)
  · intro e; subst e; exact absurd this.1 (by decide)
theorem kW_n0 : ∀ w, w < 12 → ∀ j, j < 6 → kW (w * 6 + j) ≠ 0 := by decide +kernel
theorem m_wm {b : Nat → Int32} {p e w : Nat} (hw : w < 12) (hl : ∀ j, p ≤ j → j < e → k_let (b j) = true) : (e ≤ p + 8 ∧ ∀ j, j < 8 → m_lt b p e j (m_w w j)) ↔ k_isw b p e w = true := by
  rw [k_isw_iff]
  constructor
  · rintro ⟨h8, h⟩
    refine ⟨?_, fun j hj => ?_⟩
    · rcases Nat.lt_or_ge 6 (e - p) with h1 | h1
      · have h6 := h 6 (by decide)
        unfold m_lt at h6
        rw [if_pos (by omega)] at h6
        exact absurd h6 (let_ne (hl (p + 6) (by omega) (by omega))).1
      · exact h1
    · have h1 := h j (by omega)
      unfold m_lt m_w at h1
      rw [if_pos hj] at h1
      by_cases e1 : p + j < e
      · rw [if_pos e1] at h1
        have hlj := let_ne (hl (p + j) (by omega) e1)
        by_cases e2 : kW (w * 6 + j) = 32
        · rw [if_pos e2] at h1; exact absurd h1 hlj.1
        · rw [if_neg e2] at h1; rw [if_pos (by omega)]; exact h1
      · rw [if_neg e1] at h1
        rw [if_neg (by omega)]
        by_cases e2 : kW (w * 6 + j) = 32
        · exact e2
        · rw [if_neg e2] at h1
          exact absurd h1 (kW_n0 w hw j hj)
  · rintro ⟨h6, h⟩
    refine ⟨by omega, fun j hj => ?_⟩
    unfold m_lt m_w
    by_cases h6j : j < 6
    · rw [if_pos h6j]
      have h1 := h j h6j
      by_cases e1 : j < e - p
      · rw [if_pos e1] at h1
        rw [if_pos (by omega)]
        have hlj := let_ne (hl (p + j) (by omega) (by omega))
        rw [if_neg (by rw [← h1]; exact hlj.2)]
        exact h1
      · rw [if_neg e1] at h1
        rw [if_neg (by omega), if_pos h1]
    · rw [if_neg h6j, if_neg (by omega)]
set_option maxRecDepth 20000 in
theorem s_wordB {x0 x1 x2 x3 x4 x5 x6 x7 : Int32} {Q : zQ} {μ : zMu} {τ : Int64} (hb : μ 61 25 = 1) (h : Q (some (.int 0)) μ τ) : Zc 2 yX11_isWord cX11_isWord 9 (some .boolean) [.ref 61, .int x0, .int x1, .int x2, .int x3, .int x4, .int x5, .int x6, .int x7] μ τ Q := by
  refine Zc.mk 0 [.ref 61, .int x0, .int x1, .int x2, .int x3, .int x4, .int x5, .int x6, .int x7] rfl (by decide) (Nat.le_of_ble_eq_true rfl) ?_
  refine Zw_aload_0 dX11_isWord_0 ?_
  refine Zw_getv (1) lf_X11_158 dX11_isWord_1 (by first | decide | assumption | omega) (by first | rfl | assumption) (by rfl) hb ?_
  refine Zw_if_ne 112 dX11_isWord_4 (by decide) (fun _ => ?_) (fun c => absurd c (by decide))
  refine Zw_iconst (v := 0) dX11_isWord_112 (by decide) ?_
  refine Zw_ireturn dX11_isWord_113 (by first | rfl | assumption) ?_
  exact h
def m_isw (b : Nat → Int32) (n pos w : Nat) : Prop := m_kd b n (k_pl b n pos) = 1 ∧ k_word b (k_pl b n pos) (k_nx b n pos) = w
theorem m_kd1 {b : Nat → Int32} {n pos : Nat} (h : m_kd b n (k_pl b n pos) = 1) : k_pl b n pos < n ∧ k_let (b (k_pl b n pos)) = true ∧ k_nx b n pos = k_end k_let b n (k_pl b n pos) := by
  unfold m_kd at h
  split at h
  · omega
  · rename_i h1
    split at h
    · rename_i h2
      refine ⟨by omega, h2, ?_⟩
      rw [k_nx, k_nxP, if_neg h1, if_pos h2]
    · split at h
      · split at h <;> omega
      · split at h <;> omega
set_option maxRecDepth 20000 in
theorem s_word {fr n pos w : Nat} {b : Nat → Int32} {x0 x1 x2 x3 x4 x5 x6 x7 : Int32} {Q : zQ} {μ : zMu} {τ : Int64} (hB : mB fr n b μ) (hpn : pos ≤ n) (hb : μ 61 25 = 0) (hS : mS b n μ τ pos) (hw : w < 12) (ha : ∀ j, j < 8 → [x0, x1, x2, x3, x4, x5, x6, x7].getD j 0 = m_w w j) (h1 : m_isw b n pos w → Q (some (.int 1)) μ τ) (h0 : ¬ m_isw b n pos w → Q (some (.int 0)) μ τ) : Zc 2 yX11_isWord cX11_isWord 9 (some .boolean) [.ref 61, .int x0, .int x1, .int x2, .int x3, .int x4, .int x5, .int x6, .int x7] μ τ Q := by
  refine Zc.mk 0 [.ref 61, .int x0, .int x1, .int x2, .int x3, .int x4, .int x5, .int x6, .int x7] rfl (by decide) (Nat.le_of_ble_eq_true rfl) ?_
  have hkl := m_kd_lt b n (k_pl b n pos)
  refine Zw_aload_0 dX11_isWord_0 ?_
  refine Zw_getv (0) lf_X11_158 dX11_isWord_1 (by first | decide | assumption | omega) (by first | rfl | assumption) (by rfl) hb ?_
  refine Zw_if_ne 112 dX11_isWord_4 (by decide) (fun c => absurd c (by decide)) (fun _ => ?_)
  refine Zw_aload_0 dX11_isWord_7 ?_
  refine Zw_getv (nI (m_kd b n (k_pl b n pos))) lf_X11_143 dX11_isWord_8 (by first | decide | assumption | omega) (by first | rfl | assumption) (by rfl) hS.2.1 ?_
  refine Zw_iconst (v := 1) dX11_isWord_11 (by decide) ?_
  refine Zw_nicmp_ne ((m_kd b n (k_pl b n pos))) (1) 112 dX11_isWord_12 (by decide) rfl rfl (by omega) (by omega) (fun c12 => ?_) (fun c12 => ?_)
  · refine Zw_iconst (v := 0) dX11_isWord_112 (by decide) ?_
    refine Zw_ireturn dX11_isWord_113 (by first | rfl | assumption) ?_
    exact h0 (fun q => absurd q.1 (by omega))
  · have hk0 := m_kd1 (b := b) (n := n) (pos := pos) (by omega)
    have hk1 : k_pl b n pos < n ∧ k_let (b (k_pl b n pos)) = true ∧ k_nx b n pos = k_end k_let b n (k_pl b n pos) ∧ k_pl b n pos ≤ k_nx b n pos ∧ k_nx b n pos ≤ n := ⟨hk0.1, hk0.2.1, hk0.2.2, by rw [hk0.2.2]; exact k_end_ge, k_nx_le hpn⟩
    have hall : ∀ j, k_pl b n pos ≤ j → j < k_nx b n pos → k_let (b j) = true := fun j j1 j2 => by rw [hk1.2.2.1] at j2; exact k_run_all k_let b n _ _ j j1 j2
    have hnn := hB.2.1
    have hkn := hk1.2.2.2.2
    refine Zw_aload_0 dX11_isWord_15 ?_
    refine Zw_getv (nI (k_nx b n pos)) lf_X11_134 dX11_isWord_16 (by first | decide | assumption | omega) (by first | rfl | assumption) (by rfl) (hS.2.2.1 (by omega) (by omega)) ?_
    refine Zw_aload_0 dX11_isWord_19 ?_
    refine Zw_getv (nI (k_pl b n pos)) lf_X11_140 dX11_isWord_20 (by first | decide | assumption | omega) (by first | rfl | assumption) (by rfl) hS.1 ?_
    refine Zw_bipush (v := 8) dX11_isWord_23 (by decide) ?_
    refine Zw_nadd ((k_pl b n pos)) (8) dX11_isWord_25 rfl rfl ?_
    refine Zw_nicmp_gt ((k_nx b n pos)) (((k_pl b n pos) + 8)) 112 dX11_isWord_26 (by decide) rfl rfl (by omega) (by omega) (fun c26 => ?_) (fun c26 => ?_)
    · refine Zw_iconst (v := 0) dX11_isWord_112 (by decide) ?_
      refine Zw_ireturn dX11_isWord_113 (by first | rfl | assumption) ?_
      exact h0 (fun q => absurd ((m_wm hw hall).mpr ((k_word_iff hw).mp q.2)).1 (by omega))
    · refine Zw_aload_0 dX11_isWord_29 ?_
      refine Zw_iconst (v := 0) dX11_isWord_30 (by decide) ?_
      refine Zw_iload_1 dX11_isWord_31 ?_
      refine Zw_V2 (k := 1) lm_X11_165 dX11_isWord_32 (by decide) (by first | decide | assumption | omega) (by first | rfl | assumption) (by rfl) (Nat.le_of_ble_eq_true rfl) ?_
      refine s_mletter (j := 0) hB hS.1 (hS.2.2.1 (by omega) (by omega)) (by decide) hk1.2.2.2.2 hk1.2.2.2.1 (fun u0 => ?_) (fun u0 => ?_)
      · refine Zw_if_eq 112 dX11_isWord_35 (by decide) (fun c => absurd c (by decide)) (fun _ => ?_)
        refine Zw_aload_0 dX11_isWord_38 ?_
        refine Zw_iconst (v := 1) dX11_isWord_39 (by decide) ?_
        refine Zw_iload_2 dX11_isWord_40 ?_
        refine Zw_V2 (k := 1) lm_X11_165 dX11_isWord_41 (by decide) (by first | decide | assumption | omega) (by first | rfl | assumption) (by rfl) (Nat.le_of_ble_eq_true rfl) ?_
        refine s_mletter (j := 1) hB hS.1 (hS.2.2.1 (by omega) (by omega)) (by decide) hk1.2.2.2.2 hk1.2.2.2.1 (fun u1 => ?_) (fun u1 => ?_)
        · refine Zw_if_eq 112 dX11_isWord_44 (by decide) (fun c => absurd c (by decide)) (fun _ => ?_)
          refine Zw_aload_0 dX11_isWord_47 ?_
          refine Zw_iconst (v := 2) dX11_isWord_48 (by decide) ?_
          refine Zw_iload_3 dX11_isWord_49 ?_
          refine Zw_V2 (k := 1) lm_X11_165 dX11_isWord_50 (by decide) (by first | decide | assumption | omega) (by first | rfl | assumption) (by rfl) (Nat.le_of_ble_eq_true rfl) ?_
          refine s_mletter (j := 2) hB hS.1 (hS.2.2.1 (by omega) (by omega)) (by decide) hk1.2.2.2.2 hk1.2.2.2.1 (fun u2 => ?_) (fun u2 => ?_)
          · refine Zw_if_eq 112 dX11_isWord_53 (by decide) (fun c => absurd c (by decide)) (fun _ => ?_)
            refine Zw_aload_0 dX11_isWord_56 ?_
            refine Zw_iconst (v := 3) dX11_isWord_57 (by decide) ?_
            refine Zw_iload_4 dX11_isWord_58 ?_
            refine Zw_V2 (k := 1) lm_X11_165 dX11_isWord_60 (by decide) (by first | decide | assumption | omega) (by first | rfl | assumption) (by rfl) (Nat.le_of_ble_eq_true rfl) ?_
            refine s_mletter (j := 3) hB hS.1 (hS.2.2.1 (by omega) (by omega)) (by decide) hk1.2.2.2.2 hk1.2.2.2.1 (fun u3 => ?_) (fun u3 => ?_)
            · refine Zw_if_eq 112 dX11_isWord_63 (by decide) (fun c => absurd c (by decide)) (fun _ => ?_)
              refine Zw_aload_0 dX11_isWord_66 ?_
              refine Zw_iconst (v := 4) dX11_isWord_67 (by decide) ?_
              refine Zw_iload_5 dX11_isWord_68 ?_
              refine Zw_V2 (k := 1) lm_X11_165 dX11_isWord_70 (by decide) (by first | decide | assumption | omega) (by first | rfl | assumption) (by rfl) (Nat.le_of_ble_eq_true rfl) ?_
              refine s_mletter (j := 4) hB hS.1 (hS.2.2.1 (by omega) (by omega)) (by decide) hk1.2.2.2.2 hk1.2.2.2.1 (fun u4 => ?_) (fun u4 => ?_)
              · refine Zw_if_eq 112 dX11_isWord_73 (by decide) (fun c => absurd c (by decide)) (fun _ => ?_)
                refine Zw_aload_0 dX11_isWord_76 ?_
                refine Zw_iconst (v := 5) dX11_isWord_77 (by decide) ?_
                refine Zw_iload_6 dX11_isWord_78 ?_
                refine Zw_V2 (k := 1) lm_X11_165 dX11_isWord_80 (by decide) (by first | decide | assumption | omega) (by first | rfl | assumption) (by rfl) (Nat.le_of_ble_eq_true rfl) ?_
                refine s_mletter (j := 5) hB hS.1 (hS.2.2.1 (by omega) (by omega)) (by decide) hk1.2.2.2.2 hk1.2.2.2.1 (fun u5 => ?_) (fun u5 => ?_)
                · refine Zw_if_eq 112 dX11_isWord_83 (by decide) (fun c => absurd c (by decide)) (fun _ => ?_)
                  refine Zw_aload_0 dX11_isWord_86 ?_
                  refine Zw_bipush (v := 6) dX11_isWord_87 (by decide) ?_
                  refine Zw_iload_7 dX11_isWord_89 ?_
                  refine Zw_V2 (k := 1) lm_X11_165 dX11_isWord_91 (by decide) (by first | decide | assumption | omega) (by first | rfl | assumption) (by rfl) (Nat.le_of_ble_eq_true rfl) ?_
                  refine s_mletter (j := 6) hB hS.1 (hS.2.2.1 (by omega) (by omega)) (by decide) hk1.2.2.2.2 hk1.2.2.2.1 (fun u6 => ?_) (fun u6 => ?_)
                  · refine Zw_if_eq 112 dX11_isWord_94 (by decide) (fun c => absurd c (by decide)) (fun _ => ?_)
                    refine Zw_aload_0 dX11_isWord_97 ?_
                    refine Zw_bipush (v := 7) dX11_isWord_98 (by decide) ?_
                    refine Zw_iload_8 dX11_isWord_100 ?_
                    refine Zw_V2 (k := 1) lm_X11_165 dX11_isWord_102 (by decide) (by first | decide | assumption | omega) (by first | rfl | assumption) (by rfl) (Nat.le_of_ble_eq_true rfl) ?_
                    refine s_mletter (j := 7) hB hS.1 (hS.2.2.1 (by omega) (by omega)) (by decide) hk1.2.2.2.2 hk1.2.2.2.1 (fun u7 => ?_) (fun u7 => ?_)
                    · refine Zw_if_eq 112 dX11_isWord_105 (by decide) (fun c => absurd c (by decide)) (fun _ => ?_)
                      refine Zw_iconst (v := 1) dX11_isWord_108 (by decide) ?_
                      refine Zw_goto 113 dX11_isWord_109 (by decide) ?_
                      refine Zw_ireturn dX11_isWord_113 (by first | rfl | assumption) ?_
                      exact h1 ⟨by omega, (k_word_iff hw).mpr ((m_wm hw hall).mp ⟨by omega, fun j hj => by rw [← ha j hj]; match j, hj with | 0, _ => exact u0 | 1, _ => exact u1 | 2, _ => exact u2 | 3, _ => exact u3 | 4, _ => exact u4 | 5, _ => exact u5 | 6, _ => exact u6 | 7, _ => exact u7 | j + 8, hj => exact absurd hj (by omega)⟩)⟩
                    · refine Zw_if_eq 112 dX11_isWord_105 (by decide) (fun _ => ?_) (fun c => absurd c (by decide))
                      refine Zw_iconst (v := 0) dX11_isWord_112 (by decide) ?_
                      refine Zw_ireturn dX11_isWord_113 (by first | rfl | assumption) ?_
                      exact h0 (fun q => by have hz := ((m_wm hw hall).mpr ((k_word_iff hw).mp q.2)).2 7 (by decide); rw [← ha 7 (by decide)] at hz; exact u7 hz)
                  · refine Zw_if_eq 112 dX11_isWord_94 (by decide) (fun _ => ?_) (fun c => absurd c (by decide))
                    refine Zw_iconst (v := 0) dX11_isWord_112 (by decide) ?_
                    refine Zw_ireturn dX11_isWord_113 (by first | rfl | assumption) ?_
                    exact h0 (fun q => by have hz := ((m_wm hw hall).mpr ((k_word_iff hw).mp q.2)).2 6 (by decide); rw [← ha 6 (by decide)] at hz; exact u6 hz)
                · refine Zw_if_eq 112 dX11_isWord_83 (by decide) (fun _ => ?_) (fun c => absurd c (by decide))
                  refine Zw_iconst (v := 0) dX11_isWord_112 (by decide) ?_
                  refine Zw_ireturn dX11_isWord_113 (by first | rfl | assumption) ?_
                  exact h0 (fun q => by have hz := ((m_wm hw hall).mpr ((k_word_iff hw).mp q.2)).2 5 (by decide); rw [← ha 5 (by decide)] at hz; exact u5 hz)
              · refine Zw_if_eq 112 dX11_isWord_73 (by decide) (fun _ => ?_) (fun c => absurd c (by decide))
                refine Zw_iconst (v := 0) dX11_isWord_112 (by decide) ?_
                refine Zw_ireturn dX11_isWord_113 (by first | rfl | assumption) ?_
                exact h0 (fun q => by have hz := ((m_wm hw hall).mpr ((k_word_iff hw).mp q.2)).2 4 (by decide); rw [← ha 4 (by decide)] at hz; exact u4 hz)
            · refine Zw_if_eq 112 dX11_isWord_63 (by decide) (fun _ => ?_) (fun c => absurd c (by decide))
              refine Zw_iconst (v := 0) dX11_isWord_112 (by decide) ?_
              refine Zw_ireturn dX11_isWord_113 (by first | rfl | assumption) ?_
              exact h0 (fun q => by have hz := ((m_wm hw hall).mpr ((k_word_iff hw).mp q.2)).2 3 (by decide); rw [← ha 3 (by decide)] at hz; exact u3 hz)
          · refine Zw_if_eq 112 dX11_isWord_53 (by decide) (fun _ => ?_) (fun c => absurd c (by decide))
            refine Zw_iconst (v := 0) dX11_isWord_112 (by decide) ?_
            refine Zw_ireturn dX11_isWord_113 (by first | rfl | assumption) ?_
            exact h0 (fun q => by have hz := ((m_wm hw hall).mpr ((k_word_iff hw).mp q.2)).2 2 (by decide); rw [← ha 2 (by decide)] at hz; exact u2 hz)
        · refine Zw_if_eq 112 dX11_isWord_44 (by decide) (fun _ => ?_) (fun c => absurd c (by decide))
          refine Zw_iconst (v := 0) dX11_isWord_112 (by decide) ?_
          refine Zw_ireturn dX11_isWord_113 (by first | rfl | assumption) ?_
          exact h0 (fun q => by have hz := ((m_wm hw hall).mpr ((k_word_iff hw).mp q.2)).2 1 (by decide); rw [← ha 1 (by decide)] at hz; exact u1 hz)
      · refine Zw_if_eq 112 dX11_isWord_35 (by decide) (fun _ => ?_) (fun c => absurd c (by decide))
        refine Zw_iconst (v := 0) dX11_isWord_112 (by decide) ?_
        refine Zw_ireturn dX11_isWord_113 (by first | rfl | assumption) ?_
        exact h0 (fun q => by have hz := ((m_wm hw hall).mpr ((k_word_iff hw).mp q.2)).2 0 (by decide); rw [← ha 0 (by decide)] at hz; exact u0 hz)
