theorem k_wt_inj {r w : Nat} (hw : w < 6) (h : k_wt r = k_wt w) : r = w := by
  unfold k_wt at h
  by_cases h1 : r < 3
  · rw [if_pos h1] at h
    by_cases h2 : w < 3
    · rw [if_pos h2] at h; omega
    · rw [if_neg h2, if_pos hw] at h; omega
  · rw [if_neg h1] at h
    by_cases h2 : w < 3
    · rw [if_pos h2] at h
      by_cases h3 : r < 6
      · rw [if_pos h3] at h; omega
      · rw [if_neg h3] at h
        by_cases h4 : r < 12
        · rw [if_pos h4] at h; omega
        · rw [if_neg h4] at h; omega
    · rw [if_neg h2, if_pos hw] at h
      by_cases h3 : r < 6
      · rw [if_pos h3] at h; omega
      · rw [if_neg h3] at h
        by_cases h4 : r < 12
        · rw [if_pos h4] at h; omega
        · rw [if_neg h4] at h; omega
theorem mw_let {b : Nat → Int32} {n pos : Nat} (h : m_kd b n (k_pl b n pos) = 1) : k_tok b n pos = k_wt (k_word b (k_pl b n pos) (k_nx b n pos)) ∧ k_val b n pos = nI (k_word b (k_pl b n pos) (k_nx b n pos) - 6) := by
  have h1 := m_kd1 h
  constructor
  · rw [k_tok, k_tokP, if_neg (by omega), if_pos h1.2.1, h1.2.2]
  · rw [k_val, k_valP, if_pos h1.2.1, h1.2.2]
/-- the kinds of the reference's tokens by the class's -/
theorem m_kd_of (b : Nat → Int32) (n pos : Nat) : (m_kd b n (k_pl b n pos) = 0 ∧ k_tok b n pos = 18) ∨ (m_kd b n (k_pl b n pos) = 1 ∧ (k_tok b n pos = 13 ∨ k_tok b n pos = 14 ∨ k_tok b n pos = 15 ∨ k_tok b n pos = 1 ∨ k_tok b n pos = 2 ∨ k_tok b n pos = 3 ∨ k_tok b n pos = 17 ∨ k_tok b n pos = 19)) ∨ (m_kd b n (k_pl b n pos) = 2 ∧ k_tok b n pos = 16) ∨ (m_kd b n (k_pl b n pos) = 3 ∧ k_tok b n pos = k_sgn (b (k_pl b n pos)) ∧ k_tok b n pos ≠ 19) ∨ (m_kd b n (k_pl b n pos) = 4 ∧ k_tok b n pos = 19) := by
  unfold k_tok m_kd k_tokP
  by_cases h1 : n ≤ k_pl b n pos
  · rw [if_pos h1, if_pos h1]; omega
  · rw [if_neg h1, if_neg h1]
    by_cases h2 : k_let (b (k_pl b n pos)) = true
    · rw [if_pos h2, if_pos h2]
      have := k_wt_in (k_word b (k_pl b n pos) (k_end k_let b n (k_pl b n pos)))
      omega
    · rw [if_neg h2, if_neg h2]
      by_cases h3 : k_dig (b (k_pl b n pos)) = true
      · rw [if_pos h3, if_pos h3]
        split <;> omega
      · rw [if_neg h3, if_neg h3]
        by_cases h4 : k_sgn (b (k_pl b n pos)) = 19
        · rw [if_pos h4]; omega
        · rw [if_neg h4]; omega
theorem mw_tok {b : Nat → Int32} {n pos w : Nat} (hw : w < 6) : m_isw b n pos w ↔ k_tok b n pos = k_wt w := by
  constructor
  · rintro ⟨h1, h2⟩
    rw [(mw_let h1).1, h2]
  · intro h
    have hk := m_kd_of b n pos
    have hs := k_sgn_ne (b (k_pl b n pos))
    have hww : k_wt w = 13 ∨ k_wt w = 14 ∨ k_wt w = 15 ∨ k_wt w = 1 ∨ k_wt w = 2 ∨ k_wt w = 3 := by
      unfold k_wt
      split
      · omega
      · first | omega | (split <;> omega)
    have h1 : m_kd b n (k_pl b n pos) = 1 := by omega
    refine ⟨h1, ?_⟩
    rw [(mw_let h1).1] at h
    exact k_wt_inj hw h
theorem mw_name {b : Nat → Int32} {n pos w : Nat} (h6 : 6 ≤ w) (hw : w < 12) : m_isw b n pos w ↔ k_tok b n pos = 17 ∧ k_val b n pos = nI (w - 6) := by
  constructor
  · rintro ⟨h1, h2⟩
    have := mw_let h1
    rw [h2] at this
    refine ⟨?_, this.2⟩
    rw [this.1, k_wt, if_neg (by omega), if_neg (by omega), if_pos hw]
  · rintro ⟨h, hv⟩
    have hk := m_kd_of b n pos
    have hs := k_sgn_ne (b (k_pl b n pos))
    have h1 : m_kd b n (k_pl b n pos) = 1 := by omega
    have hl := mw_let h1
    have hr := k_wt_nm (r := k_word b (k_pl b n pos) (k_nx b n pos)) (Or.inr (hl.1.symm.trans h))
    refine ⟨h1, ?_⟩
    rw [hl.2] at hv
    have := (nI_eq (a := k_word b (k_pl b n pos) (k_nx b n pos) - 6) (b := w - 6) (by omega) (by omega)).mp hv
    omega
theorem mw_name_ex {b : Nat → Int32} {n pos : Nat} (h : k_tok b n pos = 17) : ∃ w, 6 ≤ w ∧ w < 12 ∧ m_isw b n pos w := by
  have hk := m_kd_of b n pos
  have hs := k_sgn_ne (b (k_pl b n pos))
  have h1 : m_kd b n (k_pl b n pos) = 1 := by omega
  have hl := mw_let h1
  have hr := k_wt_nm (r := k_word b (k_pl b n pos) (k_nx b n pos)) (Or.inr (hl.1.symm.trans h))
  exact ⟨_, hr.1, hr.2, h1, rfl⟩
def mI (fr n l : Nat) (b nm : Nat → Int32) (μ : zMu) (τ : Int64) (pos : Nat) : Prop := mB fr n b μ ∧ pos ≤ n ∧ (∀ j, j < 6 → μ 61 (12 + j) = nm j) ∧ μ 61 24 = nI l ∧ μ 61 25 = 0 ∧ mS b n μ τ pos
def mX (μ μ2 : zMu) (f : Nat) : Prop := mOff μ μ2 ∧ μ2 61 25 = 1 ∧ μ2 61 26 = nI f
theorem mX.tr {a b c : zMu} {f : Nat} (h : mOff a b) (hx : mX b c f) : mX a c f := ⟨h.tr hx.1, hx.2⟩
theorem mX.of {a : zMu} {p : Nat} : mX a (zup (zup a 61 25 1) 61 26 (nI p)) p := ⟨((mOff.refl a).up (by omega)).up (by omega), rfl, rfl⟩
theorem mX.dec {a b : zMu} {f : Nat} {x : Int32} (h : mX a b f) : mX a (zup b 61 24 x) f := ⟨h.1.up (by omega), h.2.1, h.2.2⟩
theorem mI.nx {fr n l pos q : Nat} {b nm : Nat → Int32} {μ μ2 : zMu} {τ τ2 : Int64} (h : mI fr n l b nm μ τ pos) (ho : mOn μ μ2) (hq : q ≤ n) (hS : mS b n μ2 τ2 q) : mI fr n l b nm μ2 τ2 q := by
  obtain ⟨h1, h2, h3, h4, h5, h6⟩ := h
  refine ⟨h1.off ho.off, hq, fun j hj => ?_, ?_, ?_, hS⟩
  · rw [ho.2 (12 + j) (by omega) (by omega) (by omega)]; exact h3 j hj
  · rw [ho.2 24 (by decide) (by decide) (by decide)]; exact h4
  · rw [ho.2 25 (by decide) (by decide) (by decide)]; exact h5
theorem mI.lv {fr n l l' pos : Nat} {b nm : Nat → Int32} {μ : zMu} {τ : Int64} {x : Int32} (h : mI fr n l b nm μ τ pos) (hx : x = nI l') : mI fr n l' b nm (zup μ 61 24 x) τ pos := by
  subst hx
  obtain ⟨h1, h2, h3, h4, h5, h6⟩ := h
  refine ⟨h1.off ((mOff.refl μ).up (by omega)), h2, fun j hj => ?_, rfl, h5, h6⟩
  rw [zup_eq]
  rw [show upd (μ 61) 24 (nI l') (12 + j) = μ 61 (12 + j) from if_neg (by omega)]
  exact h3 j hj
theorem s_nx {fr n l pos : Nat} {b nm : Nat → Int32} {Q : zQ} {μ : zMu} {τ : Int64} (hI : mI fr n l b nm μ τ pos) (h18 : k_tok b n pos ≠ 18) (h19 : k_tok b n pos ≠ 19) (h : ∀ μ2 τ2, mOff μ μ2 → mI fr n l b nm μ2 τ2 (k_nx b n pos) → Q none μ2 τ2) : Zc 1 yX11_next cX11_next 3 none [.ref 61] μ τ Q := by
  have hk := m_kd_of b n pos
  refine s_mnext hI.1 (hI.2.2.2.2.2.2.2.1 (by omega) (by omega)) (k_nx_le hI.2.1) (fun μ2 τ2 o1 o2 => ?_)
  exact h μ2 τ2 o1.off (hI.nx o1 (k_nx_le hI.2.1) o2)
set_option maxRecDepth 20000 in
theorem s_opens5 {fr n pos : Nat} {b nm : Nat → Int32} {Q : zQ} {μ : zMu} {τ : Int64} (hI : mI fr n 5 b nm μ τ pos) (h : ∀ μ2, mX μ μ2 (k_pl b n pos) → Q (some (.int 0)) μ2 τ) : Zc 2 yX11_opens cX11_opens 1 (some .boolean) [.ref 61] μ τ Q := by
  refine Zc.mk 0 [.ref 61] rfl (by decide) (Nat.le_of_ble_eq_true rfl) ?_
  refine Zw_aload_0 dX11_opens_0 ?_
  refine Zw_getv (5) lf_X11_168 dX11_opens_1 (by first | decide | assumption | omega) (by first | rfl | assumption) (by rfl) hI.2.2.2.1 ?_
  refine Zw_iconst (v := 5) dX11_opens_4 (by decide) ?_
  refine Zw_icmp_ne 14 dX11_opens_5 (by decide) (fun c => absurd c (by decide)) (fun _ => ?_)
  refine Zw_aload_0 dX11_opens_8 ?_
  refine Zw_V0 (k := 0) lm_X11_171 dX11_opens_9 (by decide) (by first | decide | assumption | omega) (by first | rfl | assumption) (by rfl) (Nat.le_of_ble_eq_true rfl) ?_
  refine s_fail0 hI.2.2.2.2.1 hI.2.2.2.2.2.1 ?_
  refine Zw_iconst (v := 0) dX11_opens_12 (by decide) ?_
  refine Zw_ireturn dX11_opens_13 (by first | rfl | assumption) ?_
  exact h _ mX.of
set_option maxRecDepth 20000 in
theorem s_opens {fr n l pos : Nat} {b nm : Nat → Int32} {Q : zQ} {μ : zMu} {τ : Int64} (hl : l < 5) (hI : mI fr n l b nm μ τ pos) (h18 : k_tok b n pos ≠ 18) (h19 : k_tok b n pos ≠ 19) (h : ∀ μ2 τ2, mOff μ μ2 → mI fr n (l + 1) b nm μ2 τ2 (k_nx b n pos) → Q (some (.int 1)) μ2 τ2) : Zc 2 yX11_opens cX11_opens 1 (some .boolean) [.ref 61] μ τ Q := by
  refine Zc.mk 0 [.ref 61] rfl (by decide) (Nat.le_of_ble_eq_true rfl) ?_
  refine Zw_aload_0 dX11_opens_0 ?_
  refine Zw_getv (nI l) lf_X11_168 dX11_opens_1 (by first | decide | assumption | omega) (by first | rfl | assumption) (by rfl) hI.2.2.2.1 ?_
  refine Zw_iconst (v := 5) dX11_opens_4 (by decide) ?_
  refine Zw_icmp_ne 14 dX11_opens_5 (by decide) (fun c5 => ?_) (fun c5 => absurd c5 (fun e => absurd ((zeq (N := 5) rfl (by decide) (by omega)).mp e) (by omega)))
  refine Zw_aload_0 dX11_opens_14 ?_
  refine Zw_dup dX11_opens_15 rfl ?_
  refine Zw_getv (nI l) lf_X11_168 dX11_opens_16 (by first | decide | assumption | omega) (by first | rfl | assumption) (by rfl) hI.2.2.2.1 ?_
  refine Zw_iconst (v := 1) dX11_opens_19 (by decide) ?_
  refine Zw_nadd (l) (1) dX11_opens_20 rfl rfl ?_
  refine Zw_put lp_X11_168 dX11_opens_21 (by first | decide | assumption | omega) (by first | rfl | assumption) (by rfl) (by first | rfl | assumption) (by first | rfl | assumption) ?_
  refine Zw_aload_0 dX11_opens_24 ?_
  refine Zw_V0 (k := 1) lm_X11_174 dX11_opens_25 (by decide) (by first | decide | assumption | omega) (by first | rfl | assumption) (by rfl) (Nat.le_of_ble_eq_true rfl) ?_
  refine s_nx (mI.lv hI rfl) h18 h19 (fun μ2 τ2 o1 o2 => ?_)
  refine Zw_iconst (v := 1) dX11_opens_28 (by decide) ?_
  refine Zw_ireturn dX11_opens_29 (by first | rfl | assumption) ?_
  exact h μ2 τ2 (((mOff.refl μ).up (by omega)).tr o1) o2
set_option maxRecDepth 20000 in
theorem s_name {fr n l pos : Nat} {b nm : Nat → Int32} {Q : zQ} {μ : zMu} {τ : Int64} (hI : mI fr n l b nm μ τ pos) (hF : k_tok b n pos ≠ 17 → Q (some (.int 0)) (zup (zup μ 61 25 1) 61 26 (nI (k_pl b n pos))) τ) (hD : ∀ j, j < 6 → k_tok b n pos = 17 → k_val b n pos = nI j → Q (some (.int (nm j))) μ τ) : Zc 3 yX11_name cX11_name 1 (some .int) [.ref 61] μ τ Q := by
  refine Zc.mk 0 [.ref 61] rfl (by decide) (Nat.le_of_ble_eq_true rfl) ?_
  refine Zw_aload_0 dX11_name_0 ?_
  refine Zw_bipush (v := 112) dX11_name_1 (by decide) ?_
  refine Zw_bipush (v := 108) dX11_name_3 (by decide) ?_
  refine Zw_bipush (v := 97) dX11_name_5 (by decide) ?_
  refine Zw_bipush (v := 99) dX11_name_7 (by decide) ?_
  refine Zw_bipush (v := 101) dX11_name_9 (by decide) ?_
  refine Zw_iconst (v := 0) dX11_name_11 (by decide) ?_
  refine Zw_iconst (v := 0) dX11_name_12 (by decide) ?_
  refine Zw_iconst (v := 0) dX11_name_13 (by decide) ?_
  refine Zw_V8 (k := 2) lm_X11_177 dX11_name_14 (by decide) (by first | decide | assumption | omega) (by first | rfl | assumption) (by rfl) (Nat.le_of_ble_eq_true rfl) ?_
  refine s_word (w := 6) hI.1 hI.2.1 hI.2.2.2.2.1 hI.2.2.2.2.2 (by decide) (by decide +kernel) (fun u6 => ?_) (fun u6 => ?_)
  · refine Zw_if_eq 25 dX11_name_17 (by decide) (fun c => absurd c (by decide)) (fun _ => ?_)
    refine Zw_aload_0 dX11_name_20 ?_
    refine Zw_getv (nm 0) lf_X11_181 dX11_name_21 (by first | decide | assumption | omega) (by first | rfl | assumption) (by rfl) (hI.2.2.1 0 (by decide)) ?_
    refine Zw_ireturn dX11_name_24 (by first | rfl | assumption) ?_
    have hq := (mw_name (by decide) (by decide)).mp u6
    have hz := hD 0 (by decide) hq.1 hq.2
    exact hz
  · refine Zw_if_eq 25 dX11_name_17 (by decide) (fun _ => ?_) (fun c => absurd c (by decide))
    refine Zw_aload_0 dX11_name_25 ?_
    refine Zw_bipush (v := 116) dX11_name_26 (by decide) ?_
    refine Zw_bipush (v := 111) dX11_name_28 (by decide) ?_
    refine Zw_iconst (v := 0) dX11_name_30 (by decide) ?_
    refine Zw_iconst (v := 0) dX11_name_31 (by decide) ?_
    refine Zw_iconst (v := 0) dX11_name_32 (by decide) ?_
    refine Zw_iconst (v := 0) dX11_name_33 (by decide) ?_
    refine Zw_iconst (v := 0) dX11_name_34 (by decide) ?_
    refine Zw_iconst (v := 0) dX11_name_35 (by decide) ?_
    refine Zw_V8 (k := 2) lm_X11_177 dX11_name_36 (by decide) (by first | decide | assumption | omega) (by first | rfl | assumption) (by rfl) (Nat.le_of_ble_eq_true rfl) ?_
    refine s_word (w := 7) hI.1 hI.2.1 hI.2.2.2.2.1 hI.2.2.2.2.2 (by decide) (by decide +kernel) (fun u7 => ?_) (fun u7 => ?_)
    · refine Zw_if_eq 47 dX11_name_39 (by decide) (fun c => absurd c (by decide)) (fun _ => ?_)
      refine Zw_aload_0 dX11_name_42 ?_
      refine Zw_getv (nm 1) lf_X11_184 dX11_name_43 (by first | decide | assumption | omega) (by first | rfl | assumption) (by rfl) (hI.2.2.1 1 (by decide)) ?_
      refine Zw_ireturn dX11_name_46 (by first | rfl | assumption) ?_
      have hq := (mw_name (by decide) (by decide)).mp u7
      have hz := hD 1 (by decide) hq.1 hq.2
      exact hz
    · refine Zw_if_eq 47 dX11_name_39 (by decide) (fun _ => ?_) (fun c => absurd c (by decide))
      refine Zw_aload_0 dX11_name_47 ?_
      refine Zw_bipush (v := 119) dX11_name_48 (by decide) ?_
      refine Zw_bipush (v := 101) dX11_name_50 (by decide) ?_
      refine Zw_bipush (v := 101) dX11_name_52 (by decide) ?_
      refine Zw_bipush (v := 107) dX11_name_54 (by decide) ?_
      refine Zw_iconst (v := 0) dX11_name_56 (by decide) ?_
      refine Zw_iconst (v := 0) dX11_name_57 (by decide) ?_
      refine Zw_iconst (v := 0) dX11_name_58 (by decide) ?_
      refine Zw_iconst (v := 0) dX11_name_59 (by decide) ?_
      refine Zw_V8 (k := 2) lm_X11_177 dX11_name_60 (by decide) (by first | decide | assumption | omega) (by first | rfl | assumption) (by rfl) (Nat.le_of_ble_eq_true rfl) ?_
      refine s_word (w := 8) hI.1 hI.2.1 hI.2.2.2.2.1 hI.2.2.2.2.2 (by decide) (by decide +kernel) (fun u8 => ?_) (fun u8 => ?_)
      · refine Zw_if_eq 71 dX11_name_63 (by decide) (fun c => absurd c (by decide)) (fun _ => ?_)
        refine Zw_aload_0 dX11_name_66 ?_
        refine Zw_getv (nm 2) lf_X11_187 dX11_name_67 (by first | decide | assumption | omega) (by first | rfl | assumption) (by rfl) (hI.2.2.1 2 (by decide)) ?_
        refine Zw_ireturn dX11_name_70 (by first | rfl | assumption) ?_
        have hq := (mw_name (by decide) (by decide)).mp u8
        have hz := hD 2 (by decide) hq.1 hq.2
        exact hz
      · refine Zw_if_eq 71 dX11_name_63 (by decide) (fun _ => ?_) (fun c => absurd c (by decide))
        refine Zw_aload_0 dX11_name_71 ?_
        refine Zw_bipush (v := 110) dX11_name_72 (by decide) ?_
        refine Zw_bipush (v := 117) dX11_name_74 (by decide) ?_
        refine Zw_bipush (v := 109) dX11_name_76 (by decide) ?_
        refine Zw_bipush (v := 98) dX11_name_78 (by decide) ?_
        refine Zw_bipush (v := 101) dX11_name_80 (by decide) ?_
        refine Zw_bipush (v := 114) dX11_name_82 (by decide) ?_
        refine Zw_iconst (v := 0) dX11_name_84 (by decide) ?_
        refine Zw_iconst (v := 0) dX11_name_85 (by decide) ?_
        refine Zw_V8 (k := 2) lm_X11_177 dX11_name_86 (by decide) (by first | decide | assumption | omega) (by first | rfl | assumption) (by rfl) (Nat.le_of_ble_eq_true rfl) ?_
        refine s_word (w := 9) hI.1 hI.2.1 hI.2.2.2.2.1 hI.2.2.2.2.2 (by decide) (by decide +kernel) (fun u9 => ?_) (fun u9 => ?_)
        · refine Zw_if_eq 97 dX11_name_89 (by decide) (fun c => absurd c (by decide)) (fun _ => ?_)
          refine Zw_aload_0 dX11_name_92 ?_
          refine Zw_getv (nm 3) lf_X11_190 dX11_name_93 (by first | decide | assumption | omega) (by first | rfl | assumption) (by rfl) (hI.2.2.1 3 (by decide)) ?_
          refine Zw_ireturn dX11_name_96 (by first | rfl | assumption) ?_
          have hq := (mw_name (by decide) (by decide)).mp u9
          have hz := hD 3 (by decide) hq.1 hq.2
          exact hz
        · refine Zw_if_eq 97 dX11_name_89 (by decide) (fun _ => ?_) (fun c => absurd c (by decide))
          refine Zw_aload_0 dX11_name_97 ?_
          refine Zw_bipush (v := 119) dX11_name_98 (by decide) ?_
          refine Zw_bipush (v := 97) dX11_name_100 (by decide) ?_
          refine Zw_bipush (v := 121) dX11_name_102 (by decide) ?_
          refine Zw_bipush (v := 115) dX11_name_104 (by decide) ?_
          refine Zw_iconst (v := 0) dX11_name_106 (by decide) ?_
          refine Zw_iconst (v := 0) dX11_name_107 (by decide) ?_
          refine Zw_iconst (v := 0) dX11_name_108 (by decide) ?_
          refine Zw_iconst (v := 0) dX11_name_109 (by decide) ?_
          refine Zw_V8 (k := 2) lm_X11_177 dX11_name_110 (by decide) (by first | decide | assumption | omega) (by first | rfl | assumption) (by rfl) (Nat.le_of_ble_eq_true rfl) ?_
          refine s_word (w := 10) hI.1 hI.2.1 hI.2.2.2.2.1 hI.2.2.2.2.2 (by decide) (by decide +kernel) (fun u10 => ?_) (fun u10 => ?_)
          · refine Zw_if_eq 121 dX11_name_113 (by decide) (fun c => absurd c (by decide)) (fun _ => ?_)
            refine Zw_aload_0 dX11_name_116 ?_
            refine Zw_getv (nm 4) lf_X11_193 dX11_name_117 (by first | decide | assumption | omega) (by first | rfl | assumption) (by rfl) (hI.2.2.1 4 (by decide)) ?_
            refine Zw_ireturn dX11_name_120 (by first | rfl | assumption) ?_
            have hq := (mw_name (by decide) (by decide)).mp u10
            have hz := hD 4 (by decide) hq.1 hq.2
            exact hz
          · refine Zw_if_eq 121 dX11_name_113 (by decide) (fun _ => ?_) (fun c => absurd c (by decide))
            refine Zw_aload_0 dX11_name_121 ?_
            refine Zw_bipush (v := 112) dX11_name_122 (by decide) ?_
            refine Zw_bipush (v := 111) dX11_name_124 (by decide) ?_
            refine Zw_bipush (v := 115) dX11_name_126 (by decide) ?_
            refine Zw_bipush (v := 101) dX11_name_128 (by decide) ?_
            refine Zw_iconst (v := 0) dX11_name_130 (by decide) ?_
            refine Zw_iconst (v := 0) dX11_name_131 (by decide) ?_
            refine Zw_iconst (v := 0) dX11_name_132 (by decide) ?_
            refine Zw_iconst (v := 0) dX11_name_133 (by decide) ?_
            refine Zw_V8 (k := 2) lm_X11_177 dX11_name_134 (by decide) (by first | decide | assumption | omega) (by first | rfl | assumption) (by rfl) (Nat.le_of_ble_eq_true rfl) ?_
            refine s_word (w := 11) hI.1 hI.2.1 hI.2.2.2.2.1 hI.2.2.2.2.2 (by decide) (by decide +kernel) (fun u11 => ?_) (fun u11 => ?_)
            · refine Zw_if_eq 145 dX11_name_137 (by decide) (fun c => absurd c (by decide)) (fun _ => ?_)
              refine Zw_aload_0 dX11_name_140 ?_
              refine Zw_getv (nm 5) lf_X11_196 dX11_name_141 (by first | decide | assumption | omega) (by first | rfl | assumption) (by rfl) (hI.2.2.1 5 (by decide)) ?_
              refine Zw_ireturn dX11_name_144 (by first | rfl | assumption) ?_
              have hq := (mw_name (by decide) (by decide)).mp u11
              have hz := hD 5 (by decide) hq.1 hq.2
              exact hz
            · refine Zw_if_eq 145 dX11_name_137 (by decide) (fun _ => ?_) (fun c => absurd c (by decide))
              refine Zw_aload_0 dX11_name_145 ?_
              refine Zw_V0 (k := 0) lm_X11_171 dX11_name_146 (by decide) (by first | decide | assumption | omega) (by first | rfl | assumption) (by rfl) (Nat.le_of_ble_eq_true rfl) ?_
              refine s_fail0 hI.2.2.2.2.1 hI.2.2.2.2.2.1 ?_
              refine Zw_iconst (v := 0) dX11_name_149 (by decide) ?_
              refine Zw_ireturn dX11_name_150 (by first | rfl | assumption) ?_
              refine hF (fun q => ?_)
              obtain ⟨v, v1, v2, v3⟩ := mw_name_ex q
              match v, v1, v2, v3 with
              | 6, _, _, v3 => exact u6 v3
              | 7, _, _, v3 => exact u7 v3
              | 8, _, _, v3 => exact u8 v3
              | 9, _, _, v3 => exact u9 v3
              | 10, _, _, v3 => exact u10 v3
              | 11, _, _, v3 => exact u11 v3
              | v + 12, _, h12, _ => exact absurd h12 (by omega)
