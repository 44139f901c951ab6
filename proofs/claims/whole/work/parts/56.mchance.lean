set_option maxRecDepth 20000 in
theorem s_goesBy {C : mC} {w m0 p : Nat} {z : Int32} {Q : zQ} {μ : zMu} {τ : Int64} (hc0 : m_cx C w μ) (hw9 : w ≤ 999) (hm40 : m0 ≤ 40) (dk : μ 65 2 = nI p) (hp : p < 8) (h : ∀ μ2 τ2, nOff [130] μ μ2 → μ2 61 30 = (if (m_gb C m0 z w p false).2 = true then 1 else 0) → Q (some (.int (nI (m_gb C m0 z w p false).1))) μ2 τ2) : Zc 45 yX11_goesBy cX11_goesBy 7 (some .int) [.ref 61, .int z, .int (nI m0)] μ τ Q := by
  refine Zc.mk 4 [.ref 61, .int z, .int (nI m0), .null, .null, .null, .null] rfl (by decide) (Nat.le_of_ble_eq_true rfl) ?_
  refine Zw_aload_0 dX11_goesBy_0 ?_
  refine Zw_getr 65 lf_X11_23 dX11_goesBy_1 (by first | decide | assumption | omega) (by first | rfl | assumption) (by rfl) ?_
  refine Zw_iconst (v := 0) dX11_goesBy_4 (by decide) ?_
  refine Zw_ialdnv (0) (nI w) dX11_goesBy_5 (by first | decide | assumption | omega) (by first | rfl | assumption) rfl (by omega) (by decide) hc0.n5.2.2.1 ?_
  refine Zw_istore_3 dX11_goesBy_6 rfl ?_
  refine Zw_aload_0 dX11_goesBy_7 ?_
  refine Zw_getr 65 lf_X11_23 dX11_goesBy_8 (by first | decide | assumption | omega) (by first | rfl | assumption) (by rfl) ?_
  refine Zw_iconst (v := 2) dX11_goesBy_11 (by decide) ?_
  refine Zw_ialdnv (2) (nI p) dX11_goesBy_12 (by first | decide | assumption | omega) (by first | rfl | assumption) rfl (by omega) (by decide) dk ?_
  refine Zw_istore_4 dX11_goesBy_13 rfl ?_
  refine Zw_iload_1 dX11_goesBy_15 ?_
  refine Zw_istore_5 dX11_goesBy_16 rfl ?_
  refine Zw_aload_0 dX11_goesBy_18 ?_
  refine Zw_iconst (v := 0) dX11_goesBy_19 (by decide) ?_
  refine Zw_put lp_X11_400 dX11_goesBy_20 (by first | decide | assumption | omega) (by first | rfl | assumption) (by rfl) (by first | rfl | assumption) (by first | rfl | assumption) ?_
  refine Zw_iconst (v := 0) dX11_goesBy_23 (by decide) ?_
  refine Zw_istore_6 dX11_goesBy_24 rfl ?_
  exact l_gb hc0 hw9 hm40 h (m0 + 1) 0 z w p false _ _ (by omega) (by omega) hp rfl ((nW.refl _ _).fld (Or.inr ⟨rfl, by simp⟩)) (by rw [zup_ne (by decide)]; exact hc0.n5.2.2.1) (by rw [zup_at, if_pos ⟨rfl, rfl⟩]; rfl) rfl
set_option maxRecDepth 20000 in
theorem s_mdrawnB {z m : Int32} {Q : zQ} {μ : zMu} {τ : Int64} (hbad : ¬ vp_in m 41) (h : Q (some (.int (-2))) μ τ) : Zc 46 yX11_drawn cX11_drawn 3 (some .int) [.ref 61, .int z, .int m] μ τ Q := by
  refine Zc.mk 0 [.ref 61, .int z, .int m] rfl (by decide) (Nat.le_of_ble_eq_true rfl) ?_
  refine Zw_iload_2 dX11_drawn_0 ?_
  refine Zw_i2l dX11_drawn_1 ?_
  refine Zw_lconst (v := 0) dX11_drawn_2 (by decide) ?_
  refine Zw_ldc2 dX11_drawn_3 zw20 ?_
  refine Zw_S3 (k := 0) lm_X11_76 dX11_drawn_6 (by decide) (Nat.le_of_ble_eq_true rfl) ?_
  refine s_in0 41 (by decide) (fun a0 => absurd a0 hbad) (fun _ => ?_)
  refine Zw_if_eq 21 dX11_drawn_9 (by decide) (fun _ => ?_) (fun c => absurd c (by decide))
  refine Zw_bipush (v := (-2)) dX11_drawn_21 (by decide) ?_
  refine Zw_ireturn dX11_drawn_23 (by first | rfl | assumption) ?_
  exact h
set_option maxRecDepth 20000 in
theorem s_mdrawn {C : mC} {w m0 p : Nat} {z : Int32} {Q : zQ} {μ : zMu} {τ : Int64} (hc0 : m_cx C w μ) (hw9 : w ≤ 999) (hm40 : m0 ≤ 40) (dk : μ 65 2 = nI p) (hp : p < 8) (h : ∀ μ2 τ2, nOff [130] μ μ2 → Q (some (.int (nI (q_dgo C.1 C.2.1 C.2.2.1 m0 z w p)))) μ2 τ2) : Zc 46 yX11_drawn cX11_drawn 3 (some .int) [.ref 61, .int z, .int (nI m0)] μ τ Q := by
  refine Zc.mk 0 [.ref 61, .int z, .int (nI m0)] rfl (by decide) (Nat.le_of_ble_eq_true rfl) ?_
  refine Zw_iload_2 dX11_drawn_0 ?_
  refine Zw_i2l dX11_drawn_1 ?_
  refine Zw_lconst (v := 0) dX11_drawn_2 (by decide) ?_
  refine Zw_ldc2 dX11_drawn_3 zw20 ?_
  refine Zw_S3 (k := 0) lm_X11_76 dX11_drawn_6 (by decide) (Nat.le_of_ble_eq_true rfl) ?_
  refine s_in0 41 (by decide) (fun _ => ?_) (fun a0 => absurd (vp_in_nI (by omega) (by omega)) a0)
  refine Zw_if_eq 21 dX11_drawn_9 (by decide) (fun c => absurd c (by decide)) (fun _ => ?_)
  refine Zw_aload_0 dX11_drawn_12 ?_
  refine Zw_iload_1 dX11_drawn_13 ?_
  refine Zw_iload_2 dX11_drawn_14 ?_
  refine Zw_V2 (k := 45) lm_X11_403 dX11_drawn_15 (by decide) (by first | decide | assumption | omega) (by first | rfl | assumption) (by rfl) (Nat.le_of_ble_eq_true rfl) ?_
  refine s_goesBy hc0 hw9 hm40 dk hp (fun μ2 τ2 o2 _ => ?_)
  refine Zw_goto 23 dX11_drawn_18 (by decide) ?_
  refine Zw_ireturn dX11_drawn_23 (by first | rfl | assumption) ?_
  rw [m_gb_1]
  exact h _ _ o2
def m_gc : Nat → Nat → Nat → Nat
  | 0, p, _ => p
  | f + 1, p, q => if q = 0 then p else m_gc f q (p % q)
theorem m_gc_s (f p q : Nat) : m_gc (f + 1) p q = if q = 0 then p else m_gc f q (p % q) := rfl
theorem m_gc_cd : ∀ m, m ≤ 20 → ∀ a, a ≤ 20 → m ≠ 0 → m_gc (m + 1) a m = q_cd a m m := by decide +kernel
theorem nL_add : ∀ a, a ≤ 20 → (nI a).toInt64 + 1 = (nI (a + 1)).toInt64 := by decide +kernel
theorem nL_div : ∀ a, a ≤ 20 → ∀ b, b ≤ 20 → b ≠ 0 → (nI a).toInt64 / (nI b).toInt64 = (nI (a / b)).toInt64 := by decide +kernel
theorem nL_mod : ∀ a, a ≤ 20 → ∀ b, b ≤ 20 → b ≠ 0 → (nI a).toInt64 - (nI a).toInt64 / (nI b).toInt64 * (nI b).toInt64 = (nI (a % b)).toInt64 := by decide +kernel
theorem nL_0 : ∀ a, a ≤ 20 → (nI a).toInt64 = 0 → a = 0 := by decide +kernel
set_option maxRecDepth 20000 in
theorem l_mgc0 {Q : zQ} {μ : zMu} {τ : Int64} {z : Int32} {m0 a R : Nat} {v6 : Value} (ha : a ≤ 20) (hm : m0 ≤ 20) (hR : R ≠ 0) (h : Q (some (.long (nI (a / R)).toInt64)) μ τ) : ∀ f p q, q < f → p ≤ 20 → q ≤ 20 → m_gc f p q = R → Zw 46 RX11 cX11_chance 12 (some .long) Q 80 [.ref 61, .int z, .int (nI m0), .int 0, .long (nI a).toInt64, .null, .long (nI p).toInt64, .null, .long (nI q).toInt64, .null, .null, .null] [] μ τ
  | 0, _, _, hf, _, _, _ => absurd hf (by omega)
  | f + 1, p, q, hf, hp, hq, hV => by
    refine Zw_lload_8 dX11_chance_80 ?_
    refine Zw_lconst (v := 0) dX11_chance_82 (by decide) ?_
    refine Zw_lcmp dX11_chance_83 ?_
    refine Zw_if_eq 105 dX11_chance_84 (by decide) (fun c84 => ?_) (fun c84 => ?_)
    · have hq0 : q = 0 := nL_0 q hq ((lg_e _ _).mp c84)
      rw [m_gc_s, if_pos hq0] at hV
      subst hV
      have hne : ¬ (nI p).toInt64 = 0 := fun e => hR (nL_0 p hp e)
      refine Zw_iload_3 dX11_chance_105 ?_
      refine Zw_if_ne 117 dX11_chance_106 (by decide) (fun c => absurd c (by decide)) (fun _ => ?_)
      refine Zw_lload_4 dX11_chance_109 ?_
      refine Zw_lload_6 dX11_chance_111 ?_
      refine Zw_ldiv dX11_chance_113 (by first | decide | assumption) ?_
      refine Zw_goto 122 dX11_chance_114 (by decide) ?_
      refine Zw_lreturn dX11_chance_122 ?_
      rw [nL_div a ha p hp hR]
      exact h
    · refine Zw_lload_6 dX11_chance_87 ?_
      refine Zw_lload_8 dX11_chance_89 ?_
      have hq0 : ¬ q = 0 := fun e => c84 (by rw [e]; decide)
      have hne : ¬ (nI q).toInt64 = 0 := fun e => hq0 (nL_0 q hq e)
      refine Zw_lrem dX11_chance_91 (by first | decide | assumption) ?_
      refine Zw_lstore_10 dX11_chance_92 rfl ?_
      refine Zw_lload_8 dX11_chance_94 ?_
      refine Zw_lstore_6 dX11_chance_96 rfl ?_
      refine Zw_lload_10 dX11_chance_98 ?_
      refine Zw_lstore_8 dX11_chance_100 rfl ?_
      refine Zw_goto 80 dX11_chance_102 (by decide) ?_
      refine Zw_drop (L' := [.ref 61, .int z, .int (nI m0), .int 0, .long (nI a).toInt64, .null, .long (nI q).toInt64, .null, .long ((nI p).toInt64 - (nI p).toInt64 / (nI q).toInt64 * (nI q).toInt64), .null, .null, .null]) ⟨Or.inr rfl, Or.inr rfl, Or.inr rfl, Or.inr rfl, Or.inr rfl, Or.inl rfl, Or.inr rfl, Or.inl rfl, Or.inr rfl, Or.inl rfl, Or.inl rfl, Or.inl rfl, trivial⟩ (Nat.le_of_ble_eq_true rfl) ?_
      rw [m_gc_s, if_neg hq0] at hV
      rw [nL_mod p hp q hq hq0]
      have hlt := Nat.mod_lt p (show 0 < q by omega)
      exact l_mgc0 (v6 := v6) ha hm hR h f q (p % q) (by omega) hq (by omega) hV
set_option maxRecDepth 20000 in
theorem l_mch0 {Q : zQ} {μ0 : zMu} {C : mC} {z : Int32} {w p m0 : Nat} (hc0 : m_cx C w μ0) (hw9 : w ≤ 999) (dk : μ0 65 2 = nI p) (hp : p < 8) (hm0 : 1 ≤ m0) (hm20 : m0 ≤ 20) (h : ∀ μ2 τ2, nOff [130] μ0 μ2 → Q (some (.long (nI (q_ab (fun i => (m_gb C 8 (z + nI i) w p false).2) m0 / q_cd (q_ab (fun i => (m_gb C 8 (z + nI i) w p false).2) m0) m0 m0)).toInt64)) μ2 τ2) : ∀ m i μ τ, m0 - i < m → i ≤ m0 → nOff [130] μ0 μ → Zw 46 RX11 cX11_chance 12 (some .long) Q 32 [.ref 61, .int z, .int (nI m0), .int 0, .long (nI (q_ab (fun i => (m_gb C 8 (z + nI i) w p false).2) i)).toInt64, .null, .int (nI i), .null, .null, .null, .null, .null] [] μ τ
  | 0, i, _, _, hm, _, _ => absurd hm (by omega)
  | m + 1, i, μ, τ, hm, hi, hO => by
    have hle := q_ab_le (fun i => (m_gb C 8 (z + nI i) w p false).2) i
    refine Zw_iload_6 dX11_chance_32 ?_
    refine Zw_iload_2 dX11_chance_34 ?_
    refine Zw_nicmp_ge (i) (m0) 72 dX11_chance_35 (by decide) rfl rfl (by omega) (by omega) (fun c35 => ?_) (fun c35 => ?_)
    · refine Zw_lload_4 dX11_chance_72 ?_
      refine Zw_lstore_6 dX11_chance_74 rfl ?_
      refine Zw_iload_2 dX11_chance_76 ?_
      refine Zw_i2l dX11_chance_77 ?_
      refine Zw_lstore_8 dX11_chance_78 rfl ?_
      obtain rfl : i = m0 := by omega
      have hpos := q_cd_pos (q_ab (fun i => (m_gb C 8 (z + nI i) w p false).2) i) i i
      exact l_mgc0 (R := q_cd (q_ab (fun i => (m_gb C 8 (z + nI i) w p false).2) i) i i) (v6 := .null) (by omega) hm20 (by omega) (h _ _ hO) (i + 1) _ _ (by omega) (by omega) (by omega) (m_gc_cd i hm20 _ (by omega) (by omega))
    · refine Zw_aload_0 dX11_chance_38 ?_
      refine Zw_iload_1 dX11_chance_39 ?_
      refine Zw_iload_6 dX11_chance_40 ?_
      refine Zw_iadd dX11_chance_42 ?_
      refine Zw_bipush (v := 8) dX11_chance_43 (by decide) ?_
      refine Zw_V2 (k := 45) lm_X11_403 dX11_chance_45 (by decide) (by first | decide | assumption | omega) (by first | rfl | assumption) (by rfl) (Nat.le_of_ble_eq_true rfl) ?_
      refine s_goesBy (m0 := 8) (hc0.off hO (by simp)) hw9 (by decide) (by rw [hO.1 65 (by simp)]; exact dk) hp (fun μ1 τ1 o1 ob => ?_)
      refine Zw_pop dX11_chance_48 rfl ?_
      refine Zw_lload_4 dX11_chance_49 ?_
      refine Zw_aload_0 dX11_chance_51 ?_
      refine Zw_getv (if (m_gb C 8 (z + nI i) w p false).2 = true then 1 else 0) lf_X11_400 dX11_chance_52 (by first | decide | assumption | omega) (by first | rfl | assumption) (by rfl) ob ?_
      refine Zw_if_eq 62 dX11_chance_55 (by decide) (fun c55 => ?_) (fun c55 => ?_)
      · refine Zw_lconst (v := 0) dX11_chance_62 (by decide) ?_
        refine Zw_ladd dX11_chance_63 ?_
        refine Zw_lstore_4 dX11_chance_64 rfl ?_
        refine Zw_iinc_6 dX11_chance_66 rfl (zincn _) ?_
        refine Zw_goto 32 dX11_chance_69 (by decide) ?_
        have hb : (m_gb C 8 (z + nI i) w p false).2 = false := by cases hq : (m_gb C 8 (z + nI i) w p false).2 <;> simp [hq] at c55 ⊢
        have hn : q_ab (fun i => (m_gb C 8 (z + nI i) w p false).2) (i + 1) = q_ab (fun i => (m_gb C 8 (z + nI i) w p false).2) i := by show q_ab (fun i => (m_gb C 8 (z + nI i) w p false).2) i + (if (m_gb C 8 (z + nI i) w p false).2 = true then 1 else 0) = _; simp [hb]
        have hz := l_mch0 hc0 hw9 dk hp hm0 hm20 h m (i + 1) μ1 τ1 (by omega) (by omega) (hO.tr o1)
        rw [hn] at hz
        rw [Int64.add_zero]
        exact hz
      · refine Zw_lconst (v := 1) dX11_chance_58 (by decide) ?_
        refine Zw_goto 63 dX11_chance_59 (by decide) ?_
        refine Zw_ladd dX11_chance_63 ?_
        refine Zw_lstore_4 dX11_chance_64 rfl ?_
        refine Zw_iinc_6 dX11_chance_66 rfl (zincn _) ?_
        refine Zw_goto 32 dX11_chance_69 (by decide) ?_
        have hb : (m_gb C 8 (z + nI i) w p false).2 = true := by cases hq : (m_gb C 8 (z + nI i) w p false).2 <;> simp [hq] at c55 ⊢
        have hn : q_ab (fun i => (m_gb C 8 (z + nI i) w p false).2) (i + 1) = q_ab (fun i => (m_gb C 8 (z + nI i) w p false).2) i + 1 := by show q_ab (fun i => (m_gb C 8 (z + nI i) w p false).2) i + (if (m_gb C 8 (z + nI i) w p false).2 = true then 1 else 0) = _; simp [hb]
        have hz := l_mch0 hc0 hw9 dk hp hm0 hm20 h m (i + 1) μ1 τ1 (by omega) (by omega) (hO.tr o1)
        rw [hn, ← nL_add _ (by omega)] at hz
        exact hz
set_option maxRecDepth 20000 in
theorem s_mchance0 {C : mC} {z : Int32} {w p m0 : Nat} {Q : zQ} {μ : zMu} {τ : Int64} (hc0 : m_cx C w μ) (hw9 : w ≤ 999) (dk : μ 65 2 = nI p) (hp : p < 8) (hm0 : 1 ≤ m0) (hm20 : m0 ≤ 20) (h : ∀ μ2 τ2, nOff [130] μ μ2 → Q (some (.long (nI (q_ab (fun i => (m_gb C 8 (z + nI i) w p false).2) m0 / q_cd (q_ab (fun i => (m_gb C 8 (z + nI i) w p false).2) m0) m0 m0)).toInt64)) μ2 τ2) : Zc 46 yX11_chance cX11_chance 12 (some .long) [.ref 61, .int z, .int (nI m0), .int 0] μ τ Q := by
  refine Zc.mk 8 [.ref 61, .int z, .int (nI m0), .int 0, .null, .null, .null, .null, .null, .null, .null, .null] rfl (by decide) (Nat.le_of_ble_eq_true rfl) ?_
  refine Zw_iload_2 dX11_chance_0 ?_
  refine Zw_i2l dX11_chance_1 ?_
  refine Zw_lconst (v := 1) dX11_chance_2 (by decide) ?_
  refine Zw_ldc2 dX11_chance_3 zw24 ?_
  refine Zw_S3 (k := 0) lm_X11_76 dX11_chance_6 (by decide) (Nat.le_of_ble_eq_true rfl) ?_
  refine s_in (fun _ _ => ?_) (fun a0 => absurd ⟨by rw [z32, nI_toInt (by omega)]; exact Int.ofNat_le.mpr hm0, by rw [z32, nI_toInt (by omega)]; exact Int.ofNat_le.mpr hm20⟩ a0)
  refine Zw_if_eq 22 dX11_chance_9 (by decide) (fun c => absurd c (by decide)) (fun _ => ?_)
  refine Zw_iload_3 dX11_chance_12 ?_
  refine Zw_i2l dX11_chance_13 ?_
  refine Zw_lconst (v := 0) dX11_chance_14 (by decide) ?_
  refine Zw_lconst (v := 1) dX11_chance_15 (by decide) ?_
  refine Zw_S3 (k := 0) lm_X11_76 dX11_chance_16 (by decide) (Nat.le_of_ble_eq_true rfl) ?_
  refine s_in0 2 (by decide) (fun _ => ?_) (fun a0 => absurd (by unfold vp_in; decide) a0)
  refine Zw_if_ne 26 dX11_chance_19 (by decide) (fun _ => ?_) (fun c => absurd c (by decide))
  refine Zw_lconst (v := 0) dX11_chance_26 (by decide) ?_
  refine Zw_lstore_4 dX11_chance_27 rfl ?_
  refine Zw_iconst (v := 0) dX11_chance_29 (by decide) ?_
  refine Zw_istore_6 dX11_chance_30 rfl ?_
  exact l_mch0 hc0 hw9 dk hp hm0 hm20 h (m0 + 1) 0 _ _ (by omega) (by omega) (nOff.refl _ _)
set_option maxRecDepth 20000 in
theorem l_mgc1 {Q : zQ} {μ : zMu} {τ : Int64} {z : Int32} {m0 a R : Nat} {v6 : Value} (ha : a ≤ 20) (hm : m0 ≤ 20) (hR : R ≠ 0) (h : Q (some (.long (nI (m0 / R)).toInt64)) μ τ) : ∀ f p q, q < f → p ≤ 20 → q ≤ 20 → m_gc f p q = R → Zw 46 RX11 cX11_chance 12 (some .long) Q 80 [.ref 61, .int z, .int (nI m0), .int 1, .long (nI a).toInt64, .null, .long (nI p).toInt64, .null, .long (nI q).toInt64, .null, .null, .null] [] μ τ
  | 0, _, _, hf, _, _, _ => absurd hf (by omega)
  | f + 1, p, q, hf, hp, hq, hV => by
    refine Zw_lload_8 dX11_chance_80 ?_
    refine Zw_lconst (v := 0) dX11_chance_82 (by decide) ?_
    refine Zw_lcmp dX11_chance_83 ?_
    refine Zw_if_eq 105 dX11_chance_84 (by decide) (fun c84 => ?_) (fun c84 => ?_)
    · have hq0 : q = 0 := nL_0 q hq ((lg_e _ _).mp c84)
      rw [m_gc_s, if_pos hq0] at hV
      subst hV
      have hne : ¬ (nI p).toInt64 = 0 := fun e => hR (nL_0 p hp e)
      refine Zw_iload_3 dX11_chance_105 ?_
      refine Zw_if_ne 117 dX11_chance_106 (by decide) (fun _ => ?_) (fun c => absurd c (by decide))
      refine Zw_iload_2 dX11_chance_117 ?_
      refine Zw_i2l dX11_chance_118 ?_
      refine Zw_lload_6 dX11_chance_119 ?_
      refine Zw_ldiv dX11_chance_121 (by first | decide | assumption) ?_
      refine Zw_lreturn dX11_chance_122 ?_
      rw [nL_div m0 hm p hp hR]
      exact h
    · refine Zw_lload_6 dX11_chance_87 ?_
      refine Zw_lload_8 dX11_chance_89 ?_
      have hq0 : ¬ q = 0 := fun e => c84 (by rw [e]; decide)
      have hne : ¬ (nI q).toInt64 = 0 := fun e => hq0 (nL_0 q hq e)
      refine Zw_lrem dX11_chance_91 (by first | decide | assumption) ?_
      refine Zw_lstore_10 dX11_chance_92 rfl ?_
      refine Zw_lload_8 dX11_chance_94 ?_
      refine Zw_lstore_6 dX11_chance_96 rfl ?_
      refine Zw_lload_10 dX11_chance_98 ?_
      refine Zw_lstore_8 dX11_chance_100 rfl ?_
      refine Zw_goto 80 dX11_chance_102 (by decide) ?_
      refine Zw_drop (L' := [.ref 61, .int z, .int (nI m0), .int 1, .long (nI a).toInt64, .null, .long (nI q).toInt64, .null, .long ((nI p).toInt64 - (nI p).toInt64 / (nI q).toInt64 * (nI q).toInt64), .null, .null, .null]) ⟨Or.inr rfl, Or.inr rfl, Or.inr rfl, Or.inr rfl, Or.inr rfl, Or.inl rfl, Or.inr rfl, Or.inl rfl, Or.inr rfl, Or.inl rfl, Or.inl rfl, Or.inl rfl, trivial⟩ (Nat.le_of_ble_eq_true rfl) ?_
      rw [m_gc_s, if_neg hq0] at hV
      rw [nL_mod p hp q hq hq0]
      have hlt := Nat.mod_lt p (show 0 < q by omega)
      exact l_mgc1 (v6 := v6) ha hm hR h f q (p % q) (by omega) hq (by omega) hV
set_option maxRecDepth 20000 in
theorem l_mch1 {Q : zQ} {μ0 : zMu} {C : mC} {z : Int32} {w p m0 : Nat} (hc0 : m_cx C w μ0) (hw9 : w ≤ 999) (dk : μ0 65 2 = nI p) (hp : p < 8) (hm0 : 1 ≤ m0) (hm20 : m0 ≤ 20) (h : ∀ μ2 τ2, nOff [130] μ0 μ2 → Q (some (.long (nI (m0 / q_cd (q_ab (fun i => (m_gb C 8 (z + nI i) w p false).2) m0) m0 m0)).toInt64)) μ2 τ2) : ∀ m i μ τ, m0 - i < m → i ≤ m0 → nOff [130] μ0 μ → Zw 46 RX11 cX11_chance 12 (some .long) Q 32 [.ref 61, .int z, .int (nI m0), .int 1, .long (nI (q_ab (fun i => (m_gb C 8 (z + nI i) w p false).2) i)).toInt64, .null, .int (nI i), .null, .null, .null, .null, .null] [] μ τ
  | 0, i, _, _, hm, _, _ => absurd hm (by omega)
  | m + 1, i, μ, τ, hm, hi, hO => by
    have hle := q_ab_le (fun i => (m_gb C 8 (z + nI i) w p false).2) i
    refine Zw_iload_6 dX11_chance_32 ?_
    refine Zw_iload_2 dX11_chance_34 ?_
    refine Zw_nicmp_ge (i) (m0) 72 dX11_chance_35 (by decide) rfl rfl (by omega) (by omega) (fun c35 => ?_) (fun c35 => ?_)
    · refine Zw_lload_4 dX11_chance_72 ?_
      refine Zw_lstore_6 dX11_chance_74 rfl ?_
      refine Zw_iload_2 dX11_chance_76 ?_
      refine Zw_i2l dX11_chance_77 ?_
      refine Zw_lstore_8 dX11_chance_78 rfl ?_
      obtain rfl : i = m0 := by omega
      have hpos := q_cd_pos (q_ab (fun i => (m_gb C 8 (z + nI i) w p false).2) i) i i
      exact l_mgc1 (R := q_cd (q_ab (fun i => (m_gb C 8 (z + nI i) w p false).2) i) i i) (v6 := .null) (by omega) hm20 (by omega) (h _ _ hO) (i + 1) _ _ (by omega) (by omega) (by omega) (m_gc_cd i hm20 _ (by omega) (by omega))
    · refine Zw_aload_0 dX11_chance_38 ?_
      refine Zw_iload_1 dX11_chance_39 ?_
      refine Zw_iload_6 dX11_chance_40 ?_
      refine Zw_iadd dX11_chance_42 ?_
      refine Zw_bipush (v := 8) dX11_chance_43 (by decide) ?_
      refine Zw_V2 (k := 45) lm_X11_403 dX11_chance_45 (by decide) (by first | decide | assumption | omega) (by first | rfl | assumption) (by rfl) (Nat.le_of_ble_eq_true rfl) ?_
      refine s_goesBy (m0 := 8) (hc0.off hO (by simp)) hw9 (by decide) (by rw [hO.1 65 (by simp)]; exact dk) hp (fun μ1 τ1 o1 ob => ?_)
      refine Zw_pop dX11_chance_48 rfl ?_
      refine Zw_lload_4 dX11_chance_49 ?_
      refine Zw_aload_0 dX11_chance_51 ?_
      refine Zw_getv (if (m_gb C 8 (z + nI i) w p false).2 = true then 1 else 0) lf_X11_400 dX11_chance_52 (by first | decide | assumption | omega) (by first | rfl | assumption) (by rfl) ob ?_
      refine Zw_if_eq 62 dX11_chance_55 (by decide) (fun c55 => ?_) (fun c55 => ?_)
      · refine Zw_lconst (v := 0) dX11_chance_62 (by decide) ?_
        refine Zw_ladd dX11_chance_63 ?_
        refine Zw_lstore_4 dX11_chance_64 rfl ?_
        refine Zw_iinc_6 dX11_chance_66 rfl (zincn _) ?_
        refine Zw_goto 32 dX11_chance_69 (by decide) ?_
        have hb : (m_gb C 8 (z + nI i) w p false).2 = false := by cases hq : (m_gb C 8 (z + nI i) w p false).2 <;> simp [hq] at c55 ⊢
        have hn : q_ab (fun i => (m_gb C 8 (z + nI i) w p false).2) (i + 1) = q_ab (fun i => (m_gb C 8 (z + nI i) w p false).2) i := by show q_ab (fun i => (m_gb C 8 (z + nI i) w p false).2) i + (if (m_gb C 8 (z + nI i) w p false).2 = true then 1 else 0) = _; simp [hb]
        have hz := l_mch1 hc0 hw9 dk hp hm0 hm20 h m (i + 1) μ1 τ1 (by omega) (by omega) (hO.tr o1)
        rw [hn] at hz
        rw [Int64.add_zero]
        exact hz
      · refine Zw_lconst (v := 1) dX11_chance_58 (by decide) ?_
        refine Zw_goto 63 dX11_chance_59 (by decide) ?_
        refine Zw_ladd dX11_chance_63 ?_
        refine Zw_lstore_4 dX11_chance_64 rfl ?_
        refine Zw_iinc_6 dX11_chance_66 rfl (zincn _) ?_
        refine Zw_goto 32 dX11_chance_69 (by decide) ?_
        have hb : (m_gb C 8 (z + nI i) w p false).2 = true := by cases hq : (m_gb C 8 (z + nI i) w p false).2 <;> simp [hq] at c55 ⊢
        have hn : q_ab (fun i => (m_gb C 8 (z + nI i) w p false).2) (i + 1) = q_ab (fun i => (m_gb C 8 (z + nI i) w p false).2) i + 1 := by show q_ab (fun i => (m_gb C 8 (z + nI i) w p false).2) i + (if (m_gb C 8 (z + nI i) w p false).2 = true then 1 else 0) = _; simp [hb]
        have hz := l_mch1 hc0 hw9 dk hp hm0 hm20 h m (i + 1) μ1 τ1 (by omega) (by omega) (hO.tr o1)
        rw [hn, ← nL_add _ (by omega)] at hz
        exact hz
set_option maxRecDepth 20000 in
theorem s_mchance1 {C : mC} {z : Int32} {w p m0 : Nat} {Q : zQ} {μ : zMu} {τ : Int64} (hc0 : m_cx C w μ) (hw9 : w ≤ 999) (dk : μ 65 2 = nI p) (hp : p < 8) (hm0 : 1 ≤ m0) (hm20 : m0 ≤ 20) (h : ∀ μ2 τ2, nOff [130] μ μ2 → Q (some (.long (nI (m0 / q_cd (q_ab (fun i => (m_gb C 8 (z + nI i) w p false).2) m0) m0 m0)).toInt64)) μ2 τ2) : Zc 46 yX11_chance cX11_chance 12 (some .long) [.ref 61, .int z, .int (nI m0), .int 1] μ τ Q := by
  refine Zc.mk 8 [.ref 61, .int z, .int (nI m0), .int 1, .null, .null, .null, .null, .null, .null, .null, .null] rfl (by decide) (Nat.le_of_ble_eq_true rfl) ?_
  refine Zw_iload_2 dX11_chance_0 ?_
  refine Zw_i2l dX11_chance_1 ?_
  refine Zw_lconst (v := 1) dX11_chance_2 (by decide) ?_
  refine Zw_ldc2 dX11_chance_3 zw24 ?_
  refine Zw_S3 (k := 0) lm_X11_76 dX11_chance_6 (by decide) (Nat.le_of_ble_eq_true rfl) ?_
  refine s_in (fun _ _ => ?_) (fun a0 => absurd ⟨by rw [z32, nI_toInt (by omega)]; exact Int.ofNat_le.mpr hm0, by rw [z32, nI_toInt (by omega)]; exact Int.ofNat_le.mpr hm20⟩ a0)
  refine Zw_if_eq 22 dX11_chance_9 (by decide) (fun c => absurd c (by decide)) (fun _ => ?_)
  refine Zw_iload_3 dX11_chance_12 ?_
  refine Zw_i2l dX11_chance_13 ?_
  refine Zw_lconst (v := 0) dX11_chance_14 (by decide) ?_
  refine Zw_lconst (v := 1) dX11_chance_15 (by decide) ?_
  refine Zw_S3 (k := 0) lm_X11_76 dX11_chance_16 (by decide) (Nat.le_of_ble_eq_true rfl) ?_
  refine s_in0 2 (by decide) (fun _ => ?_) (fun a0 => absurd (by unfold vp_in; decide) a0)
  refine Zw_if_ne 26 dX11_chance_19 (by decide) (fun _ => ?_) (fun c => absurd c (by decide))
  refine Zw_lconst (v := 0) dX11_chance_26 (by decide) ?_
  refine Zw_lstore_4 dX11_chance_27 rfl ?_
  refine Zw_iconst (v := 0) dX11_chance_29 (by decide) ?_
  refine Zw_istore_6 dX11_chance_30 rfl ?_
  exact l_mch1 hc0 hw9 dk hp hm0 hm20 h (m0 + 1) 0 _ _ (by omega) (by omega) (nOff.refl _ _)
set_option maxRecDepth 20000 in
theorem s_mchanceB {z m pt : Int32} {Q : zQ} {μ : zMu} {τ : Int64} (hbad : ¬ (1 ≤ m.toInt ∧ m.toInt ≤ 20 ∧ vp_in pt 2)) (h : Q (some (.long (-4611686018427387904))) μ τ) : Zc 46 yX11_chance cX11_chance 12 (some .long) [.ref 61, .int z, .int m, .int pt] μ τ Q := by
  refine Zc.mk 8 [.ref 61, .int z, .int m, .int pt, .null, .null, .null, .null, .null, .null, .null, .null] rfl (by decide) (Nat.le_of_ble_eq_true rfl) ?_
  refine Zw_iload_2 dX11_chance_0 ?_
  refine Zw_i2l dX11_chance_1 ?_
  refine Zw_lconst (v := 1) dX11_chance_2 (by decide) ?_
  refine Zw_ldc2 dX11_chance_3 zw24 ?_
  refine Zw_S3 (k := 0) lm_X11_76 dX11_chance_6 (by decide) (Nat.le_of_ble_eq_true rfl) ?_
  refine s_in (fun a1 a2 => ?_) (fun a0 => ?_)
  · refine Zw_if_eq 22 dX11_chance_9 (by decide) (fun c => absurd c (by decide)) (fun _ => ?_)
    refine Zw_iload_3 dX11_chance_12 ?_
    refine Zw_i2l dX11_chance_13 ?_
    refine Zw_lconst (v := 0) dX11_chance_14 (by decide) ?_
    refine Zw_lconst (v := 1) dX11_chance_15 (by decide) ?_
    refine Zw_S3 (k := 0) lm_X11_76 dX11_chance_16 (by decide) (Nat.le_of_ble_eq_true rfl) ?_
    refine s_in0 2 (by decide) (fun b2 => ?_) (fun b2 => ?_)
    · refine Zw_if_ne 26 dX11_chance_19 (by decide) (fun _ => ?_) (fun c => absurd c (by decide))
      exact absurd ⟨by rw [z32] at a1; exact a1, by rw [z32] at a2; exact a2, b2⟩ hbad
    · refine Zw_if_ne 26 dX11_chance_19 (by decide) (fun c => absurd c (by decide)) (fun _ => ?_)
      refine Zw_ldc2 dX11_chance_22 zw25 ?_
      refine Zw_lreturn dX11_chance_25 ?_
      exact h
  · refine Zw_if_eq 22 dX11_chance_9 (by decide) (fun _ => ?_) (fun c => absurd c (by decide))
    refine Zw_ldc2 dX11_chance_22 zw25 ?_
    refine Zw_lreturn dX11_chance_25 ?_
    exact h
def c_film (C : mC) (j : Nat) (z : Int32) (w p : Nat) : Int32 := q_film C.1 C.2.1 C.2.2.1 (cN C) (cK C) (cU C) (cA C) j z w p
theorem c_film_s (C : mC) (j : Nat) (z : Int32) (w p : Nat) : c_film C (j + 1) z w p = c_film C j (q_zn z) (w + 1) (c_dp C z w p) := rfl
theorem c_film_1 {C : mC} {z : Int32} {w p : Nat} (h : c_seen C (w + 1) (c_dp C z w p) = true) : c_film C 0 z w p = nI (c_dp C z w p) := if_pos h
theorem c_film_0 {C : mC} {z : Int32} {w p : Nat} (h : c_seen C (w + 1) (c_dp C z w p) = false) : c_film C 0 z w p = -1 := if_neg (by rw [show q_isSeen C.1 C.2.1 C.2.2.1 (cN C) (cK C) (cU C) (cA C) (w + 1) (q_dp C.1 C.2.1 C.2.2.1 z w p) = false from h]; simp)
theorem nOff.st {S : List Nat} {a b : zMu} {k j : Nat} {x : Int32} (h : nOff S a b) (hk : k ∈ S) (h61 : k ≠ 61) : nOff S a (zup b k j x) := ⟨fun q hq => by rw [zup_ne (by intro e; subst e; exact hq (List.mem_cons_of_mem _ hk))]; exact h.1 q hq, fun s hs => by rw [zup_ne (fun e => h61 e.symm)]; exact h.2 s hs⟩
theorem nW.st {S : List Nat} {a b : zMu} {k j : Nat} {x : Int32} (h : nW S a b) (hk : k ∈ S) (h61 : k ≠ 61) (h65 : k ≠ 65) : nW S a (zup b k j x) := ⟨h.1.st (List.mem_cons_of_mem _ hk) h61, fun i hi => by rw [zup_ne (fun e => h65 e.symm)]; exact h.2 i hi⟩
theorem nW.mem {S S' : List Nat} {a b : zMu} (h : nW S a b) (hs : ∀ k ∈ S, k ∈ S') : nW S' a b := ⟨h.1.sub (by simp; exact fun k hk => Or.inr (hs k hk)), h.2⟩
set_option maxRecDepth 20000 in
theorem l_mfilm {Q : zQ} {μ0 : zMu} {C : mC} {w m0 a p0 : Nat} {z00 z0 : Int32} (ha : a < 4) (hm30 : m0 ≤ 30) (hw9 : w ≤ 999) (hc0 : m_cx C w μ0) (h : ∀ μ2 τ2, nOff [77] μ0 μ2 → (∀ j, j < m0 → μ2 77 (40 * a + j) = c_film C j z0 w p0) → (∀ q, (q < 40 * a ∨ 40 * a + 40 ≤ q) → μ2 77 q = μ0 77 q) → Q (some (.int (nI m0))) μ2 τ2) : ∀ m i z v p μ τ, m0 - i < m → i ≤ m0 → p < 8 → v = w + i → nW [77] μ0 μ → μ 65 0 = nI v → (∀ j, j < i → μ 77 (40 * a + j) = c_film C j z0 w p0) → (∀ q, (q < 40 * a ∨ 40 * a + 40 ≤ q) → μ 77 q = μ0 77 q) → (∀ j, c_film C (i + j) z0 w p0 = c_film C j z v p) → Zw 45 RX11 cX11_film 8 (some .int) Q 52 [.ref 61, .int (nI a), .int z00, .int (nI m0), .int (nI w), .int (nI p), .int z, .int (nI i)] [] μ τ
  | 0, i, _, _, _, _, _, hm, _, _, _, _, _, _, _, _ => absurd hm (by omega)
  | m + 1, i, z, v, p, μ, τ, hm, hi, hp, hvi, hO, hwk, hI, hT, hF => by
    obtain ⟨_, _, hw0, hw2⟩ := hc0.n5
    have hc : m_cx C v μ := hO.c (x := 0) (by simp) hc0 hwk (by omega)
    refine Zw_iload_7 dX11_film_52 ?_
    refine Zw_iload_3 dX11_film_54 ?_
    refine Zw_nicmp_ge (i) (m0) 127 dX11_film_55 (by decide) rfl rfl (by omega) (by omega) (fun c55 => ?_) (fun c55 => ?_)
    · refine Zw_aload_0 dX11_film_127 ?_
      refine Zw_getr 65 lf_X11_23 dX11_film_128 (by first | decide | assumption | omega) (by first | rfl | assumption) (by rfl) ?_
      refine Zw_iconst (v := 0) dX11_film_131 (by decide) ?_
      refine Zw_iload_4 dX11_film_132 ?_
      refine Zw_iastn (0) dX11_film_134 (by first | decide | assumption | omega) (by first | rfl | assumption) rfl (by omega) (by decide) ?_
      refine Zw_iload_3 dX11_film_135 ?_
      refine Zw_ireturn dX11_film_136 (by first | rfl | assumption) ?_
      obtain rfl : i = m0 := by omega
      exact h _ _ (hO.back hw0.symm) (fun j hj => by rw [zup_ne (by decide)]; exact hI j hj) (fun q hq => by rw [zup_ne (by decide)]; exact hT q hq)
    · refine Zw_iload_6 dX11_film_58 ?_
      refine Zw_ldcw dX11_film_60 zw1 ?_
      refine Zw_imul dX11_film_63 ?_
      refine Zw_sipush (v := 12345) dX11_film_64 (by decide) ?_
      refine Zw_iadd dX11_film_67 ?_
      refine Zw_istore_6 dX11_film_68 rfl ?_
      refine Zw_aload_0 dX11_film_70 ?_
      refine Zw_iload_5 dX11_film_71 ?_
      refine Zw_iload_6 dX11_film_73 ?_
      refine Zw_V2 (k := 44) lm_X11_348 dX11_film_75 (by decide) (by first | decide | assumption | omega) (by first | rfl | assumption) (by rfl) (Nat.le_of_ble_eq_true rfl) ?_
      refine s_steps hc hp (fun μ1 τ1 o1 => ?_)
      refine Zw_istore_5 dX11_film_78 rfl ?_
      refine Zw_aload_0 dX11_film_80 ?_
      refine Zw_getr 65 lf_X11_23 dX11_film_81 (by first | decide | assumption | omega) (by first | rfl | assumption) (by rfl) ?_
      refine Zw_iconst (v := 0) dX11_film_84 (by decide) ?_
      refine Zw_dup2 dX11_film_85 rfl rfl ?_
      refine Zw_ialdnv (0) (nI v) dX11_film_86 (by first | decide | assumption | omega) (by first | rfl | assumption) rfl (by omega) (by decide) (by rw [o1.1 65 (by simp)]; exact hwk) ?_
      refine Zw_iconst (v := 1) dX11_film_87 (by decide) ?_
      refine Zw_nadd (v) (1) dX11_film_88 rfl rfl ?_
      refine Zw_iastn (0) dX11_film_89 (by first | decide | assumption | omega) (by first | rfl | assumption) rfl (by omega) (by decide) ?_
      have hO2 : nW [77] μ0 (zup μ1 65 0 (nI (v + 1))) := (hO.tr o1).up
      refine Zw_aload_0 dX11_film_90 ?_
      refine Zw_getr 77 lf_X11_63 dX11_film_91 (by first | decide | assumption | omega) (by first | rfl | assumption) (by rfl) ?_
      refine Zw_bipush (v := 40) dX11_film_94 (by decide) ?_
      refine Zw_iload_1 dX11_film_96 ?_
      refine Zw_nmul (40) (a) dX11_film_97 rfl rfl ?_
      refine Zw_iload_7 dX11_film_98 ?_
      refine Zw_nadd ((40 * a)) (i) dX11_film_100 rfl rfl ?_
      refine Zw_aload_0 dX11_film_101 ?_
      refine Zw_V0 (k := 44) lm_X11_344 dX11_film_102 (by decide) (by first | decide | assumption | omega) (by first | rfl | assumption) (by rfl) (Nat.le_of_ble_eq_true rfl) ?_
      refine s_c_seen (C := C) (w := v + 1) ((hc.off o1 (by simp)).wk rfl (by omega)) (fun μ2 τ2 o2 => ?_)
      refine Zw_iload_5 dX11_film_105 ?_
      refine Zw_ishr dX11_film_107 ?_
      refine Zw_iconst (v := 1) dX11_film_108 (by decide) ?_
      refine Zw_iand dX11_film_109 ?_
      refine Zw_iconst (v := 1) dX11_film_110 (by decide) ?_
      refine Zw_icmp_ne 119 dX11_film_111 (by decide) (fun c111 => ?_) (fun c111 => ?_)
      · refine Zw_iconst (v := (-1)) dX11_film_119 (by decide) ?_
        refine Zw_iastn (((40 * a) + i)) dX11_film_120 (by first | decide | assumption | omega) (by first | rfl | assumption) rfl (by omega) (by decide) ?_
        refine Zw_iinc_7 dX11_film_121 rfl (zincn _) ?_
        refine Zw_goto 52 dX11_film_124 (by decide) ?_
        have hcs := c_wt_has (v := v + 1) hc0 (p := c_dp C z v p) (c_dp_lt hp)
        have hsn : c_seen C (v + 1) (c_dp C z v p) = false := by
          rw [← hcs]
          cases hq : q_has (c_wt C (v + 1)) (c_dp C z v p)
          · rfl
          · exact absurd ((r8_h1 (r8_wt (v := v + 1) hc0) (c_dp_lt hp)).mpr hq) c111
        have hval : c_film C i z0 w p0 = -1 := by rw [show c_film C i z0 w p0 = c_film C (i + 0) z0 w p0 from rfl, hF 0]; exact c_film_0 hsn
        have hm77 : μ2 77 = μ 77 := by rw [o2.1 77 (by simp), zup_ne (by decide), o1.1 77 (by simp)]
        refine l_mfilm ha hm30 hw9 hc0 h m (i + 1) (q_zn z) (v + 1) (c_dp C z v p) _ _ (by omega) (by omega) (c_dp_lt hp) (by omega) ((hO2.tr o2).st (by simp) (by decide) (by decide)) ?_ (fun j hj => ?_) (fun q hq => ?_) (fun j => ?_)
        · rw [zup_ne (by decide), o2.1 65 (by simp), zup_at, if_pos ⟨rfl, rfl⟩]
        · rw [zup_at]
          by_cases e : j = i
          · subst e
            rw [if_pos ⟨rfl, rfl⟩, hval]
          · rw [if_neg (by omega), hm77]; exact hI j (by omega)
        · rw [zup_at, if_neg (by omega), hm77]; exact hT q hq
        · rw [show i + 1 + j = i + (j + 1) by omega, hF (j + 1)]; rfl
      · refine Zw_iload_5 dX11_film_114 ?_
        refine Zw_goto 120 dX11_film_116 (by decide) ?_
        refine Zw_iastn (((40 * a) + i)) dX11_film_120 (by first | decide | assumption | omega) (by first | rfl | assumption) rfl (by omega) (by decide) ?_
        refine Zw_iinc_7 dX11_film_121 rfl (zincn _) ?_
        refine Zw_goto 52 dX11_film_124 (by decide) ?_
        have hcs := c_wt_has (v := v + 1) hc0 (p := c_dp C z v p) (c_dp_lt hp)
        have hsn : c_seen C (v + 1) (c_dp C z v p) = true := by rw [← hcs]; exact (r8_h1 (r8_wt (v := v + 1) hc0) (c_dp_lt hp)).mp c111
        have hval : c_film C i z0 w p0 = nI (c_dp C z v p) := by rw [show c_film C i z0 w p0 = c_film C (i + 0) z0 w p0 from rfl, hF 0]; exact c_film_1 hsn
        have hm77 : μ2 77 = μ 77 := by rw [o2.1 77 (by simp), zup_ne (by decide), o1.1 77 (by simp)]
        refine l_mfilm ha hm30 hw9 hc0 h m (i + 1) (q_zn z) (v + 1) (c_dp C z v p) _ _ (by omega) (by omega) (c_dp_lt hp) (by omega) ((hO2.tr o2).st (by simp) (by decide) (by decide)) ?_ (fun j hj => ?_) (fun q hq => ?_) (fun j => ?_)
        · rw [zup_ne (by decide), o2.1 65 (by simp), zup_at, if_pos ⟨rfl, rfl⟩]
        · rw [zup_at]
          by_cases e : j = i
          · subst e
            rw [if_pos ⟨rfl, rfl⟩, hval]; rfl
          · rw [if_neg (by omega), hm77]; exact hI j (by omega)
        · rw [zup_at, if_neg (by omega), hm77]; exact hT q hq
        · rw [show i + 1 + j = i + (j + 1) by omega, hF (j + 1)]; rfl
set_option maxRecDepth 20000 in
theorem s_mfilmB {s z m : Int32} {Q : zQ} {μ : zMu} {τ : Int64} (hbad : ¬ (vp_in s 4 ∧ vp_in m 31)) (h : Q (some (.int (-2))) μ τ) : Zc 45 yX11_film cX11_film 8 (some .int) [.ref 61, .int s, .int z, .int m] μ τ Q := by
  refine Zc.mk 4 [.ref 61, .int s, .int z, .int m, .null, .null, .null, .null] rfl (by decide) (Nat.le_of_ble_eq_true rfl) ?_
  refine Zw_iload_1 dX11_film_0 ?_
  refine Zw_S1 (k := 1) lm_X11_383 dX11_film_1 (by decide) (Nat.le_of_ble_eq_true rfl) ?_
  refine s_isSheet (fun b1 => ?_) (fun b1 => ?_)
  · refine Zw_if_eq 19 dX11_film_4 (by decide) (fun c => absurd c (by decide)) (fun _ => ?_)
    refine Zw_iload_3 dX11_film_7 ?_
    refine Zw_i2l dX11_film_8 ?_
    refine Zw_lconst (v := 0) dX11_film_9 (by decide) ?_
    refine Zw_ldc2 dX11_film_10 zw23 ?_
    refine Zw_S3 (k := 0) lm_X11_76 dX11_film_13 (by decide) (Nat.le_of_ble_eq_true rfl) ?_
    refine s_in0 31 (by decide) (fun b2 => ?_) (fun b2 => ?_)
    · refine Zw_if_ne 22 dX11_film_16 (by decide) (fun _ => ?_) (fun c => absurd c (by decide))
      exact absurd ⟨b1, b2⟩ hbad
    · refine Zw_if_ne 22 dX11_film_16 (by decide) (fun c => absurd c (by decide)) (fun _ => ?_)
      refine Zw_bipush (v := (-2)) dX11_film_19 (by decide) ?_
      refine Zw_ireturn dX11_film_21 (by first | rfl | assumption) ?_
      exact h
  · refine Zw_if_eq 19 dX11_film_4 (by decide) (fun _ => ?_) (fun c => absurd c (by decide))
    refine Zw_bipush (v := (-2)) dX11_film_19 (by decide) ?_
    refine Zw_ireturn dX11_film_21 (by first | rfl | assumption) ?_
    exact h
set_option maxRecDepth 20000 in
theorem s_mfilm {C : mC} {w m0 a p : Nat} {z : Int32} {Q : zQ} {μ : zMu} {τ : Int64} (ha : a < 4) (hm30 : m0 ≤ 30) (hw9 : w ≤ 999) (hc0 : m_cx C w μ) (dk : μ 65 2 = nI p) (hp : p < 8) (h : ∀ μ2 τ2, nOff [74, 75, 76, 77] μ μ2 → μ2 74 = upd (μ 74) a 1 → μ2 75 = upd (μ 75) a 0 → μ2 76 = upd (μ 76) a (nI m0) → (∀ j, j < m0 → μ2 77 (40 * a + j) = c_film C j z w p) → (∀ q, (q < 40 * a ∨ 40 * a + 40 ≤ q) → μ2 77 q = μ 77 q) → Q (some (.int (nI m0))) μ2 τ2) : Zc 45 yX11_film cX11_film 8 (some .int) [.ref 61, .int (nI a), .int z, .int (nI m0)] μ τ Q := by
  refine Zc.mk 4 [.ref 61, .int (nI a), .int z, .int (nI m0), .null, .null, .null, .null] rfl (by decide) (Nat.le_of_ble_eq_true rfl) ?_
  refine Zw_iload_1 dX11_film_0 ?_
  refine Zw_S1 (k := 1) lm_X11_383 dX11_film_1 (by decide) (Nat.le_of_ble_eq_true rfl) ?_
  refine s_isSheet (fun _ => ?_) (fun a0 => absurd (vp_in_nI ha (by omega)) a0)
  refine Zw_if_eq 19 dX11_film_4 (by decide) (fun c => absurd c (by decide)) (fun _ => ?_)
  refine Zw_iload_3 dX11_film_7 ?_
  refine Zw_i2l dX11_film_8 ?_
  refine Zw_lconst (v := 0) dX11_film_9 (by decide) ?_
  refine Zw_ldc2 dX11_film_10 zw23 ?_
  refine Zw_S3 (k := 0) lm_X11_76 dX11_film_13 (by decide) (Nat.le_of_ble_eq_true rfl) ?_
  refine s_in0 31 (by decide) (fun _ => ?_) (fun a0 => absurd (vp_in_nI (by omega) (by omega)) a0)
  refine Zw_if_ne 22 dX11_film_16 (by decide) (fun _ => ?_) (fun c => absurd c (by decide))
  refine Zw_aload_0 dX11_film_22 ?_
  refine Zw_iload_1 dX11_film_23 ?_
  refine Zw_iconst (v := 0) dX11_film_24 (by decide) ?_
  refine Zw_iload_3 dX11_film_25 ?_
  refine Zw_V3 (k := 2) lm_X11_397 dX11_film_26 (by decide) (by first | decide | assumption | omega) (by first | rfl | assumption) (by rfl) (Nat.le_of_ble_eq_true rfl) ?_
  refine s_msheet ha (by omega) (by decide) (by decide) (fun μ1 o1 z1 t1 => ?_)
  refine Zw_pop dX11_film_29 rfl ?_
  have hb : nOff [74, 75, 76, 77] μ (zup (zup (zup μ 74 a 1) 75 a 0) 76 a (nI m0)) := (((nOff.refl _ _).st (by simp) (by decide)).st (by simp) (by decide)).st (by simp) (by decide)
  have hO1 : nOff [74, 75, 76, 77] μ μ1 := ⟨fun k hk => by rw [o1 k (by simp at hk ⊢; omega)]; exact hb.1 k hk, fun s hs => by rw [o1 61 (by simp)]; exact hb.2 s hs⟩
  have hc1 : m_cx C w μ1 := hc0.off hO1 (by simp)
  have e65 : μ1 65 = μ 65 := hO1.1 65 (by simp)
  refine Zw_aload_0 dX11_film_30 ?_
  refine Zw_getr 65 lf_X11_23 dX11_film_31 (by first | decide | assumption | omega) (by first | rfl | assumption) (by rfl) ?_
  refine Zw_iconst (v := 0) dX11_film_34 (by decide) ?_
  refine Zw_ialdnv (0) (nI w) dX11_film_35 (by first | decide | assumption | omega) (by first | rfl | assumption) rfl (by omega) (by decide) (by rw [e65]; exact hc0.n5.2.2.1) ?_
  refine Zw_istore_4 dX11_film_36 rfl ?_
  refine Zw_aload_0 dX11_film_38 ?_
  refine Zw_getr 65 lf_X11_23 dX11_film_39 (by first | decide | assumption | omega) (by first | rfl | assumption) (by rfl) ?_
  refine Zw_iconst (v := 2) dX11_film_42 (by decide) ?_
  refine Zw_ialdnv (2) (nI p) dX11_film_43 (by first | decide | assumption | omega) (by first | rfl | assumption) rfl (by omega) (by decide) (by rw [e65]; exact dk) ?_
  refine Zw_istore_5 dX11_film_44 rfl ?_
  refine Zw_iload_2 dX11_film_46 ?_
  refine Zw_istore_6 dX11_film_47 rfl ?_
  refine Zw_iconst (v := 0) dX11_film_49 (by decide) ?_
  refine Zw_istore_7 dX11_film_50 rfl ?_
  refine l_mfilm ha hm30 hw9 hc1 (fun μ2 τ2 o2 hI hT => ?_) (m0 + 1) 0 z w p _ _ (by omega) (by omega) hp rfl (nW.refl _ _) (by rw [e65]; exact hc0.n5.2.2.1) (fun j hj => absurd hj (by omega)) (fun _ _ => rfl) (fun j => by rw [Nat.zero_add])
  refine h μ2 τ2 (hO1.tr (o2.sub (by simp))) ?_ ?_ ?_ hI (fun q hq => by rw [hT q hq]; exact t1 q hq)
  · rw [o2.1 74 (by simp), o1 74 (by simp), zup_ne (by decide), zup_ne (by decide), zup_eq]
  · rw [o2.1 75 (by simp), o1 75 (by simp), zup_ne (by decide), zup_eq, zup_ne (by decide)]
  · rw [o2.1 76 (by simp), o1 76 (by simp), zup_eq, zup_ne (by decide), zup_ne (by decide)]
