def q_cd (a b : Nat) : Nat → Nat
  | 0 => 1
  | d + 1 => if d = 0 then 1 else if a % (d + 1) = 0 ∧ b % (d + 1) = 0 then d + 1 else q_cd a b d
theorem q_cd_pos (a b : Nat) : ∀ d, 0 < q_cd a b d
  | 0 => Nat.one_pos
  | d + 1 => by
    unfold q_cd
    split
    · decide
    · split
      · omega
      · exact q_cd_pos a b d
theorem q_cd_le (a b : Nat) : ∀ d, q_cd a b d ≤ d + 1
  | 0 => Nat.le_refl 1
  | d + 1 => by
    unfold q_cd
    split
    · omega
    · split
      · omega
      · exact Nat.le_trans (q_cd_le a b d) (by omega)
theorem q_cd_s (a b d : Nat) : q_cd a b (d + 1) = if d = 0 then 1 else if a % (d + 1) = 0 ∧ b % (d + 1) = 0 then d + 1 else q_cd a b d := rfl
def q_ab (F : Nat → Bool) : Nat → Nat
  | 0 => 0
  | n + 1 => q_ab F n + (if F n then 1 else 0)
theorem q_ab_le (F : Nat → Bool) : ∀ n, q_ab F n ≤ n
  | 0 => Nat.le_refl 0
  | n + 1 => by
    have := q_ab_le F n
    unfold q_ab
    split <;> omega
set_option maxRecDepth 20000 in
theorem l_cd {Q : zQ} {μ : zMu} {τ : Int64} {a b R : Nat} (ha : a < 2 ^ 31) (hb : b < 2 ^ 31) (h : Q (some (.int (nI R))) μ τ) : ∀ d, d ≤ b → q_cd a b d = R → Zw 0 RX10 cX10_commonDivisor 3 (some .int) Q 2 [.int (nI a), .int (nI b), .int (nI d)] [] μ τ
  | 0, hd, hV => by
    have hR : R = 1 := hV.symm
    refine Zw_iload_2 dX10_commonDivisor_2 ?_
    refine Zw_iconst (v := 1) dX10_commonDivisor_3 (by decide) ?_
    refine Zw_nicmp_le (0) (1) 27 dX10_commonDivisor_4 (by decide) rfl rfl (by omega) (by omega) (fun c4 => ?_) (fun c4 => ?_)
    · refine Zw_iconst (v := 1) dX10_commonDivisor_27 (by decide) ?_
      refine Zw_ireturn dX10_commonDivisor_28 (by first | rfl | assumption) ?_
      subst hR
      exact h
    · omega
  | d + 1, hd, hV => by
    rw [q_cd_s] at hV
    have hm1 := Nat.mod_lt a (show 0 < d + 1 by omega)
    have hm2 := Nat.mod_lt b (show 0 < d + 1 by omega)
    refine Zw_iload_2 dX10_commonDivisor_2 ?_
    refine Zw_iconst (v := 1) dX10_commonDivisor_3 (by decide) ?_
    refine Zw_nicmp_le ((d + 1)) (1) 27 dX10_commonDivisor_4 (by decide) rfl rfl (by omega) (by omega) (fun c4 => ?_) (fun c4 => ?_)
    · refine Zw_iconst (v := 1) dX10_commonDivisor_27 (by decide) ?_
      refine Zw_ireturn dX10_commonDivisor_28 (by first | rfl | assumption) ?_
      rw [if_pos (by omega)] at hV
      subst hV
      exact h
    · refine Zw_iload_0 dX10_commonDivisor_7 ?_
      refine Zw_iload_2 dX10_commonDivisor_8 ?_
      refine Zw_nrem (a) ((d + 1)) dX10_commonDivisor_9 rfl rfl (by omega) (by omega) (by omega) ?_
      refine Zw_nif_ne ((a % (d + 1))) 21 dX10_commonDivisor_10 (by decide) rfl (by omega) (fun c10 => ?_) (fun c10 => ?_)
      · refine Zw_iinc_2 dX10_commonDivisor_21 rfl (zdecn (by omega)) ?_
        refine Zw_goto 2 dX10_commonDivisor_24 (by decide) ?_
        rw [if_neg (by omega), if_neg (by intro e; exact c10 e.1)] at hV
        exact l_cd ha hb h d (by omega) hV
      · refine Zw_iload_1 dX10_commonDivisor_13 ?_
        refine Zw_iload_2 dX10_commonDivisor_14 ?_
        refine Zw_nrem (b) ((d + 1)) dX10_commonDivisor_15 rfl rfl (by omega) (by omega) (by omega) ?_
        refine Zw_nif_ne ((b % (d + 1))) 21 dX10_commonDivisor_16 (by decide) rfl (by omega) (fun c16 => ?_) (fun c16 => ?_)
        · refine Zw_iinc_2 dX10_commonDivisor_21 rfl (zdecn (by omega)) ?_
          refine Zw_goto 2 dX10_commonDivisor_24 (by decide) ?_
          rw [if_neg (by omega), if_neg (by intro e; exact c16 e.2)] at hV
          exact l_cd ha hb h d (by omega) hV
        · refine Zw_iload_2 dX10_commonDivisor_19 ?_
          refine Zw_ireturn dX10_commonDivisor_20 (by first | rfl | assumption) ?_
          rw [if_neg (by omega), if_pos ⟨c10, c16⟩] at hV
          subst hV
          exact h
set_option maxRecDepth 20000 in
theorem s_cd {a b : Nat} {Q : zQ} {μ : zMu} {τ : Int64} (ha : a < 2 ^ 31) (hb : b < 2 ^ 31) (h : Q (some (.int (nI (q_cd a b b)))) μ τ) : Zc 0 yX10_commonDivisor cX10_commonDivisor 3 (some .int) [.int (nI a), .int (nI b)] μ τ Q := by
  refine Zc.mk 1 [.int (nI a), .int (nI b), .null] rfl (by decide) (Nat.le_of_ble_eq_true rfl) ?_
  refine Zw_iload_1 dX10_commonDivisor_0 ?_
  refine Zw_istore_2 dX10_commonDivisor_1 rfl ?_
  exact l_cd ha hb h b (Nat.le_refl _) rfl
theorem q_dsee_congr {sy : zSy} {ln : Nat → Int32} {ps : Int32} {n : Nat} {K K' N N' A A' : Nat → Nat} (hK : ∀ f, f < n → K f = K' f) (hN : ∀ f, f < n → N f = N' f) (hA : ∀ f, f < n → A f = A' f) : ∀ {m : Nat} {z : Int32} {w p : Nat}, q_dsee sy ln ps n K N A m z w p = q_dsee sy ln ps n K' N' A' m z w p
  | 0, _, _, _ => rfl
  | m + 1, z, w, p => by
    rw [q_dsee_s, q_dsee_s, q_dsee_congr hK hN hA]
    unfold q_isSeen
    rw [q_seer_congr hK hN hA]
set_option maxRecDepth 20000 in
theorem l_chance {Q : zQ} {μ0 : zMu} {τ : Int64} {z : Int32} {cnt t n w p m0 c : Nat} (hx : x_ok μ0 cnt t n w) (dk : μ0 1 5 = nI p) (hp : p < 8) (hm0 : 1 ≤ m0) (hm20 : m0 ≤ 20) (hc : c < 2) (h : ∀ μ2, zOff [19, 20, 51] μ0 μ2 → Q (some (.long (nI ((if c = 0 then q_ab (fun i => q_dsee (xs μ0 t) (μ0 2) (μ0 1 4) n (xK μ0) (xN μ0) (xA μ0) 8 (z + nI i) w p) m0 else m0) / q_cd (q_ab (fun i => q_dsee (xs μ0 t) (μ0 2) (μ0 1 4) n (xK μ0) (xN μ0) (xA μ0) 8 (z + nI i) w p) m0) m0 m0)).toInt64)) μ2 τ) : ∀ m i μ, m0 - i < m → i ≤ m0 → zOff [19, 20, 51] μ0 μ → Zw 6 RX10 cX10_chance 6 (some .long) Q 29 [.ref 0, .int z, .int (nI m0), .int (nI c), .int (nI (q_ab (fun i => q_dsee (xs μ0 t) (μ0 2) (μ0 1 4) n (xK μ0) (xN μ0) (xA μ0) 8 (z + nI i) w p) i)), .int (nI i)] [] μ τ
  | 0, i, _, hm, _, _ => absurd hm (by omega)
  | m + 1, i, μ, hm, hi, hO => by
    have hS := hO.sc (by decide)
    obtain ⟨e1, e2, e3, e4⟩ := x_same hS hx
    have hfi := hO.fin (by decide) hx.2.1.1
    have hw3 := hx.2.2.2.1
    have hle := q_ab_le (fun i => q_dsee (xs μ0 t) (μ0 2) (μ0 1 4) n (xK μ0) (xN μ0) (xA μ0) 8 (z + nI i) w p) i
    rcases Nat.lt_or_ge i m0 with hlt | hge
    · refine Zw_iload_5 dX10_chance_29 ?_
      refine Zw_iload_2 dX10_chance_31 ?_
      refine Zw_icmp_ge 58 dX10_chance_32 (by decide) (fun c32 => absurd c32 (fun e => absurd ((nI_leI (by omega) (by omega)).mp e) (by omega))) (fun c32 => ?_)
      refine Zw_aload_0 dX10_chance_35 ?_
      refine Zw_getr 51 lf_X10_61 dX10_chance_36 (by first | decide | assumption | omega) (by first | rfl | assumption) (by rfl) ?_
      refine Zw_iload_1 dX10_chance_39 ?_
      refine Zw_iload_5 dX10_chance_40 ?_
      refine Zw_iadd dX10_chance_42 ?_
      refine Zw_V1 (k := 5) lm_X10_241 dX10_chance_43 (by decide) (by first | decide | assumption | omega) (by first | rfl | assumption) (by rfl) (Nat.le_of_ble_eq_true rfl) ?_
      refine s_seenBy (hx.1.off hS) (hx.2.1.off hS) (by rw [e3]; exact hx.2.2.1) (by omega) (by rw [e3]; exact dk) hp (fun μ1 hO1 => ?_)
      rw [e1, e2, e3, q_dsee_congr hfi.1 hfi.2.1 hfi.2.2]
      split
      · rename_i hq
        refine Zw_if_eq 52 dX10_chance_46 (by decide) (fun c => absurd c (by decide)) (fun _ => ?_)
        refine Zw_iinc_4 dX10_chance_49 rfl (zincn _) ?_
        refine Zw_iinc_5 dX10_chance_52 rfl (zincn _) ?_
        refine Zw_goto 29 dX10_chance_55 (by decide) ?_
        have hn : q_ab (fun i => q_dsee (xs μ0 t) (μ0 2) (μ0 1 4) n (xK μ0) (xN μ0) (xA μ0) 8 (z + nI i) w p) (i + 1) = q_ab (fun i => q_dsee (xs μ0 t) (μ0 2) (μ0 1 4) n (xK μ0) (xN μ0) (xA μ0) 8 (z + nI i) w p) i + 1 := by show q_ab (fun i => q_dsee (xs μ0 t) (μ0 2) (μ0 1 4) n (xK μ0) (xN μ0) (xA μ0) 8 (z + nI i) w p) i + (if q_dsee (xs μ0 t) (μ0 2) (μ0 1 4) n (xK μ0) (xN μ0) (xA μ0) 8 (z + nI i) w p then 1 else 0) = _; simp [hq]
        have hz := l_chance hx dk hp hm0 hm20 hc h m (i + 1) μ1 (by omega) (by omega) (hO.tr hO1)
        rw [hn] at hz
        exact hz
      · rename_i hq
        refine Zw_if_eq 52 dX10_chance_46 (by decide) (fun _ => ?_) (fun c => absurd c (by decide))
        refine Zw_iinc_5 dX10_chance_52 rfl (zincn _) ?_
        refine Zw_goto 29 dX10_chance_55 (by decide) ?_
        have hn : q_ab (fun i => q_dsee (xs μ0 t) (μ0 2) (μ0 1 4) n (xK μ0) (xN μ0) (xA μ0) 8 (z + nI i) w p) (i + 1) = q_ab (fun i => q_dsee (xs μ0 t) (μ0 2) (μ0 1 4) n (xK μ0) (xN μ0) (xA μ0) 8 (z + nI i) w p) i := by show q_ab (fun i => q_dsee (xs μ0 t) (μ0 2) (μ0 1 4) n (xK μ0) (xN μ0) (xA μ0) 8 (z + nI i) w p) i + (if q_dsee (xs μ0 t) (μ0 2) (μ0 1 4) n (xK μ0) (xN μ0) (xA μ0) 8 (z + nI i) w p then 1 else 0) = _; simp [hq]
        have hz := l_chance hx dk hp hm0 hm20 hc h m (i + 1) μ1 (by omega) (by omega) (hO.tr hO1)
        rw [hn] at hz
        exact hz
    · obtain rfl : i = m0 := by omega
      have hpos := q_cd_pos (q_ab (fun i => q_dsee (xs μ0 t) (μ0 2) (μ0 1 4) n (xK μ0) (xN μ0) (xA μ0) 8 (z + nI i) w p) i) i i
      have hle2 := q_cd_le (q_ab (fun i => q_dsee (xs μ0 t) (μ0 2) (μ0 1 4) n (xK μ0) (xN μ0) (xA μ0) 8 (z + nI i) w p) i) i i
      have hq := h μ hO
      match c, hc with
      | 0, _ =>
        refine Zw_iload_5 dX10_chance_29 ?_
        refine Zw_iload_2 dX10_chance_31 ?_
        refine Zw_icmp_ge 58 dX10_chance_32 (by decide) (fun c32 => ?_) (fun c32 => absurd c32 (not_not_intro (nI_le (Nat.le_refl _) (by omega))))
        refine Zw_iload_4 dX10_chance_58 ?_
        refine Zw_iload_2 dX10_chance_60 ?_
        refine Zw_S2 (k := 0) lm_X10_244 dX10_chance_61 (by decide) (Nat.le_of_ble_eq_true rfl) ?_
        refine s_cd (by omega) (by omega) ?_
        refine Zw_istore_5 dX10_chance_64 rfl ?_
        refine Zw_iload_3 dX10_chance_66 ?_
        refine Zw_if_ne 75 dX10_chance_67 (by decide) (fun c => absurd c (by decide)) (fun _ => ?_)
        refine Zw_iload_4 dX10_chance_70 ?_
        refine Zw_goto 76 dX10_chance_72 (by decide) ?_
        refine Zw_iload_5 dX10_chance_76 ?_
        refine Zw_ndiv ((q_ab (fun i => q_dsee (xs μ0 t) (μ0 2) (μ0 1 4) n (xK μ0) (xN μ0) (xA μ0) 8 (z + nI i) w p) i)) ((q_cd (q_ab (fun i => q_dsee (xs μ0 t) (μ0 2) (μ0 1 4) n (xK μ0) (xN μ0) (xA μ0) 8 (z + nI i) w p) i) i i)) dX10_chance_78 rfl rfl (by omega) (by omega) (by omega) ?_
        refine Zw_i2l dX10_chance_79 ?_
        refine Zw_lreturn dX10_chance_80 ?_
        exact hq
      | 1, _ =>
        refine Zw_iload_5 dX10_chance_29 ?_
        refine Zw_iload_2 dX10_chance_31 ?_
        refine Zw_icmp_ge 58 dX10_chance_32 (by decide) (fun c32 => ?_) (fun c32 => absurd c32 (not_not_intro (nI_le (Nat.le_refl _) (by omega))))
        refine Zw_iload_4 dX10_chance_58 ?_
        refine Zw_iload_2 dX10_chance_60 ?_
        refine Zw_S2 (k := 0) lm_X10_244 dX10_chance_61 (by decide) (Nat.le_of_ble_eq_true rfl) ?_
        refine s_cd (by omega) (by omega) ?_
        refine Zw_istore_5 dX10_chance_64 rfl ?_
        refine Zw_iload_3 dX10_chance_66 ?_
        refine Zw_if_ne 75 dX10_chance_67 (by decide) (fun _ => ?_) (fun c => absurd c (by decide))
        refine Zw_iload_2 dX10_chance_75 ?_
        refine Zw_iload_5 dX10_chance_76 ?_
        refine Zw_ndiv (i) ((q_cd (q_ab (fun i => q_dsee (xs μ0 t) (μ0 2) (μ0 1 4) n (xK μ0) (xN μ0) (xA μ0) 8 (z + nI i) w p) i) i i)) dX10_chance_78 rfl rfl (by omega) (by omega) (by omega) ?_
        refine Zw_i2l dX10_chance_79 ?_
        refine Zw_lreturn dX10_chance_80 ?_
        exact hq
      | n + 2, hc => exact absurd hc (by omega)
set_option maxRecDepth 20000 in
theorem s_X_chance {z m pt : Int32} {cnt t n w p : Nat} {Q : zQ} {μ : zMu} {τ : Int64} (hx : x_ok μ cnt t n w) (dk : μ 1 5 = nI p) (hp : p < 8) (hbad : ¬ (1 ≤ m.toInt ∧ m.toInt ≤ 20 ∧ vp_in pt 2) → Q (some (.long (-4611686018427387904))) μ τ) (h : ∀ m0 c, 1 ≤ m0 → m0 ≤ 20 → c < 2 → m = nI m0 → pt = nI c → ∀ μ2, zOff [19, 20, 51] μ μ2 → Q (some (.long (nI ((if c = 0 then q_ab (fun i => q_dsee (xs μ t) (μ 2) (μ 1 4) n (xK μ) (xN μ) (xA μ) 8 (z + nI i) w p) m0 else m0) / q_cd (q_ab (fun i => q_dsee (xs μ t) (μ 2) (μ 1 4) n (xK μ) (xN μ) (xA μ) 8 (z + nI i) w p) m0) m0 m0)).toInt64)) μ2 τ) : Zc 6 yX10_chance cX10_chance 6 (some .long) [.ref 0, .int z, .int m, .int pt] μ τ Q := by
  refine Zc.mk 2 [.ref 0, .int z, .int m, .int pt, .null, .null] rfl (by decide) (Nat.le_of_ble_eq_true rfl) ?_
  refine Zw_iload_2 dX10_chance_0 ?_
  refine Zw_iconst (v := 1) dX10_chance_1 (by decide) ?_
  refine Zw_icmp_lt 19 dX10_chance_2 (by decide) (fun c2 => ?_) (fun c2 => ?_)
  · refine Zw_ldc2 dX10_chance_19 zw9 ?_
    refine Zw_lreturn dX10_chance_22 ?_
    exact hbad (fun e => by have := Int32.lt_iff_toInt_lt.mp c2; simp at this; omega)
  · refine Zw_iload_2 dX10_chance_5 ?_
    refine Zw_bipush (v := 20) dX10_chance_6 (by decide) ?_
    refine Zw_icmp_gt 19 dX10_chance_8 (by decide) (fun c8 => ?_) (fun c8 => ?_)
    · refine Zw_ldc2 dX10_chance_19 zw9 ?_
      refine Zw_lreturn dX10_chance_22 ?_
      exact hbad (fun e => by have := Int32.lt_iff_toInt_lt.mp c8; simp at this; omega)
    · refine Zw_iload_3 dX10_chance_11 ?_
      refine Zw_iconst (v := 2) dX10_chance_12 (by decide) ?_
      refine Zw_S2 (k := 0) lm_X10_76 dX10_chance_13 (by decide) (Nat.le_of_ble_eq_true rfl) ?_
      refine s_within 2 (by decide) (fun b3 => ?_) (fun b3 => ?_)
      · refine Zw_if_ne 23 dX10_chance_16 (by decide) (fun _ => ?_) (fun c => absurd c (by decide))
        obtain ⟨c, hc, rfl⟩ := vp_in_of b3 (by decide)
        have k1 : 1 ≤ m.toInt := by have h6 : ¬ m.toInt < (1 : Int32).toInt := fun e => c2 (Int32.lt_iff_toInt_lt.mpr e); simp at h6; omega
        have k2 : m.toInt ≤ 20 := by have h6 : ¬ (20 : Int32).toInt < m.toInt := fun e => c8 (Int32.lt_iff_toInt_lt.mpr e); simp at h6; omega
        obtain ⟨m0, hm0, rfl⟩ := nI_of (x := m) (fun e => by have := Int32.lt_iff_toInt_lt.mp e; simp at this; omega)
        rw [nI_toInt hm0] at k1 k2
        refine Zw_iconst (v := 0) dX10_chance_23 (by decide) ?_
        refine Zw_istore_4 dX10_chance_24 rfl ?_
        refine Zw_iconst (v := 0) dX10_chance_26 (by decide) ?_
        refine Zw_istore_5 dX10_chance_27 rfl ?_
        exact l_chance hx dk hp (by omega) (by omega) hc (h m0 c (by omega) (by omega) hc rfl rfl) (m0 + 1) 0 μ (by omega) (by omega) zOff.rf
      · refine Zw_if_ne 23 dX10_chance_16 (by decide) (fun c => absurd c (by decide)) (fun _ => ?_)
        refine Zw_ldc2 dX10_chance_19 zw9 ?_
        refine Zw_lreturn dX10_chance_22 ?_
        exact hbad (fun e => b3 e.2.2)
def x_tl (μ : zMu) : Prop := ∃ a b, x_ab a b ∧ μ 48 2 = nI a ∧ μ 48 3 = nI b
def q_tel (R : (Nat → Int32) × Int32) : Nat → Int32
  | 0 => q_last R.1
  | 1 => q_now R.1
  | _ => R.2
set_option maxRecDepth 20000 in
theorem s_X_tells {s what : Int32} {cnt t n w : Nat} {Q : zQ} {μ : zMu} {τ : Int64} (hx : x_ok μ cnt t n w) (hrw : ∀ i, i < 4 → ∃ k, k ≤ 40 ∧ μ (53 + 2 * i) 2 = nI k) (htl : x_tl μ) (hok1 : ∀ v, v < 10 → x_ok (zup μ 1 4 (nI v)) cnt t n w) (hok11 : ∀ v, v < cnt → x_ok (zup μ 1 7 (nI v)) cnt v n w) (hbad : ¬ (vp_in s 4 ∧ vp_in what 5) → Q (some (.int (-2))) μ τ) (hno : ∀ a, a < 4 → s = nI a → μ (53 + 2 * a) 1 = -1 → Q (some (.int (-11))) μ τ) (hbig : ∀ a k, a < 4 → s = nI a → μ (53 + 2 * a) 1 ≠ -1 → μ (53 + 2 * a) 2 = nI k → k ≤ 40 → 30 < k → Q (some (.int (-2))) μ τ) (h3 : ∀ a k, a < 4 → s = nI a → what = 3 → μ (53 + 2 * a) 1 ≠ -1 → μ (53 + 2 * a) 2 = nI k → k ≤ 30 → ∀ μ2, zOff [19, 20, 43, 48, 49, 50] μ μ2 → x_tl μ2 → Q (some (.int (x_fits (fun v => x_fit (zup μ 1 4 (nI v)) t n w (54 + 2 * a) k) 10))) μ2 τ) (h4 : ∀ a k, a < 4 → s = nI a → what = 4 → μ (53 + 2 * a) 1 ≠ -1 → μ (53 + 2 * a) 2 = nI k → k ≤ 30 → ∀ μ2, zOff [19, 20, 43, 48, 49, 50] μ μ2 → x_tl μ2 → Q (some (.int (x_fits (fun v => x_fit (zup μ 1 7 (nI v)) v n w (54 + 2 * a) k) cnt))) μ2 τ) (h : ∀ a k c, a < 4 → s = nI a → c < 3 → what = nI c → μ (53 + 2 * a) 1 ≠ -1 → μ (53 + 2 * a) 2 = nI k → k ≤ 30 → ∀ μ2, zOff [19, 20, 43, 48, 49, 50] μ μ2 → x_tl μ2 → Q (some (.int (q_tel (q_fol (q_tst (xs μ t) (μ 2) (μ 1 4) n (xK μ) (xN μ) (xA μ) w (μ (54 + 2 * a))) k 0 (fun p => q_bit p)) c))) μ2 τ) : Zc 7 yX10_tells cX10_tells 5 (some .int) [.ref 0, .int s, .int what] μ τ Q := by
  refine Zc.mk 2 [.ref 0, .int s, .int what, .null, .null] rfl (by decide) (Nat.le_of_ble_eq_true rfl) ?_
  refine Zw_iload_1 dX10_tells_0 ?_
  refine Zw_iconst (v := 4) dX10_tells_1 (by decide) ?_
  refine Zw_S2 (k := 0) lm_X10_76 dX10_tells_2 (by decide) (Nat.le_of_ble_eq_true rfl) ?_
  refine s_within 4 (by decide) (fun b1 => ?_) (fun b1 => ?_)
  · refine Zw_if_eq 16 dX10_tells_5 (by decide) (fun c => absurd c (by decide)) (fun _ => ?_)
    refine Zw_iload_2 dX10_tells_8 ?_
    refine Zw_iconst (v := 5) dX10_tells_9 (by decide) ?_
    refine Zw_S2 (k := 0) lm_X10_76 dX10_tells_10 (by decide) (Nat.le_of_ble_eq_true rfl) ?_
    refine s_within 5 (by decide) (fun b2 => ?_) (fun b2 => ?_)
    · refine Zw_if_ne 19 dX10_tells_13 (by decide) (fun _ => ?_) (fun c => absurd c (by decide))
      obtain ⟨a, ha, rfl⟩ := vp_in_of b1 (by decide)
      have hra := zRow_of ha
      obtain ⟨a1, a2, a3, a4, a5⟩ := id hra
      obtain ⟨k, hk, ek⟩ := hrw a ha
      obtain ⟨aa, bb, hab, ra, rb⟩ := htl
      refine Zw_aload_0 dX10_tells_19 ?_
      refine Zw_getr 52 lf_X10_67 dX10_tells_20 (by first | decide | assumption | omega) (by first | rfl | assumption) (by rfl) ?_
      refine Zw_iload_1 dX10_tells_23 ?_
      refine Zw_aaldn (a) (53 + 2 * a) dX10_tells_24 (by first | decide | assumption | omega) (by first | rfl | assumption) rfl (by omega) (zRow_g ha) (by decide) ?_
      refine Zw_astore_3 dX10_tells_25 rfl ?_
      refine Zw_aload_3 dX10_tells_26 ?_
      refine Zw_S1 (k := 0) lm_X10_200 dX10_tells_27 (by decide) (Nat.le_of_ble_eq_true rfl) ?_
      refine s_refusal hra hk ek (fun g1 => ?_) (fun g1 g2 => ?_) (fun g1 g2 => ?_)
      · refine Zw_istore_4 dX10_tells_30 rfl ?_
        refine Zw_iload_4 dX10_tells_32 ?_
        refine Zw_if_eq 40 dX10_tells_34 (by decide) (fun c => absurd c (by decide)) (fun _ => ?_)
        refine Zw_iload_4 dX10_tells_37 ?_
        refine Zw_ireturn dX10_tells_39 (by first | rfl | assumption) ?_
        exact hno a ha rfl g1
      · refine Zw_istore_4 dX10_tells_30 rfl ?_
        refine Zw_iload_4 dX10_tells_32 ?_
        refine Zw_if_eq 40 dX10_tells_34 (by decide) (fun c => absurd c (by decide)) (fun _ => ?_)
        refine Zw_iload_4 dX10_tells_37 ?_
        refine Zw_ireturn dX10_tells_39 (by first | rfl | assumption) ?_
        exact hbig a k ha rfl g1 ek hk g2
      · refine Zw_istore_4 dX10_tells_30 rfl ?_
        refine Zw_iload_4 dX10_tells_32 ?_
        refine Zw_if_eq 40 dX10_tells_34 (by decide) (fun _ => ?_) (fun c => absurd c (by decide))
        obtain ⟨c, hc, rfl⟩ := vp_in_of b2 (by decide)
        match c, hc with
        | 0, _ =>
          refine Zw_iload_2 dX10_tells_40 ?_
          refine Zw_iconst (v := 3) dX10_tells_41 (by decide) ?_
          refine Zw_icmp_ne 58 dX10_tells_42 (by decide) (fun _ => ?_) (fun c => absurd c (by decide))
          refine Zw_iload_2 dX10_tells_58 ?_
          refine Zw_iconst (v := 4) dX10_tells_59 (by decide) ?_
          refine Zw_icmp_ne 82 dX10_tells_60 (by decide) (fun _ => ?_) (fun c => absurd c (by decide))
          refine Zw_aload_0 dX10_tells_82 ?_
          refine Zw_getr 48 lf_X10_54 dX10_tells_83 (by first | decide | assumption | omega) (by first | rfl | assumption) (by rfl) ?_
          refine Zw_aload_3 dX10_tells_86 ?_
          refine Zw_V1 (k := 5) lm_X10_208 dX10_tells_87 (by decide) (by first | decide | assumption | omega) (by first | rfl | assumption) (by rfl) (Nat.le_of_ble_eq_true rfl) ?_
          refine s_follow hx hra (by omega) (by omega) hk ek hab ra rb rfl (fun μ2 _ _ hO2 ab2 ra2 rb2 l4 l5 l6 => ?_)
          refine Zw_pop dX10_tells_90 rfl ?_
          refine Zw_iload_2 dX10_tells_91 ?_
          refine Zw_if_ne 103 dX10_tells_92 (by decide) (fun c => absurd c (by decide)) (fun _ => ?_)
          refine Zw_aload_0 dX10_tells_95 ?_
          refine Zw_getr 48 lf_X10_54 dX10_tells_96 (by first | decide | assumption | omega) (by first | rfl | assumption) (by rfl) ?_
          refine Zw_getv (q_tel (q_fol (q_tst (xs μ t) (μ 2) (μ 1 4) n (xK μ) (xN μ) (xA μ) w (μ (54 + 2 * a))) k 0 (fun p => q_bit p)) 0) lf_X10_212 dX10_tells_99 (by first | decide | assumption | omega) (by first | rfl | assumption) (by rfl) l4 ?_
          refine Zw_ireturn dX10_tells_102 (by first | rfl | assumption) ?_
          exact h a k 0 ha rfl (by decide) rfl g1 ek g2 μ2 hO2 ⟨_, _, ab2, ra2, rb2⟩
        | 1, _ =>
          refine Zw_iload_2 dX10_tells_40 ?_
          refine Zw_iconst (v := 3) dX10_tells_41 (by decide) ?_
          refine Zw_icmp_ne 58 dX10_tells_42 (by decide) (fun _ => ?_) (fun c => absurd c (by decide))
          refine Zw_iload_2 dX10_tells_58 ?_
          refine Zw_iconst (v := 4) dX10_tells_59 (by decide) ?_
          refine Zw_icmp_ne 82 dX10_tells_60 (by decide) (fun _ => ?_) (fun c => absurd c (by decide))
          refine Zw_aload_0 dX10_tells_82 ?_
          refine Zw_getr 48 lf_X10_54 dX10_tells_83 (by first | decide | assumption | omega) (by first | rfl | assumption) (by rfl) ?_
          refine Zw_aload_3 dX10_tells_86 ?_
          refine Zw_V1 (k := 5) lm_X10_208 dX10_tells_87 (by decide) (by first | decide | assumption | omega) (by first | rfl | assumption) (by rfl) (Nat.le_of_ble_eq_true rfl) ?_
          refine s_follow hx hra (by omega) (by omega) hk ek hab ra rb rfl (fun μ2 _ _ hO2 ab2 ra2 rb2 l4 l5 l6 => ?_)
          refine Zw_pop dX10_tells_90 rfl ?_
          refine Zw_iload_2 dX10_tells_91 ?_
          refine Zw_if_ne 103 dX10_tells_92 (by decide) (fun _ => ?_) (fun c => absurd c (by decide))
          refine Zw_iload_2 dX10_tells_103 ?_
          refine Zw_iconst (v := 1) dX10_tells_104 (by decide) ?_
          refine Zw_icmp_ne 118 dX10_tells_105 (by decide) (fun c => absurd c (by decide)) (fun _ => ?_)
          refine Zw_aload_0 dX10_tells_108 ?_
          refine Zw_getr 48 lf_X10_54 dX10_tells_109 (by first | decide | assumption | omega) (by first | rfl | assumption) (by rfl) ?_
          refine Zw_getv (q_tel (q_fol (q_tst (xs μ t) (μ 2) (μ 1 4) n (xK μ) (xN μ) (xA μ) w (μ (54 + 2 * a))) k 0 (fun p => q_bit p)) 1) lf_X10_215 dX10_tells_112 (by first | decide | assumption | omega) (by first | rfl | assumption) (by rfl) l5 ?_
          refine Zw_goto 125 dX10_tells_115 (by decide) ?_
          refine Zw_ireturn dX10_tells_125 (by first | rfl | assumption) ?_
          exact h a k 1 ha rfl (by decide) rfl g1 ek g2 μ2 hO2 ⟨_, _, ab2, ra2, rb2⟩
        | 2, _ =>
          refine Zw_iload_2 dX10_tells_40 ?_
          refine Zw_iconst (v := 3) dX10_tells_41 (by decide) ?_
          refine Zw_icmp_ne 58 dX10_tells_42 (by decide) (fun _ => ?_) (fun c => absurd c (by decide))
          refine Zw_iload_2 dX10_tells_58 ?_
          refine Zw_iconst (v := 4) dX10_tells_59 (by decide) ?_
          refine Zw_icmp_ne 82 dX10_tells_60 (by decide) (fun _ => ?_) (fun c => absurd c (by decide))
          refine Zw_aload_0 dX10_tells_82 ?_
          refine Zw_getr 48 lf_X10_54 dX10_tells_83 (by first | decide | assumption | omega) (by first | rfl | assumption) (by rfl) ?_
          refine Zw_aload_3 dX10_tells_86 ?_
          refine Zw_V1 (k := 5) lm_X10_208 dX10_tells_87 (by decide) (by first | decide | assumption | omega) (by first | rfl | assumption) (by rfl) (Nat.le_of_ble_eq_true rfl) ?_
          refine s_follow hx hra (by omega) (by omega) hk ek hab ra rb rfl (fun μ2 _ _ hO2 ab2 ra2 rb2 l4 l5 l6 => ?_)
          refine Zw_pop dX10_tells_90 rfl ?_
          refine Zw_iload_2 dX10_tells_91 ?_
          refine Zw_if_ne 103 dX10_tells_92 (by decide) (fun _ => ?_) (fun c => absurd c (by decide))
          refine Zw_iload_2 dX10_tells_103 ?_
          refine Zw_iconst (v := 1) dX10_tells_104 (by decide) ?_
          refine Zw_icmp_ne 118 dX10_tells_105 (by decide) (fun _ => ?_) (fun c => absurd c (by decide))
          refine Zw_aload_0 dX10_tells_118 ?_
          refine Zw_getr 48 lf_X10_54 dX10_tells_119 (by first | decide | assumption | omega) (by first | rfl | assumption) (by rfl) ?_
          refine Zw_getv (q_tel (q_fol (q_tst (xs μ t) (μ 2) (μ 1 4) n (xK μ) (xN μ) (xA μ) w (μ (54 + 2 * a))) k 0 (fun p => q_bit p)) 2) lf_X10_218 dX10_tells_122 (by first | decide | assumption | omega) (by first | rfl | assumption) (by rfl) l6 ?_
          refine Zw_ireturn dX10_tells_125 (by first | rfl | assumption) ?_
          exact h a k 2 ha rfl (by decide) rfl g1 ek g2 μ2 hO2 ⟨_, _, ab2, ra2, rb2⟩
        | 3, _ =>
          refine Zw_iload_2 dX10_tells_40 ?_
          refine Zw_iconst (v := 3) dX10_tells_41 (by decide) ?_
          refine Zw_icmp_ne 58 dX10_tells_42 (by decide) (fun c => absurd c (by decide)) (fun _ => ?_)
          refine Zw_aload_0 dX10_tells_45 ?_
          refine Zw_getr 48 lf_X10_54 dX10_tells_46 (by first | decide | assumption | omega) (by first | rfl | assumption) (by rfl) ?_
          refine Zw_aload_3 dX10_tells_49 ?_
          refine Zw_iconst (v := (-1)) dX10_tells_50 (by decide) ?_
          refine Zw_iconst (v := 1) dX10_tells_51 (by decide) ?_
          refine Zw_bipush (v := 10) dX10_tells_52 (by decide) ?_
          refine Zw_V4 (k := 6) lm_X10_204 dX10_tells_54 (by decide) (by first | decide | assumption | omega) (by first | rfl | assumption) (by rfl) (Nat.le_of_ble_eq_true rfl) ?_
          refine s_fit1 (bl := 10) hra (by omega) (by omega) hk ek hx (by omega) (-1) hok1 hab ra rb (fun μ2 _ _ hO2 ab2 ra2 rb2 => ?_)
          refine Zw_ireturn dX10_tells_57 (by first | rfl | assumption) ?_
          exact h3 a k ha rfl rfl g1 ek g2 μ2 hO2 ⟨_, _, ab2, ra2, rb2⟩
        | 4, _ =>
          refine Zw_iload_2 dX10_tells_40 ?_
          refine Zw_iconst (v := 3) dX10_tells_41 (by decide) ?_
          refine Zw_icmp_ne 58 dX10_tells_42 (by decide) (fun _ => ?_) (fun c => absurd c (by decide))
          refine Zw_iload_2 dX10_tells_58 ?_
          refine Zw_iconst (v := 4) dX10_tells_59 (by decide) ?_
          refine Zw_icmp_ne 82 dX10_tells_60 (by decide) (fun c => absurd c (by decide)) (fun _ => ?_)
          refine Zw_aload_0 dX10_tells_63 ?_
          refine Zw_getr 48 lf_X10_54 dX10_tells_64 (by first | decide | assumption | omega) (by first | rfl | assumption) (by rfl) ?_
          refine Zw_aload_3 dX10_tells_67 ?_
          refine Zw_iconst (v := (-1)) dX10_tells_68 (by decide) ?_
          refine Zw_bipush (v := 11) dX10_tells_69 (by decide) ?_
          refine Zw_aload_0 dX10_tells_71 ?_
          refine Zw_getr 17 lf_X10_22 dX10_tells_72 (by first | decide | assumption | omega) (by first | rfl | assumption) (by rfl) ?_
          refine Zw_getv (nI cnt) lf_X10_124 dX10_tells_75 (by first | decide | assumption | omega) (by first | rfl | assumption) (by rfl) hx.1.1 ?_
          refine Zw_V4 (k := 6) lm_X10_204 dX10_tells_78 (by decide) (by first | decide | assumption | omega) (by first | rfl | assumption) (by rfl) (Nat.le_of_ble_eq_true rfl) ?_
          refine s_fit11 (bl := cnt) hra (by omega) (by omega) hk ek hx (by have := hx.1.2.1; omega) (-1) hok11 hab ra rb (fun μ2 _ _ hO2 ab2 ra2 rb2 => ?_)
          refine Zw_ireturn dX10_tells_81 (by first | rfl | assumption) ?_
          exact h4 a k ha rfl rfl g1 ek g2 μ2 hO2 ⟨_, _, ab2, ra2, rb2⟩
        | n + 5, hc => exact absurd hc (by omega)
    · refine Zw_if_ne 19 dX10_tells_13 (by decide) (fun c => absurd c (by decide)) (fun _ => ?_)
      refine Zw_bipush (v := (-2)) dX10_tells_16 (by decide) ?_
      refine Zw_ireturn dX10_tells_18 (by first | rfl | assumption) ?_
      exact hbad (fun e => b2 e.2)
  · refine Zw_if_eq 16 dX10_tells_5 (by decide) (fun _ => ?_) (fun c => absurd c (by decide))
    refine Zw_bipush (v := (-2)) dX10_tells_16 (by decide) ?_
    refine Zw_ireturn dX10_tells_18 (by first | rfl | assumption) ?_
    exact hbad (fun e => b1 e.1)
set_option maxRecDepth 20000 in
theorem s_X_eyes {s x what : Int32} {cnt t n w : Nat} {Q : zQ} {μ : zMu} {τ : Int64} (hx : x_ok μ cnt t n w) (hrw : ∀ i, i < 4 → ∃ k, k ≤ 40 ∧ μ (53 + 2 * i) 2 = nI k) (htl : x_tl μ) (hok6 : ∀ f, f < n → ∀ v, v < 6 → x_ok (zup μ (4 + f) 0 (nI v)) cnt t n w) (hok4 : ∀ f, f < n → ∀ v, v < 10 → x_ok (zup μ (4 + f) 1 (nI v)) cnt t n w) (hbad : ¬ (vp_in s 4 ∧ vp_in x n ∧ vp_in what 2) → Q (some (.int (-2))) μ τ) (hno : ∀ a f, a < 4 → s = nI a → f < n → x = nI f → vp_in what 2 → μ (53 + 2 * a) 1 = -1 → Q (some (.int (-11))) μ τ) (hbig : ∀ a f k, a < 4 → s = nI a → f < n → x = nI f → vp_in what 2 → μ (53 + 2 * a) 1 ≠ -1 → μ (53 + 2 * a) 2 = nI k → k ≤ 40 → 30 < k → Q (some (.int (-2))) μ τ) (h0 : ∀ a f k, a < 4 → s = nI a → f < n → x = nI f → what = 0 → μ (53 + 2 * a) 1 ≠ -1 → μ (53 + 2 * a) 2 = nI k → k ≤ 30 → ∀ μ2, zOff [19, 20, 43, 48, 49, 50] μ μ2 → x_tl μ2 → Q (some (.int (x_fits (fun v => x_fit (zup μ (4 + f) 0 (nI v)) t n w (54 + 2 * a) k) 6))) μ2 τ) (h1 : ∀ a f k, a < 4 → s = nI a → f < n → x = nI f → what = 1 → μ (53 + 2 * a) 1 ≠ -1 → μ (53 + 2 * a) 2 = nI k → k ≤ 30 → ∀ μ2, zOff [19, 20, 43, 48, 49, 50] μ μ2 → x_tl μ2 → Q (some (.int (x_fits (fun v => x_fit (zup μ (4 + f) 1 (nI v)) t n w (54 + 2 * a) k) 10))) μ2 τ) : Zc 7 yX10_eyes cX10_eyes 6 (some .int) [.ref 0, .int s, .int x, .int what] μ τ Q := by
  refine Zc.mk 2 [.ref 0, .int s, .int x, .int what, .null, .null] rfl (by decide) (Nat.le_of_ble_eq_true rfl) ?_
  have hn5 := hx.2.1.1
  have hn := hx.2.1.2.1
  refine Zw_iload_1 dX10_eyes_0 ?_
  refine Zw_iconst (v := 4) dX10_eyes_1 (by decide) ?_
  refine Zw_S2 (k := 0) lm_X10_76 dX10_eyes_2 (by decide) (Nat.le_of_ble_eq_true rfl) ?_
  refine s_within 4 (by decide) (fun b1 => ?_) (fun b1 => ?_)
  · refine Zw_if_eq 30 dX10_eyes_5 (by decide) (fun c => absurd c (by decide)) (fun _ => ?_)
    refine Zw_iload_2 dX10_eyes_8 ?_
    refine Zw_aload_0 dX10_eyes_9 ?_
    refine Zw_getr 1 lf_X10_10 dX10_eyes_10 (by first | decide | assumption | omega) (by first | rfl | assumption) (by rfl) ?_
    refine Zw_geti lf_X10_80 dX10_eyes_13 (by first | decide | assumption | omega) (by first | rfl | assumption) (by rfl) ?_
    refine Zw_S2 (k := 0) lm_X10_76 dX10_eyes_16 (by decide) (Nat.le_of_ble_eq_true rfl) ?_
    refine s_within n (by rw [hn]; exact nI_toInt (by omega)) (fun b2 => ?_) (fun b2 => ?_)
    · refine Zw_if_eq 30 dX10_eyes_19 (by decide) (fun c => absurd c (by decide)) (fun _ => ?_)
      refine Zw_iload_3 dX10_eyes_22 ?_
      refine Zw_iconst (v := 2) dX10_eyes_23 (by decide) ?_
      refine Zw_S2 (k := 0) lm_X10_76 dX10_eyes_24 (by decide) (Nat.le_of_ble_eq_true rfl) ?_
      refine s_within 2 (by decide) (fun b3 => ?_) (fun b3 => ?_)
      · refine Zw_if_ne 33 dX10_eyes_27 (by decide) (fun _ => ?_) (fun c => absurd c (by decide))
        obtain ⟨a, ha, rfl⟩ := vp_in_of b1 (by decide)
        have hra := zRow_of ha
        obtain ⟨a1, a2, a3, a4, a5⟩ := id hra
        obtain ⟨k, hk, ek⟩ := hrw a ha
        obtain ⟨aa, bb, hab, ra, rb⟩ := htl
        obtain ⟨f, hf, rfl⟩ := vp_in_of b2 (by omega)
        refine Zw_aload_0 dX10_eyes_33 ?_
        refine Zw_getr 52 lf_X10_67 dX10_eyes_34 (by first | decide | assumption | omega) (by first | rfl | assumption) (by rfl) ?_
        refine Zw_iload_1 dX10_eyes_37 ?_
        refine Zw_aaldn (a) (53 + 2 * a) dX10_eyes_38 (by first | decide | assumption | omega) (by first | rfl | assumption) rfl (by omega) (zRow_g ha) (by decide) ?_
        refine Zw_astore_4 dX10_eyes_39 rfl ?_
        refine Zw_aload_4 dX10_eyes_41 ?_
        refine Zw_S1 (k := 0) lm_X10_200 dX10_eyes_43 (by decide) (Nat.le_of_ble_eq_true rfl) ?_
        refine s_refusal hra hk ek (fun g1 => ?_) (fun g1 g2 => ?_) (fun g1 g2 => ?_)
        · refine Zw_istore_5 dX10_eyes_46 rfl ?_
          refine Zw_iload_5 dX10_eyes_48 ?_
          refine Zw_if_eq 56 dX10_eyes_50 (by decide) (fun c => absurd c (by decide)) (fun _ => ?_)
          refine Zw_iload_5 dX10_eyes_53 ?_
          refine Zw_ireturn dX10_eyes_55 (by first | rfl | assumption) ?_
          exact hno a f ha rfl hf rfl b3 g1
        · refine Zw_istore_5 dX10_eyes_46 rfl ?_
          refine Zw_iload_5 dX10_eyes_48 ?_
          refine Zw_if_eq 56 dX10_eyes_50 (by decide) (fun c => absurd c (by decide)) (fun _ => ?_)
          refine Zw_iload_5 dX10_eyes_53 ?_
          refine Zw_ireturn dX10_eyes_55 (by first | rfl | assumption) ?_
          exact hbig a f k ha rfl hf rfl b3 g1 ek hk g2
        · refine Zw_istore_5 dX10_eyes_46 rfl ?_
          refine Zw_iload_5 dX10_eyes_48 ?_
          refine Zw_if_eq 56 dX10_eyes_50 (by decide) (fun _ => ?_) (fun c => absurd c (by decide))
          obtain ⟨c, hc, rfl⟩ := vp_in_of b3 (by decide)
          match c, hc with
          | 0, _ =>
            refine Zw_iload_3 dX10_eyes_56 ?_
            refine Zw_if_ne 75 dX10_eyes_57 (by decide) (fun c => absurd c (by decide)) (fun _ => ?_)
            refine Zw_aload_0 dX10_eyes_60 ?_
            refine Zw_getr 48 lf_X10_54 dX10_eyes_61 (by first | decide | assumption | omega) (by first | rfl | assumption) (by rfl) ?_
            refine Zw_aload_4 dX10_eyes_64 ?_
            refine Zw_iload_2 dX10_eyes_66 ?_
            refine Zw_bipush (v := 6) dX10_eyes_67 (by decide) ?_
            refine Zw_bipush (v := 6) dX10_eyes_69 (by decide) ?_
            refine Zw_V4 (k := 6) lm_X10_204 dX10_eyes_71 (by decide) (by first | decide | assumption | omega) (by first | rfl | assumption) (by rfl) (Nat.le_of_ble_eq_true rfl) ?_
            refine s_fit6 (bl := 6) hra (by omega) (by omega) hk ek hx (by omega) f hf (hok6 f hf) hab ra rb (fun μ2 _ _ hO2 ab2 ra2 rb2 => ?_)
            refine Zw_ireturn dX10_eyes_74 (by first | rfl | assumption) ?_
            exact h0 a f k ha rfl hf rfl rfl g1 ek g2 μ2 hO2 ⟨_, _, ab2, ra2, rb2⟩
          | 1, _ =>
            refine Zw_iload_3 dX10_eyes_56 ?_
            refine Zw_if_ne 75 dX10_eyes_57 (by decide) (fun _ => ?_) (fun c => absurd c (by decide))
            refine Zw_aload_0 dX10_eyes_75 ?_
            refine Zw_getr 48 lf_X10_54 dX10_eyes_76 (by first | decide | assumption | omega) (by first | rfl | assumption) (by rfl) ?_
            refine Zw_aload_4 dX10_eyes_79 ?_
            refine Zw_iload_2 dX10_eyes_81 ?_
            refine Zw_iconst (v := 4) dX10_eyes_82 (by decide) ?_
            refine Zw_bipush (v := 10) dX10_eyes_83 (by decide) ?_
            refine Zw_V4 (k := 6) lm_X10_204 dX10_eyes_85 (by decide) (by first | decide | assumption | omega) (by first | rfl | assumption) (by rfl) (Nat.le_of_ble_eq_true rfl) ?_
            refine s_fit4 (bl := 10) hra (by omega) (by omega) hk ek hx (by omega) f hf (hok4 f hf) hab ra rb (fun μ2 _ _ hO2 ab2 ra2 rb2 => ?_)
            refine Zw_ireturn dX10_eyes_88 (by first | rfl | assumption) ?_
            exact h1 a f k ha rfl hf rfl rfl g1 ek g2 μ2 hO2 ⟨_, _, ab2, ra2, rb2⟩
          | n + 2, hc => exact absurd hc (by omega)
      · refine Zw_if_ne 33 dX10_eyes_27 (by decide) (fun c => absurd c (by decide)) (fun _ => ?_)
        refine Zw_bipush (v := (-2)) dX10_eyes_30 (by decide) ?_
        refine Zw_ireturn dX10_eyes_32 (by first | rfl | assumption) ?_
        exact hbad (fun e => b3 e.2.2)
    · refine Zw_if_eq 30 dX10_eyes_19 (by decide) (fun _ => ?_) (fun c => absurd c (by decide))
      refine Zw_bipush (v := (-2)) dX10_eyes_30 (by decide) ?_
      refine Zw_ireturn dX10_eyes_32 (by first | rfl | assumption) ?_
      exact hbad (fun e => b2 e.2.1)
  · refine Zw_if_eq 30 dX10_eyes_5 (by decide) (fun _ => ?_) (fun c => absurd c (by decide))
    refine Zw_bipush (v := (-2)) dX10_eyes_30 (by decide) ?_
    refine Zw_ireturn dX10_eyes_32 (by first | rfl | assumption) ?_
    exact hbad (fun e => b1 e.1)
