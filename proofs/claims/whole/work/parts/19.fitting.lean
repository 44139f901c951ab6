theorem zup_self (μ : zMu) (k j : Nat) : zup μ k j (μ k j) = μ := by
  funext q i
  rw [zup_at]
  by_cases h : q = k ∧ i = j
  · rw [if_pos h, h.1, h.2]
  · rw [if_neg h]
theorem zOff.re {μ0 μ : zMu} {k j : Nat} {x : Int32} (hk : k ∉ zSC) (h : zOff zSC (zup μ0 k j x) μ) (y : Int32) : zOff zSC (zup μ0 k j y) (zup μ k j y) := by
  intro q hq
  by_cases e : q = k
  · subst e
    funext i
    rw [zup_at, zup_at]
    by_cases ei : i = j
    · simp [ei]
    · simp only [ei, and_false, if_false]
      rw [h q hq, zup_at, if_neg (by simp [ei])]
  · rw [zup_ne e, zup_ne e, h q hq, zup_ne e]
def x_fit (μ : zMu) (t n w q sz : Nat) : Bool := decide ((q_fol (q_tst (xs μ t) (μ 2) (μ 1 4) n (xK μ) (xN μ) (xA μ) w (μ q)) sz 0 (fun p => q_bit p)).2 = -1)
def x_fits (F : Nat → Bool) (n : Nat) : Int32 := q_orf (fun v => if F v then q_bit v else 0) n
theorem x_fit.off {μ μ' : zMu} {cnt t n w q sz : Nat} (h : zOff zSC μ μ') (hx : x_ok μ cnt t n w) (hq : 51 < q) : x_fit μ' t n w q sz = x_fit μ t n w q sz := by
  obtain ⟨e1, e2, e3, e4⟩ := x_same h hx
  have e5 : q_tst (xs μ' t) (μ' 2) (μ' 1 4) n (xK μ') (xN μ') (xA μ') w (μ' q) = q_tst (xs μ t) (μ 2) (μ 1 4) n (xK μ) (xN μ) (xA μ) w (μ q) := by
    funext i s p
    unfold q_tst
    rw [e4, e1, e2, e3, h q (zSC_lt (by omega))]
  unfold x_fit
  rw [e5]
theorem zOff.re6 {S : List Nat} {μ0 μ : zMu} {k j : Nat} {x : Int32} (hk : k ∉ S) (h : zOff S (zup μ0 k j x) μ) (y : Int32) : zOff S (zup μ0 k j y) (zup μ k j y) := by
  intro q hq
  by_cases e : q = k
  · subst e
    funext i
    rw [zup_at, zup_at]
    by_cases ei : i = j
    · simp [ei]
    · simp only [ei, and_false, if_false]
      rw [h q hq, zup_at, if_neg (by simp [ei])]
  · rw [zup_ne e, zup_ne e, h q hq, zup_ne e]
set_option maxRecDepth 20000 in
theorem l_fit1 {Q : zQ} {μ0 : zMu} {τ : Int64} {k q sz w n cnt t bl : Nat} (hrow : zRowA k q) (hk51 : 51 < k) (hq51 : 51 < q) (hszb : sz ≤ 40) (hsz : μ0 k 2 = nI sz) (hx0 : x_ok μ0 cnt t n w) (hbl : bl ≤ 32) (of : Int32) (hok : ∀ v, v < bl → x_ok (zup μ0 1 4 (nI v)) cnt t n w) (h : ∀ μ2 a2 b2, zOff [19, 20, 43, 48, 49, 50] μ0 μ2 → x_ab a2 b2 → μ2 48 2 = nI a2 → μ2 48 3 = nI b2 → Q (some (.int (x_fits (fun v => x_fit (zup μ0 1 4 (nI v)) t n w q sz) bl))) μ2 τ) : ∀ m i fs a b x μ, bl - i < m → i ≤ bl → zOff [19, 20, 43, 48, 49, 50] (zup μ0 1 4 x) μ → x_ab a b → μ 48 2 = nI a → μ 48 3 = nI b → fs = q_orf (fun v => if (fun v => x_fit (zup μ0 1 4 (nI v)) t n w q sz) v then q_bit v else 0) i → Zw 6 RX7 cX7_fitting 8 (some .int) Q 17 [.ref 48, .ref k, .int of, .int 1, .int (nI bl), .int (μ0 1 4), .int fs, .int (nI i)] [] μ τ
  | 0, i, _, _, _, _, _, hm, _, _, _, _, _, _ => absurd hm (by omega)
  | m + 1, i, fs, a, b, x, μ, hm, hi, hRel, hab, ra, rb, hV => by
    have hn5 := hx0.2.1.1
    have hn1 := hx0.2.1.2.1
    have hsc : ∀ k ∈ ([19, 20, 43, 48, 49, 50] : List Nat), k ∈ zSC := by decide
    have hkk : 1 ∉ zSC := zSC_lt (by omega)
    have hkn : k ≠ 1 := by omega
    have hqn : q ≠ 1 := by omega
    have h48 : (48 : Nat) ≠ 1 := by omega
    have hk6 : 1 ∉ ([19, 20, 43, 48, 49, 50] : List Nat) := fun e => hkk (hsc _ e)
    refine Zw_iload_7 dX7_fitting_17 ?_
    refine Zw_iload_4 dX7_fitting_19 ?_
    refine Zw_nicmp_ge (i) (bl) 58 dX7_fitting_21 (by decide) rfl rfl (by omega) (by omega) (fun c21 => ?_) (fun c21 => ?_)
    · refine Zw_aload_0 dX7_fitting_58 ?_
      refine Zw_getr 1 lf_X7_18 dX7_fitting_59 (by first | decide | assumption | omega) (by first | rfl | assumption) (by rfl) ?_
      refine Zw_iload_2 dX7_fitting_62 ?_
      refine Zw_iload_3 dX7_fitting_63 ?_
      refine Zw_iload_5 dX7_fitting_64 ?_
      refine Zw_V3 (k := 1) lm_X7_82 dX7_fitting_66 (by decide) (by first | decide | assumption | omega) (by first | rfl | assumption) (by rfl) (Nat.le_of_ble_eq_true rfl) ?_
      refine s_become1 ?_
      refine Zw_iload_6 dX7_fitting_69 ?_
      refine Zw_ireturn dX7_fitting_71 (by first | rfl | assumption) ?_
      obtain rfl : i = bl := by omega
      subst hV
      have hR3 := zOff.re6 (k := 1) (j := 4) hk6 hRel (μ0 1 4)
      rw [zup_self] at hR3
      exact h _ a b hR3 hab (by rw [zup_ne h48]; exact ra) (by rw [zup_ne h48]; exact rb)
    · refine Zw_aload_0 dX7_fitting_24 ?_
      refine Zw_getr 1 lf_X7_18 dX7_fitting_25 (by first | decide | assumption | omega) (by first | rfl | assumption) (by rfl) ?_
      refine Zw_iload_2 dX7_fitting_28 ?_
      refine Zw_iload_3 dX7_fitting_29 ?_
      refine Zw_iload_7 dX7_fitting_30 ?_
      refine Zw_V3 (k := 1) lm_X7_82 dX7_fitting_32 (by decide) (by first | decide | assumption | omega) (by first | rfl | assumption) (by rfl) (Nat.le_of_ble_eq_true rfl) ?_
      refine s_become1 ?_
      have hR1 : zOff [19, 20, 43, 48, 49, 50] (zup μ0 1 4 (nI i)) (zup μ 1 4 (nI i)) := zOff.re6 hk6 hRel (nI i)
      have hx1 := (hok i c21).off (hR1.sc hsc)
      have hrw := hrow
      obtain ⟨hk, hs, hq, hsq, hne⟩ := id hrow
      refine Zw_aload_0 dX7_fitting_35 ?_
      refine Zw_aload_1 dX7_fitting_36 ?_
      refine Zw_V1 (k := 5) lm_X7_86 dX7_fitting_37 (by decide) (by first | decide | assumption | omega) (by first | rfl | assumption) (by rfl) (Nat.le_of_ble_eq_true rfl) ?_
      refine s_follow hx1 hrow hk51 hq51 hszb (by rw [hR1 k (by simp; omega), zup_ne hkn]; exact hsz) hab (by rw [zup_ne h48]; exact ra) (by rw [zup_ne h48]; exact rb) rfl (fun μ2 a2 b2 hO2 hab2 ra2 rb2 _ _ _ => ?_)
      have hR2 : zOff [19, 20, 43, 48, 49, 50] (zup μ0 1 4 (nI i)) μ2 := hR1.tr hO2
      have hfi := x_fit.off (sz := sz) (hR1.sc hsc) (hok i c21) hq51
      split
      · rename_i hdec
        refine Zw_if_eq 52 dX7_fitting_40 (by decide) (fun c => absurd c (by decide)) (fun _ => ?_)
        refine Zw_iload_6 dX7_fitting_43 ?_
        refine Zw_iconst (v := 1) dX7_fitting_45 (by decide) ?_
        refine Zw_iload_7 dX7_fitting_46 ?_
        refine Zw_ishl dX7_fitting_48 ?_
        refine Zw_ior dX7_fitting_49 ?_
        refine Zw_istore_6 dX7_fitting_50 rfl ?_
        refine Zw_iinc_7 dX7_fitting_52 rfl (zincn _) ?_
        refine Zw_goto 17 dX7_fitting_55 (by decide) ?_
        refine l_fit1 hrow hk51 hq51 hszb hsz hx0 hbl of hok h m (i + 1) _ _ _ _ _ (by omega) (by omega) hR2 hab2 ra2 rb2 ?_
        show _ = q_orf _ i ||| _
        rw [hV]
        have hq2 : x_fit (zup μ0 1 4 (nI i)) t n w q sz = true := by rw [← hfi]; simp [x_fit, hdec]
        simp [hq2, q_bit]
      · rename_i hdec
        refine Zw_if_eq 52 dX7_fitting_40 (by decide) (fun _ => ?_) (fun c => absurd c (by decide))
        refine Zw_iinc_7 dX7_fitting_52 rfl (zincn _) ?_
        refine Zw_goto 17 dX7_fitting_55 (by decide) ?_
        refine l_fit1 hrow hk51 hq51 hszb hsz hx0 hbl of hok h m (i + 1) _ _ _ _ _ (by omega) (by omega) hR2 hab2 ra2 rb2 ?_
        show _ = q_orf _ i ||| _
        rw [hV]
        have hq2 : x_fit (zup μ0 1 4 (nI i)) t n w q sz = false := by rw [← hfi]; simp [x_fit, hdec]
        simp [hq2, q_bit]
set_option maxRecDepth 20000 in
theorem s_fit1 {k q sz w n cnt t bl a b : Nat} {Q : zQ} {μ : zMu} {τ : Int64} (hrow : zRowA k q) (hk51 : 51 < k) (hq51 : 51 < q) (hszb : sz ≤ 40) (hsz : μ k 2 = nI sz) (hx0 : x_ok μ cnt t n w) (hbl : bl ≤ 32) (of : Int32) (hok : ∀ v, v < bl → x_ok (zup μ 1 4 (nI v)) cnt t n w) (hab : x_ab a b) (ra : μ 48 2 = nI a) (rb : μ 48 3 = nI b) (h : ∀ μ2 a2 b2, zOff [19, 20, 43, 48, 49, 50] μ μ2 → x_ab a2 b2 → μ2 48 2 = nI a2 → μ2 48 3 = nI b2 → Q (some (.int (x_fits (fun v => x_fit (zup μ 1 4 (nI v)) t n w q sz) bl))) μ2 τ) : Zc 6 yX7_fitting cX7_fitting 8 (some .int) [.ref 48, .ref k, .int of, .int 1, .int (nI bl)] μ τ Q := by
  refine Zc.mk 3 [.ref 48, .ref k, .int of, .int 1, .int (nI bl), .null, .null, .null] rfl (by decide) (Nat.le_of_ble_eq_true rfl) ?_
  refine Zw_aload_0 dX7_fitting_0 ?_
  refine Zw_getr 1 lf_X7_18 dX7_fitting_1 (by first | decide | assumption | omega) (by first | rfl | assumption) (by rfl) ?_
  refine Zw_iload_2 dX7_fitting_4 ?_
  refine Zw_iload_3 dX7_fitting_5 ?_
  refine Zw_V2 (k := 1) lm_X7_78 dX7_fitting_6 (by decide) (by first | decide | assumption | omega) (by first | rfl | assumption) (by rfl) (Nat.le_of_ble_eq_true rfl) ?_
  refine s_known1 ?_
  refine Zw_istore_5 dX7_fitting_9 rfl ?_
  refine Zw_iconst (v := 0) dX7_fitting_11 (by decide) ?_
  refine Zw_istore_6 dX7_fitting_12 rfl ?_
  refine Zw_iconst (v := 0) dX7_fitting_14 (by decide) ?_
  refine Zw_istore_7 dX7_fitting_15 rfl ?_
  exact l_fit1 hrow hk51 hq51 hszb hsz hx0 hbl of hok h (bl + 1) 0 _ a b (μ 1 4) _ (by omega) (by omega) (by rw [zup_self]; exact zOff.rf) hab ra rb rfl
set_option maxRecDepth 20000 in
theorem l_fit11 {Q : zQ} {μ0 : zMu} {τ : Int64} {k q sz w n cnt t bl : Nat} (hrow : zRowA k q) (hk51 : 51 < k) (hq51 : 51 < q) (hszb : sz ≤ 40) (hsz : μ0 k 2 = nI sz) (hx0 : x_ok μ0 cnt t n w) (hbl : bl ≤ 32) (of : Int32) (hok : ∀ v, v < bl → x_ok (zup μ0 1 7 (nI v)) cnt v n w) (h : ∀ μ2 a2 b2, zOff [19, 20, 43, 48, 49, 50] μ0 μ2 → x_ab a2 b2 → μ2 48 2 = nI a2 → μ2 48 3 = nI b2 → Q (some (.int (x_fits (fun v => x_fit (zup μ0 1 7 (nI v)) v n w q sz) bl))) μ2 τ) : ∀ m i fs a b x μ, bl - i < m → i ≤ bl → zOff [19, 20, 43, 48, 49, 50] (zup μ0 1 7 x) μ → x_ab a b → μ 48 2 = nI a → μ 48 3 = nI b → fs = q_orf (fun v => if (fun v => x_fit (zup μ0 1 7 (nI v)) v n w q sz) v then q_bit v else 0) i → Zw 6 RX7 cX7_fitting 8 (some .int) Q 17 [.ref 48, .ref k, .int of, .int 11, .int (nI bl), .int (μ0 1 7), .int fs, .int (nI i)] [] μ τ
  | 0, i, _, _, _, _, _, hm, _, _, _, _, _, _ => absurd hm (by omega)
  | m + 1, i, fs, a, b, x, μ, hm, hi, hRel, hab, ra, rb, hV => by
    have hn5 := hx0.2.1.1
    have hn1 := hx0.2.1.2.1
    have hsc : ∀ k ∈ ([19, 20, 43, 48, 49, 50] : List Nat), k ∈ zSC := by decide
    have hkk : 1 ∉ zSC := zSC_lt (by omega)
    have hkn : k ≠ 1 := by omega
    have hqn : q ≠ 1 := by omega
    have h48 : (48 : Nat) ≠ 1 := by omega
    have hk6 : 1 ∉ ([19, 20, 43, 48, 49, 50] : List Nat) := fun e => hkk (hsc _ e)
    refine Zw_iload_7 dX7_fitting_17 ?_
    refine Zw_iload_4 dX7_fitting_19 ?_
    refine Zw_nicmp_ge (i) (bl) 58 dX7_fitting_21 (by decide) rfl rfl (by omega) (by omega) (fun c21 => ?_) (fun c21 => ?_)
    · refine Zw_aload_0 dX7_fitting_58 ?_
      refine Zw_getr 1 lf_X7_18 dX7_fitting_59 (by first | decide | assumption | omega) (by first | rfl | assumption) (by rfl) ?_
      refine Zw_iload_2 dX7_fitting_62 ?_
      refine Zw_iload_3 dX7_fitting_63 ?_
      refine Zw_iload_5 dX7_fitting_64 ?_
      refine Zw_V3 (k := 1) lm_X7_82 dX7_fitting_66 (by decide) (by first | decide | assumption | omega) (by first | rfl | assumption) (by rfl) (Nat.le_of_ble_eq_true rfl) ?_
      refine s_become11 ?_
      refine Zw_iload_6 dX7_fitting_69 ?_
      refine Zw_ireturn dX7_fitting_71 (by first | rfl | assumption) ?_
      obtain rfl : i = bl := by omega
      subst hV
      have hR3 := zOff.re6 (k := 1) (j := 7) hk6 hRel (μ0 1 7)
      rw [zup_self] at hR3
      exact h _ a b hR3 hab (by rw [zup_ne h48]; exact ra) (by rw [zup_ne h48]; exact rb)
    · refine Zw_aload_0 dX7_fitting_24 ?_
      refine Zw_getr 1 lf_X7_18 dX7_fitting_25 (by first | decide | assumption | omega) (by first | rfl | assumption) (by rfl) ?_
      refine Zw_iload_2 dX7_fitting_28 ?_
      refine Zw_iload_3 dX7_fitting_29 ?_
      refine Zw_iload_7 dX7_fitting_30 ?_
      refine Zw_V3 (k := 1) lm_X7_82 dX7_fitting_32 (by decide) (by first | decide | assumption | omega) (by first | rfl | assumption) (by rfl) (Nat.le_of_ble_eq_true rfl) ?_
      refine s_become11 ?_
      have hR1 : zOff [19, 20, 43, 48, 49, 50] (zup μ0 1 7 (nI i)) (zup μ 1 7 (nI i)) := zOff.re6 hk6 hRel (nI i)
      have hx1 := (hok i c21).off (hR1.sc hsc)
      have hrw := hrow
      obtain ⟨hk, hs, hq, hsq, hne⟩ := id hrow
      refine Zw_aload_0 dX7_fitting_35 ?_
      refine Zw_aload_1 dX7_fitting_36 ?_
      refine Zw_V1 (k := 5) lm_X7_86 dX7_fitting_37 (by decide) (by first | decide | assumption | omega) (by first | rfl | assumption) (by rfl) (Nat.le_of_ble_eq_true rfl) ?_
      refine s_follow hx1 hrow hk51 hq51 hszb (by rw [hR1 k (by simp; omega), zup_ne hkn]; exact hsz) hab (by rw [zup_ne h48]; exact ra) (by rw [zup_ne h48]; exact rb) rfl (fun μ2 a2 b2 hO2 hab2 ra2 rb2 _ _ _ => ?_)
      have hR2 : zOff [19, 20, 43, 48, 49, 50] (zup μ0 1 7 (nI i)) μ2 := hR1.tr hO2
      have hfi := x_fit.off (sz := sz) (hR1.sc hsc) (hok i c21) hq51
      split
      · rename_i hdec
        refine Zw_if_eq 52 dX7_fitting_40 (by decide) (fun c => absurd c (by decide)) (fun _ => ?_)
        refine Zw_iload_6 dX7_fitting_43 ?_
        refine Zw_iconst (v := 1) dX7_fitting_45 (by decide) ?_
        refine Zw_iload_7 dX7_fitting_46 ?_
        refine Zw_ishl dX7_fitting_48 ?_
        refine Zw_ior dX7_fitting_49 ?_
        refine Zw_istore_6 dX7_fitting_50 rfl ?_
        refine Zw_iinc_7 dX7_fitting_52 rfl (zincn _) ?_
        refine Zw_goto 17 dX7_fitting_55 (by decide) ?_
        refine l_fit11 hrow hk51 hq51 hszb hsz hx0 hbl of hok h m (i + 1) _ _ _ _ _ (by omega) (by omega) hR2 hab2 ra2 rb2 ?_
        show _ = q_orf _ i ||| _
        rw [hV]
        have hq2 : x_fit (zup μ0 1 7 (nI i)) i n w q sz = true := by rw [← hfi]; simp [x_fit, hdec]
        simp [hq2, q_bit]
      · rename_i hdec
        refine Zw_if_eq 52 dX7_fitting_40 (by decide) (fun _ => ?_) (fun c => absurd c (by decide))
        refine Zw_iinc_7 dX7_fitting_52 rfl (zincn _) ?_
        refine Zw_goto 17 dX7_fitting_55 (by decide) ?_
        refine l_fit11 hrow hk51 hq51 hszb hsz hx0 hbl of hok h m (i + 1) _ _ _ _ _ (by omega) (by omega) hR2 hab2 ra2 rb2 ?_
        show _ = q_orf _ i ||| _
        rw [hV]
        have hq2 : x_fit (zup μ0 1 7 (nI i)) i n w q sz = false := by rw [← hfi]; simp [x_fit, hdec]
        simp [hq2, q_bit]
set_option maxRecDepth 20000 in
theorem s_fit11 {k q sz w n cnt t bl a b : Nat} {Q : zQ} {μ : zMu} {τ : Int64} (hrow : zRowA k q) (hk51 : 51 < k) (hq51 : 51 < q) (hszb : sz ≤ 40) (hsz : μ k 2 = nI sz) (hx0 : x_ok μ cnt t n w) (hbl : bl ≤ 32) (of : Int32) (hok : ∀ v, v < bl → x_ok (zup μ 1 7 (nI v)) cnt v n w) (hab : x_ab a b) (ra : μ 48 2 = nI a) (rb : μ 48 3 = nI b) (h : ∀ μ2 a2 b2, zOff [19, 20, 43, 48, 49, 50] μ μ2 → x_ab a2 b2 → μ2 48 2 = nI a2 → μ2 48 3 = nI b2 → Q (some (.int (x_fits (fun v => x_fit (zup μ 1 7 (nI v)) v n w q sz) bl))) μ2 τ) : Zc 6 yX7_fitting cX7_fitting 8 (some .int) [.ref 48, .ref k, .int of, .int 11, .int (nI bl)] μ τ Q := by
  refine Zc.mk 3 [.ref 48, .ref k, .int of, .int 11, .int (nI bl), .null, .null, .null] rfl (by decide) (Nat.le_of_ble_eq_true rfl) ?_
  refine Zw_aload_0 dX7_fitting_0 ?_
  refine Zw_getr 1 lf_X7_18 dX7_fitting_1 (by first | decide | assumption | omega) (by first | rfl | assumption) (by rfl) ?_
  refine Zw_iload_2 dX7_fitting_4 ?_
  refine Zw_iload_3 dX7_fitting_5 ?_
  refine Zw_V2 (k := 1) lm_X7_78 dX7_fitting_6 (by decide) (by first | decide | assumption | omega) (by first | rfl | assumption) (by rfl) (Nat.le_of_ble_eq_true rfl) ?_
  refine s_known11 ?_
  refine Zw_istore_5 dX7_fitting_9 rfl ?_
  refine Zw_iconst (v := 0) dX7_fitting_11 (by decide) ?_
  refine Zw_istore_6 dX7_fitting_12 rfl ?_
  refine Zw_iconst (v := 0) dX7_fitting_14 (by decide) ?_
  refine Zw_istore_7 dX7_fitting_15 rfl ?_
  exact l_fit11 hrow hk51 hq51 hszb hsz hx0 hbl of hok h (bl + 1) 0 _ a b (μ 1 7) _ (by omega) (by omega) (by rw [zup_self]; exact zOff.rf) hab ra rb rfl
set_option maxRecDepth 20000 in
theorem l_fit6 {Q : zQ} {μ0 : zMu} {τ : Int64} {k q sz w n cnt t bl : Nat} (hrow : zRowA k q) (hk51 : 51 < k) (hq51 : 51 < q) (hszb : sz ≤ 40) (hsz : μ0 k 2 = nI sz) (hx0 : x_ok μ0 cnt t n w) (hbl : bl ≤ 32) (f : Nat) (hf : f < n) (hok : ∀ v, v < bl → x_ok (zup μ0 (4 + f) 0 (nI v)) cnt t n w) (h : ∀ μ2 a2 b2, zOff [19, 20, 43, 48, 49, 50] μ0 μ2 → x_ab a2 b2 → μ2 48 2 = nI a2 → μ2 48 3 = nI b2 → Q (some (.int (x_fits (fun v => x_fit (zup μ0 (4 + f) 0 (nI v)) t n w q sz) bl))) μ2 τ) : ∀ m i fs a b x μ, bl - i < m → i ≤ bl → zOff [19, 20, 43, 48, 49, 50] (zup μ0 (4 + f) 0 x) μ → x_ab a b → μ 48 2 = nI a → μ 48 3 = nI b → fs = q_orf (fun v => if (fun v => x_fit (zup μ0 (4 + f) 0 (nI v)) t n w q sz) v then q_bit v else 0) i → Zw 6 RX7 cX7_fitting 8 (some .int) Q 17 [.ref 48, .ref k, .int (nI f), .int 6, .int (nI bl), .int (μ0 (4 + f) 0), .int fs, .int (nI i)] [] μ τ
  | 0, i, _, _, _, _, _, hm, _, _, _, _, _, _ => absurd hm (by omega)
  | m + 1, i, fs, a, b, x, μ, hm, hi, hRel, hab, ra, rb, hV => by
    have hn5 := hx0.2.1.1
    have hn1 := hx0.2.1.2.1
    have hsc : ∀ k ∈ ([19, 20, 43, 48, 49, 50] : List Nat), k ∈ zSC := by decide
    have hkk : (4 + f) ∉ zSC := zSC_lt (by omega)
    have hkn : k ≠ (4 + f) := by omega
    have hqn : q ≠ (4 + f) := by omega
    have h48 : (48 : Nat) ≠ (4 + f) := by omega
    have hk6 : (4 + f) ∉ ([19, 20, 43, 48, 49, 50] : List Nat) := fun e => hkk (hsc _ e)
    refine Zw_iload_7 dX7_fitting_17 ?_
    refine Zw_iload_4 dX7_fitting_19 ?_
    refine Zw_nicmp_ge (i) (bl) 58 dX7_fitting_21 (by decide) rfl rfl (by omega) (by omega) (fun c21 => ?_) (fun c21 => ?_)
    · refine Zw_aload_0 dX7_fitting_58 ?_
      refine Zw_getr 1 lf_X7_18 dX7_fitting_59 (by first | decide | assumption | omega) (by first | rfl | assumption) (by rfl) ?_
      refine Zw_iload_2 dX7_fitting_62 ?_
      refine Zw_iload_3 dX7_fitting_63 ?_
      refine Zw_iload_5 dX7_fitting_64 ?_
      refine Zw_V3 (k := 1) lm_X7_82 dX7_fitting_66 (by decide) (by first | decide | assumption | omega) (by first | rfl | assumption) (by rfl) (Nat.le_of_ble_eq_true rfl) ?_
      refine s_become6 n hn5 (by rw [hRel 1 (by simp), zup_at, if_neg (by omega)]; exact hn1) hf ?_
      refine Zw_iload_6 dX7_fitting_69 ?_
      refine Zw_ireturn dX7_fitting_71 (by first | rfl | assumption) ?_
      obtain rfl : i = bl := by omega
      subst hV
      have hR3 := zOff.re6 (k := (4 + f)) (j := 0) hk6 hRel (μ0 (4 + f) 0)
      rw [zup_self] at hR3
      exact h _ a b hR3 hab (by rw [zup_ne h48]; exact ra) (by rw [zup_ne h48]; exact rb)
    · refine Zw_aload_0 dX7_fitting_24 ?_
      refine Zw_getr 1 lf_X7_18 dX7_fitting_25 (by first | decide | assumption | omega) (by first | rfl | assumption) (by rfl) ?_
      refine Zw_iload_2 dX7_fitting_28 ?_
      refine Zw_iload_3 dX7_fitting_29 ?_
      refine Zw_iload_7 dX7_fitting_30 ?_
      refine Zw_V3 (k := 1) lm_X7_82 dX7_fitting_32 (by decide) (by first | decide | assumption | omega) (by first | rfl | assumption) (by rfl) (Nat.le_of_ble_eq_true rfl) ?_
      refine s_become6 n hn5 (by rw [hRel 1 (by simp), zup_at, if_neg (by omega)]; exact hn1) hf ?_
      have hR1 : zOff [19, 20, 43, 48, 49, 50] (zup μ0 (4 + f) 0 (nI i)) (zup μ (4 + f) 0 (nI i)) := zOff.re6 hk6 hRel (nI i)
      have hx1 := (hok i c21).off (hR1.sc hsc)
      have hrw := hrow
      obtain ⟨hk, hs, hq, hsq, hne⟩ := id hrow
      refine Zw_aload_0 dX7_fitting_35 ?_
      refine Zw_aload_1 dX7_fitting_36 ?_
      refine Zw_V1 (k := 5) lm_X7_86 dX7_fitting_37 (by decide) (by first | decide | assumption | omega) (by first | rfl | assumption) (by rfl) (Nat.le_of_ble_eq_true rfl) ?_
      refine s_follow hx1 hrow hk51 hq51 hszb (by rw [hR1 k (by simp; omega), zup_ne hkn]; exact hsz) hab (by rw [zup_ne h48]; exact ra) (by rw [zup_ne h48]; exact rb) rfl (fun μ2 a2 b2 hO2 hab2 ra2 rb2 _ _ _ => ?_)
      have hR2 : zOff [19, 20, 43, 48, 49, 50] (zup μ0 (4 + f) 0 (nI i)) μ2 := hR1.tr hO2
      have hfi := x_fit.off (sz := sz) (hR1.sc hsc) (hok i c21) hq51
      split
      · rename_i hdec
        refine Zw_if_eq 52 dX7_fitting_40 (by decide) (fun c => absurd c (by decide)) (fun _ => ?_)
        refine Zw_iload_6 dX7_fitting_43 ?_
        refine Zw_iconst (v := 1) dX7_fitting_45 (by decide) ?_
        refine Zw_iload_7 dX7_fitting_46 ?_
        refine Zw_ishl dX7_fitting_48 ?_
        refine Zw_ior dX7_fitting_49 ?_
        refine Zw_istore_6 dX7_fitting_50 rfl ?_
        refine Zw_iinc_7 dX7_fitting_52 rfl (zincn _) ?_
        refine Zw_goto 17 dX7_fitting_55 (by decide) ?_
        refine l_fit6 hrow hk51 hq51 hszb hsz hx0 hbl f hf hok h m (i + 1) _ _ _ _ _ (by omega) (by omega) hR2 hab2 ra2 rb2 ?_
        show _ = q_orf _ i ||| _
        rw [hV]
        have hq2 : x_fit (zup μ0 (4 + f) 0 (nI i)) t n w q sz = true := by rw [← hfi]; simp [x_fit, hdec]
        simp [hq2, q_bit]
      · rename_i hdec
        refine Zw_if_eq 52 dX7_fitting_40 (by decide) (fun _ => ?_) (fun c => absurd c (by decide))
        refine Zw_iinc_7 dX7_fitting_52 rfl (zincn _) ?_
        refine Zw_goto 17 dX7_fitting_55 (by decide) ?_
        refine l_fit6 hrow hk51 hq51 hszb hsz hx0 hbl f hf hok h m (i + 1) _ _ _ _ _ (by omega) (by omega) hR2 hab2 ra2 rb2 ?_
        show _ = q_orf _ i ||| _
        rw [hV]
        have hq2 : x_fit (zup μ0 (4 + f) 0 (nI i)) t n w q sz = false := by rw [← hfi]; simp [x_fit, hdec]
        simp [hq2, q_bit]
set_option maxRecDepth 20000 in
theorem s_fit6 {k q sz w n cnt t bl a b : Nat} {Q : zQ} {μ : zMu} {τ : Int64} (hrow : zRowA k q) (hk51 : 51 < k) (hq51 : 51 < q) (hszb : sz ≤ 40) (hsz : μ k 2 = nI sz) (hx0 : x_ok μ cnt t n w) (hbl : bl ≤ 32) (f : Nat) (hf : f < n) (hok : ∀ v, v < bl → x_ok (zup μ (4 + f) 0 (nI v)) cnt t n w) (hab : x_ab a b) (ra : μ 48 2 = nI a) (rb : μ 48 3 = nI b) (h : ∀ μ2 a2 b2, zOff [19, 20, 43, 48, 49, 50] μ μ2 → x_ab a2 b2 → μ2 48 2 = nI a2 → μ2 48 3 = nI b2 → Q (some (.int (x_fits (fun v => x_fit (zup μ (4 + f) 0 (nI v)) t n w q sz) bl))) μ2 τ) : Zc 6 yX7_fitting cX7_fitting 8 (some .int) [.ref 48, .ref k, .int (nI f), .int 6, .int (nI bl)] μ τ Q := by
  refine Zc.mk 3 [.ref 48, .ref k, .int (nI f), .int 6, .int (nI bl), .null, .null, .null] rfl (by decide) (Nat.le_of_ble_eq_true rfl) ?_
  refine Zw_aload_0 dX7_fitting_0 ?_
  refine Zw_getr 1 lf_X7_18 dX7_fitting_1 (by first | decide | assumption | omega) (by first | rfl | assumption) (by rfl) ?_
  refine Zw_iload_2 dX7_fitting_4 ?_
  refine Zw_iload_3 dX7_fitting_5 ?_
  refine Zw_V2 (k := 1) lm_X7_78 dX7_fitting_6 (by decide) (by first | decide | assumption | omega) (by first | rfl | assumption) (by rfl) (Nat.le_of_ble_eq_true rfl) ?_
  refine s_known6 n hx0.2.1.1 hx0.2.1.2.1 hf ?_
  refine Zw_istore_5 dX7_fitting_9 rfl ?_
  refine Zw_iconst (v := 0) dX7_fitting_11 (by decide) ?_
  refine Zw_istore_6 dX7_fitting_12 rfl ?_
  refine Zw_iconst (v := 0) dX7_fitting_14 (by decide) ?_
  refine Zw_istore_7 dX7_fitting_15 rfl ?_
  exact l_fit6 hrow hk51 hq51 hszb hsz hx0 hbl f hf hok h (bl + 1) 0 _ a b (μ (4 + f) 0) _ (by omega) (by omega) (by rw [zup_self]; exact zOff.rf) hab ra rb rfl
set_option maxRecDepth 20000 in
theorem l_fit4 {Q : zQ} {μ0 : zMu} {τ : Int64} {k q sz w n cnt t bl : Nat} (hrow : zRowA k q) (hk51 : 51 < k) (hq51 : 51 < q) (hszb : sz ≤ 40) (hsz : μ0 k 2 = nI sz) (hx0 : x_ok μ0 cnt t n w) (hbl : bl ≤ 32) (f : Nat) (hf : f < n) (hok : ∀ v, v < bl → x_ok (zup μ0 (4 + f) 1 (nI v)) cnt t n w) (h : ∀ μ2 a2 b2, zOff [19, 20, 43, 48, 49, 50] μ0 μ2 → x_ab a2 b2 → μ2 48 2 = nI a2 → μ2 48 3 = nI b2 → Q (some (.int (x_fits (fun v => x_fit (zup μ0 (4 + f) 1 (nI v)) t n w q sz) bl))) μ2 τ) : ∀ m i fs a b x μ, bl - i < m → i ≤ bl → zOff [19, 20, 43, 48, 49, 50] (zup μ0 (4 + f) 1 x) μ → x_ab a b → μ 48 2 = nI a → μ 48 3 = nI b → fs = q_orf (fun v => if (fun v => x_fit (zup μ0 (4 + f) 1 (nI v)) t n w q sz) v then q_bit v else 0) i → Zw 6 RX7 cX7_fitting 8 (some .int) Q 17 [.ref 48, .ref k, .int (nI f), .int 4, .int (nI bl), .int (μ0 (4 + f) 1), .int fs, .int (nI i)] [] μ τ
  | 0, i, _, _, _, _, _, hm, _, _, _, _, _, _ => absurd hm (by omega)
  | m + 1, i, fs, a, b, x, μ, hm, hi, hRel, hab, ra, rb, hV => by
    have hn5 := hx0.2.1.1
    have hn1 := hx0.2.1.2.1
    have hsc : ∀ k ∈ ([19, 20, 43, 48, 49, 50] : List Nat), k ∈ zSC := by decide
    have hkk : (4 + f) ∉ zSC := zSC_lt (by omega)
    have hkn : k ≠ (4 + f) := by omega
    have hqn : q ≠ (4 + f) := by omega
    have h48 : (48 : Nat) ≠ (4 + f) := by omega
    have hk6 : (4 + f) ∉ ([19, 20, 43, 48, 49, 50] : List Nat) := fun e => hkk (hsc _ e)
    refine Zw_iload_7 dX7_fitting_17 ?_
    refine Zw_iload_4 dX7_fitting_19 ?_
    refine Zw_nicmp_ge (i) (bl) 58 dX7_fitting_21 (by decide) rfl rfl (by omega) (by omega) (fun c21 => ?_) (fun c21 => ?_)
    · refine Zw_aload_0 dX7_fitting_58 ?_
      refine Zw_getr 1 lf_X7_18 dX7_fitting_59 (by first | decide | assumption | omega) (by first | rfl | assumption) (by rfl) ?_
      refine Zw_iload_2 dX7_fitting_62 ?_
      refine Zw_iload_3 dX7_fitting_63 ?_
      refine Zw_iload_5 dX7_fitting_64 ?_
      refine Zw_V3 (k := 1) lm_X7_82 dX7_fitting_66 (by decide) (by first | decide | assumption | omega) (by first | rfl | assumption) (by rfl) (Nat.le_of_ble_eq_true rfl) ?_
      refine s_become4 n hn5 (by rw [hRel 1 (by simp), zup_at, if_neg (by omega)]; exact hn1) hf ?_
      refine Zw_iload_6 dX7_fitting_69 ?_
      refine Zw_ireturn dX7_fitting_71 (by first | rfl | assumption) ?_
      obtain rfl : i = bl := by omega
      subst hV
      have hR3 := zOff.re6 (k := (4 + f)) (j := 1) hk6 hRel (μ0 (4 + f) 1)
      rw [zup_self] at hR3
      exact h _ a b hR3 hab (by rw [zup_ne h48]; exact ra) (by rw [zup_ne h48]; exact rb)
    · refine Zw_aload_0 dX7_fitting_24 ?_
      refine Zw_getr 1 lf_X7_18 dX7_fitting_25 (by first | decide | assumption | omega) (by first | rfl | assumption) (by rfl) ?_
      refine Zw_iload_2 dX7_fitting_28 ?_
      refine Zw_iload_3 dX7_fitting_29 ?_
      refine Zw_iload_7 dX7_fitting_30 ?_
      refine Zw_V3 (k := 1) lm_X7_82 dX7_fitting_32 (by decide) (by first | decide | assumption | omega) (by first | rfl | assumption) (by rfl) (Nat.le_of_ble_eq_true rfl) ?_
      refine s_become4 n hn5 (by rw [hRel 1 (by simp), zup_at, if_neg (by omega)]; exact hn1) hf ?_
      have hR1 : zOff [19, 20, 43, 48, 49, 50] (zup μ0 (4 + f) 1 (nI i)) (zup μ (4 + f) 1 (nI i)) := zOff.re6 hk6 hRel (nI i)
      have hx1 := (hok i c21).off (hR1.sc hsc)
      have hrw := hrow
      obtain ⟨hk, hs, hq, hsq, hne⟩ := id hrow
      refine Zw_aload_0 dX7_fitting_35 ?_
      refine Zw_aload_1 dX7_fitting_36 ?_
      refine Zw_V1 (k := 5) lm_X7_86 dX7_fitting_37 (by decide) (by first | decide | assumption | omega) (by first | rfl | assumption) (by rfl) (Nat.le_of_ble_eq_true rfl) ?_
      refine s_follow hx1 hrow hk51 hq51 hszb (by rw [hR1 k (by simp; omega), zup_ne hkn]; exact hsz) hab (by rw [zup_ne h48]; exact ra) (by rw [zup_ne h48]; exact rb) rfl (fun μ2 a2 b2 hO2 hab2 ra2 rb2 _ _ _ => ?_)
      have hR2 : zOff [19, 20, 43, 48, 49, 50] (zup μ0 (4 + f) 1 (nI i)) μ2 := hR1.tr hO2
      have hfi := x_fit.off (sz := sz) (hR1.sc hsc) (hok i c21) hq51
      split
      · rename_i hdec
        refine Zw_if_eq 52 dX7_fitting_40 (by decide) (fun c => absurd c (by decide)) (fun _ => ?_)
        refine Zw_iload_6 dX7_fitting_43 ?_
        refine Zw_iconst (v := 1) dX7_fitting_45 (by decide) ?_
        refine Zw_iload_7 dX7_fitting_46 ?_
        refine Zw_ishl dX7_fitting_48 ?_
        refine Zw_ior dX7_fitting_49 ?_
        refine Zw_istore_6 dX7_fitting_50 rfl ?_
        refine Zw_iinc_7 dX7_fitting_52 rfl (zincn _) ?_
        refine Zw_goto 17 dX7_fitting_55 (by decide) ?_
        refine l_fit4 hrow hk51 hq51 hszb hsz hx0 hbl f hf hok h m (i + 1) _ _ _ _ _ (by omega) (by omega) hR2 hab2 ra2 rb2 ?_
        show _ = q_orf _ i ||| _
        rw [hV]
        have hq2 : x_fit (zup μ0 (4 + f) 1 (nI i)) t n w q sz = true := by rw [← hfi]; simp [x_fit, hdec]
        simp [hq2, q_bit]
      · rename_i hdec
        refine Zw_if_eq 52 dX7_fitting_40 (by decide) (fun _ => ?_) (fun c => absurd c (by decide))
        refine Zw_iinc_7 dX7_fitting_52 rfl (zincn _) ?_
        refine Zw_goto 17 dX7_fitting_55 (by decide) ?_
        refine l_fit4 hrow hk51 hq51 hszb hsz hx0 hbl f hf hok h m (i + 1) _ _ _ _ _ (by omega) (by omega) hR2 hab2 ra2 rb2 ?_
        show _ = q_orf _ i ||| _
        rw [hV]
        have hq2 : x_fit (zup μ0 (4 + f) 1 (nI i)) t n w q sz = false := by rw [← hfi]; simp [x_fit, hdec]
        simp [hq2, q_bit]
set_option maxRecDepth 20000 in
theorem s_fit4 {k q sz w n cnt t bl a b : Nat} {Q : zQ} {μ : zMu} {τ : Int64} (hrow : zRowA k q) (hk51 : 51 < k) (hq51 : 51 < q) (hszb : sz ≤ 40) (hsz : μ k 2 = nI sz) (hx0 : x_ok μ cnt t n w) (hbl : bl ≤ 32) (f : Nat) (hf : f < n) (hok : ∀ v, v < bl → x_ok (zup μ (4 + f) 1 (nI v)) cnt t n w) (hab : x_ab a b) (ra : μ 48 2 = nI a) (rb : μ 48 3 = nI b) (h : ∀ μ2 a2 b2, zOff [19, 20, 43, 48, 49, 50] μ μ2 → x_ab a2 b2 → μ2 48 2 = nI a2 → μ2 48 3 = nI b2 → Q (some (.int (x_fits (fun v => x_fit (zup μ (4 + f) 1 (nI v)) t n w q sz) bl))) μ2 τ) : Zc 6 yX7_fitting cX7_fitting 8 (some .int) [.ref 48, .ref k, .int (nI f), .int 4, .int (nI bl)] μ τ Q := by
  refine Zc.mk 3 [.ref 48, .ref k, .int (nI f), .int 4, .int (nI bl), .null, .null, .null] rfl (by decide) (Nat.le_of_ble_eq_true rfl) ?_
  refine Zw_aload_0 dX7_fitting_0 ?_
  refine Zw_getr 1 lf_X7_18 dX7_fitting_1 (by first | decide | assumption | omega) (by first | rfl | assumption) (by rfl) ?_
  refine Zw_iload_2 dX7_fitting_4 ?_
  refine Zw_iload_3 dX7_fitting_5 ?_
  refine Zw_V2 (k := 1) lm_X7_78 dX7_fitting_6 (by decide) (by first | decide | assumption | omega) (by first | rfl | assumption) (by rfl) (Nat.le_of_ble_eq_true rfl) ?_
  refine s_known4 n hx0.2.1.1 hx0.2.1.2.1 hf ?_
  refine Zw_istore_5 dX7_fitting_9 rfl ?_
  refine Zw_iconst (v := 0) dX7_fitting_11 (by decide) ?_
  refine Zw_istore_6 dX7_fitting_12 rfl ?_
  refine Zw_iconst (v := 0) dX7_fitting_14 (by decide) ?_
  refine Zw_istore_7 dX7_fitting_15 rfl ?_
  exact l_fit4 hrow hk51 hq51 hszb hsz hx0 hbl f hf hok h (bl + 1) 0 _ a b (μ (4 + f) 1) _ (by omega) (by omega) (by rw [zup_self]; exact zOff.rf) hab ra rb rfl
