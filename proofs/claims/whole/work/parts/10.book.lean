def zRowA (k q : Nat) : Prop := k < 78 ∧ zSh k = .inl (5, [q + 3, 0, 0]) ∧ q < 78 ∧ zSh q = .inr (.inl (.int, 40)) ∧ q ≠ k
theorem zRow_of : ∀ {i : Nat}, i < 4 → zRowA (53 + 2 * i) (54 + 2 * i)
  | 0, _ => ⟨by decide, rfl, by decide, rfl, by decide⟩
  | 1, _ => ⟨by decide, rfl, by decide, rfl, by decide⟩
  | 2, _ => ⟨by decide, rfl, by decide, rfl, by decide⟩
  | 3, _ => ⟨by decide, rfl, by decide, rfl, by decide⟩
  | n + 4, h => absurd h (by omega)
theorem zRow_g : ∀ {i : Nat}, i < 4 → ([53, 55, 57, 59] : List Nat)[i]? = some (53 + 2 * i)
  | 0, _ => rfl | 1, _ => rfl | 2, _ => rfl | 3, _ => rfl | n + 4, h => absurd h (by omega)
def zTextA (k c b : Nat) : Prop := k < 78 ∧ zSh k = .inl (8, [c + 3, b + 3, 0, 0]) ∧ c < 78 ∧ zSh c = .inr (.inl (.int, 160)) ∧ b < 78 ∧ zSh b = .inr (.inl (.int, 4)) ∧ c ≠ k ∧ b ≠ k ∧ b ≠ c
theorem zText_of : ∀ {t : Nat}, t < 6 → zTextA (21 + 3 * t) (22 + 3 * t) (23 + 3 * t)
  | 0, _ => ⟨by decide, rfl, by decide, rfl, by decide, rfl, by decide, by decide, by decide⟩
  | 1, _ => ⟨by decide, rfl, by decide, rfl, by decide, rfl, by decide, by decide, by decide⟩
  | 2, _ => ⟨by decide, rfl, by decide, rfl, by decide, rfl, by decide, by decide, by decide⟩
  | 3, _ => ⟨by decide, rfl, by decide, rfl, by decide, rfl, by decide, by decide, by decide⟩
  | 4, _ => ⟨by decide, rfl, by decide, rfl, by decide, rfl, by decide, by decide, by decide⟩
  | 5, _ => ⟨by decide, rfl, by decide, rfl, by decide, rfl, by decide, by decide, by decide⟩
  | n + 6, h => absurd h (by omega)
theorem zText_g : ∀ {t : Nat}, t < 6 → ([21, 24, 27, 30, 33, 36] : List Nat)[t]? = some (21 + 3 * t)
  | 0, _ => rfl | 1, _ => rfl | 2, _ => rfl | 3, _ => rfl | 4, _ => rfl | 5, _ => rfl | n + 6, h => absurd h (by omega)
theorem zclip : ∀ n, n ≤ 40 → (if (0 : Int32) < (if (40 : Int32) < nI n then 40 else nI n) then (if (40 : Int32) < nI n then 40 else nI n) else 0) = nI n := by decide +kernel
def q_cut (s v : Int32) : Int32 := if s = 0 then v.toInt8.toInt32 else if s = 1 then v.toInt16.toInt32 else v
set_option maxRecDepth 20000 in
theorem s_rowBecome {k q n : Nat} {so : Int32} {Q : zQ} {μ : zMu} {τ : Int64} (hr : zRowA k q) (hn : n ≤ 40) (h : ∀ μ2, zOff [k, q] μ μ2 → μ2 k 1 = so → μ2 k 2 = nI n → (∀ i, i < 40 → μ2 q i = 0) → Q none μ2 τ) : Zc 1 yX5_become cX5_become 3 none [.ref k, .int so, .int (nI n)] μ τ Q := by
  refine Zc.mk 0 [.ref k, .int so, .int (nI n)] rfl (by decide) (Nat.le_of_ble_eq_true rfl) ?_
  obtain ⟨hk, hs, hq, hsq, hne⟩ := hr
  refine Zw_aload_0 dX5_become_0 ?_
  refine Zw_iload_1 dX5_become_1 ?_
  refine Zw_put lp_X5_15 dX5_become_2 (by first | decide | assumption | omega) (by first | rfl | assumption) (by rfl) (by first | rfl | assumption) (by first | rfl | assumption) ?_
  refine Zw_aload_0 dX5_become_5 ?_
  refine Zw_iconst (v := 0) dX5_become_6 (by decide) ?_
  refine Zw_iload_2 dX5_become_7 ?_
  refine Zw_bipush (v := 40) dX5_become_8 (by decide) ?_
  refine Zw_min lcm_X5_19 dX5_become_10 (by decide) (Nat.le_of_ble_eq_true rfl) ?_
  refine Zw_max lcm_X5_25 dX5_become_13 (by decide) (Nat.le_of_ble_eq_true rfl) ?_
  rw [zclip n hn]
  refine Zw_put lp_X5_28 dX5_become_16 (by first | decide | assumption | omega) (by first | rfl | assumption) (by rfl) (by first | rfl | assumption) (by first | rfl | assumption) ?_
  refine Zw_aload_0 dX5_become_19 ?_
  refine Zw_getr q lf_X5_9 dX5_become_20 (by first | decide | assumption | omega) (by first | rfl | assumption) (by first | rfl | assumption) ?_
  refine Zw_iconst (v := 0) dX5_become_23 (by decide) ?_
  refine Zw_S2 (k := 0) lm_X5_31 dX5_become_24 (by decide) (Nat.le_of_ble_eq_true rfl) ?_
  refine s_fill hq hsq (by decide) (fun μ1 hO1 hV1 => ?_)
  refine Zw_return dX5_become_27 ?_
  refine h μ1 (((zOff.rf.up (by simp)).up (by simp)).tr (hO1.sub (by simp))) ?_ ?_ hV1
  · rw [hO1 k (by simp; exact Ne.symm hne)]; simp [zup_at]
  · rw [hO1 k (by simp; exact Ne.symm hne)]; simp [zup_at]
set_option maxRecDepth 20000 in
theorem s_rowPut {k q n i : Nat} {v : Int32} {Q : zQ} {μ : zMu} {τ : Int64} (hr : zRowA k q) (hn : n ≤ 40) (hi : i < n) (hsz : μ k 2 = nI n) (h : Q none (zup μ q i (q_cut (μ k 1) v)) τ) : Zc 1 yX5_put cX5_put 3 none [.ref k, .int (nI i), .int v] μ τ Q := by
  refine Zc.mk 0 [.ref k, .int (nI i), .int v] rfl (by decide) (Nat.le_of_ble_eq_true rfl) ?_
  obtain ⟨hk, hs, hq, hsq, hne⟩ := hr
  refine Zw_iload_1 dX5_put_0 ?_
  refine Zw_aload_0 dX5_put_1 ?_
  refine Zw_geti lf_X5_28 dX5_put_2 (by first | decide | assumption | omega) (by first | rfl | assumption) (by rfl) ?_
  refine Zw_N2 (k := 0) lm_X5_37 dX5_put_5 (by decide) (Nat.le_of_ble_eq_true rfl) ?_
  refine s_within n (by rw [hsz]; exact nI_toInt (by omega)) (fun _ => ?_) (fun a0 => absurd (vp_in_nI hi (by omega)) a0)
  refine Zw_if_ne 12 dX5_put_8 (by decide) (fun _ => ?_) (fun c => absurd c (by decide))
  refine Zw_aload_0 dX5_put_12 ?_
  refine Zw_geti lf_X5_15 dX5_put_13 (by first | decide | assumption | omega) (by first | rfl | assumption) (by rfl) ?_
  refine Zw_if_ne 30 dX5_put_16 (by decide) (fun c16 => ?_) (fun c16 => ?_)
  · refine Zw_aload_0 dX5_put_30 ?_
    refine Zw_geti lf_X5_15 dX5_put_31 (by first | decide | assumption | omega) (by first | rfl | assumption) (by rfl) ?_
    refine Zw_iconst (v := 1) dX5_put_34 (by decide) ?_
    refine Zw_icmp_ne 49 dX5_put_35 (by decide) (fun c35 => ?_) (fun c35 => ?_)
    · refine Zw_aload_0 dX5_put_49 ?_
      refine Zw_getr q lf_X5_9 dX5_put_50 (by first | decide | assumption | omega) (by first | rfl | assumption) (by first | rfl | assumption) ?_
      refine Zw_iload_1 dX5_put_53 ?_
      refine Zw_iload_2 dX5_put_54 ?_
      refine Zw_iastn (i) dX5_put_55 (by first | decide | assumption | omega) (by first | rfl | assumption) rfl (by omega) (by decide) ?_
      refine Zw_return dX5_put_56 ?_
      simpa [q_cut, *] using h
    · refine Zw_aload_0 dX5_put_38 ?_
      refine Zw_getr q lf_X5_9 dX5_put_39 (by first | decide | assumption | omega) (by first | rfl | assumption) (by first | rfl | assumption) ?_
      refine Zw_iload_1 dX5_put_42 ?_
      refine Zw_iload_2 dX5_put_43 ?_
      refine Zw_i2s dX5_put_44 ?_
      refine Zw_iastn (i) dX5_put_45 (by first | decide | assumption | omega) (by first | rfl | assumption) rfl (by omega) (by decide) ?_
      refine Zw_goto 56 dX5_put_46 (by decide) ?_
      refine Zw_return dX5_put_56 ?_
      simpa [q_cut, *] using h
  · refine Zw_aload_0 dX5_put_19 ?_
    refine Zw_getr q lf_X5_9 dX5_put_20 (by first | decide | assumption | omega) (by first | rfl | assumption) (by first | rfl | assumption) ?_
    refine Zw_iload_1 dX5_put_23 ?_
    refine Zw_iload_2 dX5_put_24 ?_
    refine Zw_i2b dX5_put_25 ?_
    refine Zw_iastn (i) dX5_put_26 (by first | decide | assumption | omega) (by first | rfl | assumption) rfl (by omega) (by decide) ?_
    refine Zw_goto 56 dX5_put_27 (by decide) ?_
    refine Zw_return dX5_put_56 ?_
    simpa [q_cut, *] using h
set_option maxRecDepth 20000 in
theorem s_rowHolds {k q n : Nat} {i m : Int32} {Q : zQ} {μ : zMu} {τ : Int64} (hr : zRowA k q) (hn : n ≤ 40) (hsz : μ k 2 = nI n) (h1 : 0 ≤ i.toInt → 0 ≤ m.toInt → i.toInt + m.toInt ≤ n → Q (some (.int 1)) μ τ) (h0 : ¬ (0 ≤ i.toInt ∧ 0 ≤ m.toInt ∧ i.toInt + m.toInt ≤ n) → Q (some (.int 0)) μ τ) : Zc 0 yX5_holds cX5_holds 3 (some .boolean) [.ref k, .int i, .int m] μ τ Q := by
  refine Zc.mk 0 [.ref k, .int i, .int m] rfl (by decide) (Nat.le_of_ble_eq_true rfl) ?_
  obtain ⟨hk, hs, hq, hsq, hne⟩ := hr
  refine Zw_iload_1 dX5_holds_0 ?_
  refine Zw_if_lt 30 dX5_holds_1 (by decide) (fun c1 => ?_) (fun c1 => ?_)
  · refine Zw_iconst (v := 0) dX5_holds_30 (by decide) ?_
    refine Zw_ireturn dX5_holds_31 (by first | rfl | assumption) ?_
    exact h0 (fun e => by have := Int32.lt_iff_toInt_lt.mp c1; simp at this; omega)
  · refine Zw_iload_2 dX5_holds_4 ?_
    refine Zw_if_lt 30 dX5_holds_5 (by decide) (fun c5 => ?_) (fun c5 => ?_)
    · refine Zw_iconst (v := 0) dX5_holds_30 (by decide) ?_
      refine Zw_ireturn dX5_holds_31 (by first | rfl | assumption) ?_
      exact h0 (fun e => by have := Int32.lt_iff_toInt_lt.mp c5; simp at this; omega)
    · refine Zw_iload_1 dX5_holds_8 ?_
      refine Zw_aload_0 dX5_holds_9 ?_
      refine Zw_getv (nI n) lf_X5_28 dX5_holds_10 (by first | decide | assumption | omega) (by first | rfl | assumption) (by rfl) hsz ?_
      refine Zw_icmp_gt 30 dX5_holds_13 (by decide) (fun c13 => ?_) (fun c13 => ?_)
      · refine Zw_iconst (v := 0) dX5_holds_30 (by decide) ?_
        refine Zw_ireturn dX5_holds_31 (by first | rfl | assumption) ?_
        exact h0 (fun e => by have := Int32.lt_iff_toInt_lt.mp c13; rw [nI_toInt (by omega)] at this; omega)
      · obtain ⟨a, ha, rfl⟩ := nI_of c1
        obtain ⟨b, hb, rfl⟩ := nI_of c5
        have hle : a ≤ n := (nI_leI ha (by omega)).mp (Int32.not_lt.mp c13)
        refine Zw_iload_2 dX5_holds_16 ?_
        refine Zw_aload_0 dX5_holds_17 ?_
        refine Zw_getv (nI n) lf_X5_28 dX5_holds_18 (by first | decide | assumption | omega) (by first | rfl | assumption) (by rfl) hsz ?_
        refine Zw_iload_1 dX5_holds_21 ?_
        refine Zw_isub dX5_holds_22 ?_
        rw [pk_sub hle]
        refine Zw_icmp_gt 30 dX5_holds_23 (by decide) (fun c23 => ?_) (fun c23 => ?_)
        · refine Zw_iconst (v := 0) dX5_holds_30 (by decide) ?_
          refine Zw_ireturn dX5_holds_31 (by first | rfl | assumption) ?_
          exact h0 (fun e => by rw [nI_toInt ha, nI_toInt hb] at e; have := (nI_ltI (by omega) hb).mp c23; omega)
        · refine Zw_iconst (v := 1) dX5_holds_26 (by decide) ?_
          refine Zw_goto 31 dX5_holds_27 (by decide) ?_
          refine Zw_ireturn dX5_holds_31 (by first | rfl | assumption) ?_
          exact h1 (by rw [nI_toInt ha]; omega) (by rw [nI_toInt hb]; omega) (by rw [nI_toInt ha, nI_toInt hb]; have := (nI_leI hb (by omega)).mp (Int32.not_lt.mp c23); omega)
set_option maxRecDepth 20000 in
theorem s_txClear {k c b : Nat} {Q : zQ} {μ : zMu} {τ : Int64} (hr : zTextA k c b) (h : Q none (zup (zup μ k 2 0) k 3 0) τ) : Zc 0 yX8_clear cX8_clear 1 none [.ref k] μ τ Q := by
  refine Zc.mk 0 [.ref k] rfl (by decide) (Nat.le_of_ble_eq_true rfl) ?_
  obtain ⟨hk, hs, hc, hsc, hb, hsb, n1, n2, n3⟩ := hr
  refine Zw_aload_0 dX8_clear_0 ?_
  refine Zw_iconst (v := 0) dX8_clear_1 (by decide) ?_
  refine Zw_put lp_X8_18 dX8_clear_2 (by first | decide | assumption | omega) (by first | rfl | assumption) (by rfl) (by first | rfl | assumption) (by first | rfl | assumption) ?_
  refine Zw_aload_0 dX8_clear_5 ?_
  refine Zw_iconst (v := 0) dX8_clear_6 (by decide) ?_
  refine Zw_put lp_X8_22 dX8_clear_7 (by first | decide | assumption | omega) (by first | rfl | assumption) (by rfl) (by first | rfl | assumption) (by first | rfl | assumption) ?_
  refine Zw_return dX8_clear_10 ?_
  exact h
set_option maxRecDepth 20000 in
theorem s_txBegin0 {k c b : Nat} {Q : zQ} {μ : zMu} {τ : Int64} (hr : zTextA k c b) (h : Q none (zup μ b 0 (μ k 2)) τ) : Zc 1 yX8_beginPart cX8_beginPart 2 none [.ref k, .int 0] μ τ Q := by
  refine Zc.mk 0 [.ref k, .int 0] rfl (by decide) (Nat.le_of_ble_eq_true rfl) ?_
  obtain ⟨hk, hs, hc, hsc, hb, hsb, n1, n2, n3⟩ := hr
  refine Zw_iload_1 dX8_beginPart_0 ?_
  refine Zw_aload_0 dX8_beginPart_1 ?_
  refine Zw_getr b lf_X8_15 dX8_beginPart_2 (by first | decide | assumption | omega) (by first | rfl | assumption) (by first | rfl | assumption) ?_
  refine Zw_alen (n := 4) dX8_beginPart_5 (by first | decide | assumption | omega) (by first | rfl | assumption) ?_
  refine Zw_N2 (k := 0) lm_X8_26 dX8_beginPart_6 (by decide) (Nat.le_of_ble_eq_true rfl) ?_
  refine s_within 4 (by decide) (fun _ => ?_) (fun a0 => absurd (by unfold vp_in; decide) a0)
  refine Zw_if_eq 22 dX8_beginPart_9 (by decide) (fun c => absurd c (by decide)) (fun _ => ?_)
  refine Zw_aload_0 dX8_beginPart_12 ?_
  refine Zw_getr b lf_X8_15 dX8_beginPart_13 (by first | decide | assumption | omega) (by first | rfl | assumption) (by first | rfl | assumption) ?_
  refine Zw_iload_1 dX8_beginPart_16 ?_
  refine Zw_aload_0 dX8_beginPart_17 ?_
  refine Zw_geti lf_X8_18 dX8_beginPart_18 (by first | decide | assumption | omega) (by first | rfl | assumption) (by rfl) ?_
  refine Zw_iastn (0) dX8_beginPart_21 (by first | decide | assumption | omega) (by first | rfl | assumption) rfl (by omega) (by decide) ?_
  refine Zw_return dX8_beginPart_22 ?_
  exact h
set_option maxRecDepth 20000 in
theorem s_txBegin1 {k c b : Nat} {Q : zQ} {μ : zMu} {τ : Int64} (hr : zTextA k c b) (h : Q none (zup μ b 1 (μ k 2)) τ) : Zc 1 yX8_beginPart cX8_beginPart 2 none [.ref k, .int 1] μ τ Q := by
  refine Zc.mk 0 [.ref k, .int 1] rfl (by decide) (Nat.le_of_ble_eq_true rfl) ?_
  obtain ⟨hk, hs, hc, hsc, hb, hsb, n1, n2, n3⟩ := hr
  refine Zw_iload_1 dX8_beginPart_0 ?_
  refine Zw_aload_0 dX8_beginPart_1 ?_
  refine Zw_getr b lf_X8_15 dX8_beginPart_2 (by first | decide | assumption | omega) (by first | rfl | assumption) (by first | rfl | assumption) ?_
  refine Zw_alen (n := 4) dX8_beginPart_5 (by first | decide | assumption | omega) (by first | rfl | assumption) ?_
  refine Zw_N2 (k := 0) lm_X8_26 dX8_beginPart_6 (by decide) (Nat.le_of_ble_eq_true rfl) ?_
  refine s_within 4 (by decide) (fun _ => ?_) (fun a0 => absurd (by unfold vp_in; decide) a0)
  refine Zw_if_eq 22 dX8_beginPart_9 (by decide) (fun c => absurd c (by decide)) (fun _ => ?_)
  refine Zw_aload_0 dX8_beginPart_12 ?_
  refine Zw_getr b lf_X8_15 dX8_beginPart_13 (by first | decide | assumption | omega) (by first | rfl | assumption) (by first | rfl | assumption) ?_
  refine Zw_iload_1 dX8_beginPart_16 ?_
  refine Zw_aload_0 dX8_beginPart_17 ?_
  refine Zw_geti lf_X8_18 dX8_beginPart_18 (by first | decide | assumption | omega) (by first | rfl | assumption) (by rfl) ?_
  refine Zw_iastn (1) dX8_beginPart_21 (by first | decide | assumption | omega) (by first | rfl | assumption) rfl (by omega) (by decide) ?_
  refine Zw_return dX8_beginPart_22 ?_
  exact h
set_option maxRecDepth 20000 in
theorem s_txBegin2 {k c b : Nat} {Q : zQ} {μ : zMu} {τ : Int64} (hr : zTextA k c b) (h : Q none (zup μ b 2 (μ k 2)) τ) : Zc 1 yX8_beginPart cX8_beginPart 2 none [.ref k, .int 2] μ τ Q := by
  refine Zc.mk 0 [.ref k, .int 2] rfl (by decide) (Nat.le_of_ble_eq_true rfl) ?_
  obtain ⟨hk, hs, hc, hsc, hb, hsb, n1, n2, n3⟩ := hr
  refine Zw_iload_1 dX8_beginPart_0 ?_
  refine Zw_aload_0 dX8_beginPart_1 ?_
  refine Zw_getr b lf_X8_15 dX8_beginPart_2 (by first | decide | assumption | omega) (by first | rfl | assumption) (by first | rfl | assumption) ?_
  refine Zw_alen (n := 4) dX8_beginPart_5 (by first | decide | assumption | omega) (by first | rfl | assumption) ?_
  refine Zw_N2 (k := 0) lm_X8_26 dX8_beginPart_6 (by decide) (Nat.le_of_ble_eq_true rfl) ?_
  refine s_within 4 (by decide) (fun _ => ?_) (fun a0 => absurd (by unfold vp_in; decide) a0)
  refine Zw_if_eq 22 dX8_beginPart_9 (by decide) (fun c => absurd c (by decide)) (fun _ => ?_)
  refine Zw_aload_0 dX8_beginPart_12 ?_
  refine Zw_getr b lf_X8_15 dX8_beginPart_13 (by first | decide | assumption | omega) (by first | rfl | assumption) (by first | rfl | assumption) ?_
  refine Zw_iload_1 dX8_beginPart_16 ?_
  refine Zw_aload_0 dX8_beginPart_17 ?_
  refine Zw_geti lf_X8_18 dX8_beginPart_18 (by first | decide | assumption | omega) (by first | rfl | assumption) (by rfl) ?_
  refine Zw_iastn (2) dX8_beginPart_21 (by first | decide | assumption | omega) (by first | rfl | assumption) rfl (by omega) (by decide) ?_
  refine Zw_return dX8_beginPart_22 ?_
  exact h
set_option maxRecDepth 20000 in
theorem s_txBegin3 {k c b : Nat} {Q : zQ} {μ : zMu} {τ : Int64} (hr : zTextA k c b) (h : Q none (zup μ b 3 (μ k 2)) τ) : Zc 1 yX8_beginPart cX8_beginPart 2 none [.ref k, .int 3] μ τ Q := by
  refine Zc.mk 0 [.ref k, .int 3] rfl (by decide) (Nat.le_of_ble_eq_true rfl) ?_
  obtain ⟨hk, hs, hc, hsc, hb, hsb, n1, n2, n3⟩ := hr
  refine Zw_iload_1 dX8_beginPart_0 ?_
  refine Zw_aload_0 dX8_beginPart_1 ?_
  refine Zw_getr b lf_X8_15 dX8_beginPart_2 (by first | decide | assumption | omega) (by first | rfl | assumption) (by first | rfl | assumption) ?_
  refine Zw_alen (n := 4) dX8_beginPart_5 (by first | decide | assumption | omega) (by first | rfl | assumption) ?_
  refine Zw_N2 (k := 0) lm_X8_26 dX8_beginPart_6 (by decide) (Nat.le_of_ble_eq_true rfl) ?_
  refine s_within 4 (by decide) (fun _ => ?_) (fun a0 => absurd (by unfold vp_in; decide) a0)
  refine Zw_if_eq 22 dX8_beginPart_9 (by decide) (fun c => absurd c (by decide)) (fun _ => ?_)
  refine Zw_aload_0 dX8_beginPart_12 ?_
  refine Zw_getr b lf_X8_15 dX8_beginPart_13 (by first | decide | assumption | omega) (by first | rfl | assumption) (by first | rfl | assumption) ?_
  refine Zw_iload_1 dX8_beginPart_16 ?_
  refine Zw_aload_0 dX8_beginPart_17 ?_
  refine Zw_geti lf_X8_18 dX8_beginPart_18 (by first | decide | assumption | omega) (by first | rfl | assumption) (by rfl) ?_
  refine Zw_iastn (3) dX8_beginPart_21 (by first | decide | assumption | omega) (by first | rfl | assumption) rfl (by omega) (by decide) ?_
  refine Zw_return dX8_beginPart_22 ?_
  exact h
set_option maxRecDepth 20000 in
theorem s_txAdd {k c b n : Nat} {x : Int32} {Q : zQ} {μ : zMu} {τ : Int64} (hr : zTextA k c b) (hn : n ≤ 160) (hln : μ k 2 = nI n) (hfull : n = 160 → Q none μ τ) (h : n < 160 → Q none (zup (zup (zup μ c n x) k 2 (nI (n + 1))) k 3 (if μ k 3 ≠ 0 ∨ x = -102 then 1 else 0)) τ) : Zc 0 yX8_add cX8_add 2 none [.ref k, .int x] μ τ Q := by
  refine Zc.mk 0 [.ref k, .int x] rfl (by decide) (Nat.le_of_ble_eq_true rfl) ?_
  obtain ⟨hk, hs, hc, hsc, hb, hsb, n1, n2, n3⟩ := hr
  refine Zw_aload_0 dX8_add_0 ?_
  refine Zw_getv (nI n) lf_X8_18 dX8_add_1 (by first | decide | assumption | omega) (by first | rfl | assumption) (by rfl) hln ?_
  refine Zw_aload_0 dX8_add_4 ?_
  refine Zw_getr c lf_X8_9 dX8_add_5 (by first | decide | assumption | omega) (by first | rfl | assumption) (by first | rfl | assumption) ?_
  refine Zw_alen dX8_add_8 (by first | decide | assumption | omega) (by first | rfl | assumption) ?_
  refine Zw_nicmp_ge (n) (160) 54 dX8_add_9 (by decide) rfl rfl (by omega) (by omega) (fun c9 => ?_) (fun c9 => ?_)
  · refine Zw_return dX8_add_54 ?_
    exact hfull (by omega)
  · refine Zw_aload_0 dX8_add_12 ?_
    refine Zw_getr c lf_X8_9 dX8_add_13 (by first | decide | assumption | omega) (by first | rfl | assumption) (by first | rfl | assumption) ?_
    refine Zw_aload_0 dX8_add_16 ?_
    refine Zw_getv (nI n) lf_X8_18 dX8_add_17 (by first | decide | assumption | omega) (by first | rfl | assumption) (by rfl) hln ?_
    refine Zw_iload_1 dX8_add_20 ?_
    refine Zw_iastn (n) dX8_add_21 (by first | decide | assumption | omega) (by first | rfl | assumption) rfl (by omega) (by decide) ?_
    refine Zw_aload_0 dX8_add_22 ?_
    refine Zw_dup dX8_add_23 rfl ?_
    refine Zw_getv (nI n) lf_X8_18 dX8_add_24 (by first | decide | assumption | omega) (by first | rfl | assumption) (by rfl) (by simp [zup_at, Ne.symm n1, hln]) ?_
    refine Zw_iconst (v := 1) dX8_add_27 (by decide) ?_
    refine Zw_nadd (n) (1) dX8_add_28 rfl rfl ?_
    refine Zw_put lp_X8_18 dX8_add_29 (by first | decide | assumption | omega) (by first | rfl | assumption) (by rfl) (by first | rfl | assumption) (by first | rfl | assumption) ?_
    refine Zw_aload_0 dX8_add_32 ?_
    refine Zw_aload_0 dX8_add_33 ?_
    refine Zw_getv (μ k 3) lf_X8_22 dX8_add_34 (by first | decide | assumption | omega) (by first | rfl | assumption) (by rfl) (by simp [zup_at, Ne.symm n1]) ?_
    refine Zw_if_ne 46 dX8_add_37 (by decide) (fun c37 => ?_) (fun c37 => ?_)
    · refine Zw_iconst (v := 1) dX8_add_46 (by decide) ?_
      refine Zw_goto 51 dX8_add_47 (by decide) ?_
      refine Zw_put lp_X8_22 dX8_add_51 (by first | decide | assumption | omega) (by first | rfl | assumption) (by rfl) (by first | rfl | assumption) (by first | rfl | assumption) ?_
      refine Zw_return dX8_add_54 ?_
      simpa [*] using h c9
    · refine Zw_iload_1 dX8_add_40 ?_
      refine Zw_bipush (v := (-102)) dX8_add_41 (by decide) ?_
      refine Zw_icmp_ne 50 dX8_add_43 (by decide) (fun c43 => ?_) (fun c43 => ?_)
      · refine Zw_iconst (v := 0) dX8_add_50 (by decide) ?_
        refine Zw_put lp_X8_22 dX8_add_51 (by first | decide | assumption | omega) (by first | rfl | assumption) (by rfl) (by first | rfl | assumption) (by first | rfl | assumption) ?_
        refine Zw_return dX8_add_54 ?_
        simpa [*] using h c9
      · refine Zw_iconst (v := 1) dX8_add_46 (by decide) ?_
        refine Zw_goto 51 dX8_add_47 (by decide) ?_
        refine Zw_put lp_X8_22 dX8_add_51 (by first | decide | assumption | omega) (by first | rfl | assumption) (by rfl) (by first | rfl | assumption) (by first | rfl | assumption) ?_
        refine Zw_return dX8_add_54 ?_
        simpa [*] using h c9
set_option maxRecDepth 20000 in
theorem s_isLess {a b : Int32} {Q : zQ} {μ : zMu} {τ : Int64} (h1 : a ≠ -1 → (b = -1 ∨ a < b) → Q (some (.int 1)) μ τ) (h0 : ¬ (a ≠ -1 ∧ (b = -1 ∨ a < b)) → Q (some (.int 0)) μ τ) : Zc 0 yX4_isLess cX4_isLess 2 (some .boolean) [.int a, .int b] μ τ Q := by
  refine Zc.mk 0 [.int a, .int b] rfl (by decide) (Nat.le_of_ble_eq_true rfl) ?_
  refine Zw_iload_0 dX4_isLess_0 ?_
  refine Zw_iconst (v := (-1)) dX4_isLess_1 (by decide) ?_
  refine Zw_icmp_eq 19 dX4_isLess_2 (by decide) (fun c2 => ?_) (fun c2 => ?_)
  · refine Zw_iconst (v := 0) dX4_isLess_19 (by decide) ?_
    refine Zw_ireturn dX4_isLess_20 (by first | rfl | assumption) ?_
    exact h0 (fun e => e.1 c2)
  · refine Zw_iload_1 dX4_isLess_5 ?_
    refine Zw_iconst (v := (-1)) dX4_isLess_6 (by decide) ?_
    refine Zw_icmp_eq 15 dX4_isLess_7 (by decide) (fun c7 => ?_) (fun c7 => ?_)
    · refine Zw_iconst (v := 1) dX4_isLess_15 (by decide) ?_
      refine Zw_goto 20 dX4_isLess_16 (by decide) ?_
      refine Zw_ireturn dX4_isLess_20 (by first | rfl | assumption) ?_
      exact h1 c2 (Or.inl c7)
    · refine Zw_iload_0 dX4_isLess_10 ?_
      refine Zw_iload_1 dX4_isLess_11 ?_
      refine Zw_icmp_ge 19 dX4_isLess_12 (by decide) (fun c12 => ?_) (fun c12 => ?_)
      · refine Zw_iconst (v := 0) dX4_isLess_19 (by decide) ?_
        refine Zw_ireturn dX4_isLess_20 (by first | rfl | assumption) ?_
        exact h0 (fun e => e.2.elim c7 (fun e2 => absurd c12 (Int32.not_le.mpr e2)))
      · refine Zw_iconst (v := 1) dX4_isLess_15 (by decide) ?_
        refine Zw_goto 20 dX4_isLess_16 (by decide) ?_
        refine Zw_ireturn dX4_isLess_20 (by first | rfl | assumption) ?_
        exact h1 c2 (Or.inr (Int32.not_le.mp c12))
set_option maxRecDepth 20000 in
theorem s_refusal {k q n : Nat} {Q : zQ} {μ : zMu} {τ : Int64} (hr : zRowA k q) (hn : n ≤ 40) (hsz : μ k 2 = nI n) (hm : μ k 1 = -1 → Q (some (.int (-11))) μ τ) (hb : μ k 1 ≠ -1 → 30 < n → Q (some (.int (-2))) μ τ) (h : μ k 1 ≠ -1 → n ≤ 30 → Q (some (.int 0)) μ τ) : Zc 0 yX10_refusalOfTold cX10_refusalOfTold 1 (some .int) [.ref k] μ τ Q := by
  refine Zc.mk 0 [.ref k] rfl (by decide) (Nat.le_of_ble_eq_true rfl) ?_
  obtain ⟨hk, hs, hq, hsq, hne⟩ := hr
  refine Zw_aload_0 dX10_refusalOfTold_0 ?_
  refine Zw_geti lf_X10_259 dX10_refusalOfTold_1 (by first | decide | assumption | omega) (by first | rfl | assumption) (by rfl) ?_
  refine Zw_iconst (v := (-1)) dX10_refusalOfTold_4 (by decide) ?_
  refine Zw_icmp_ne 11 dX10_refusalOfTold_5 (by decide) (fun c5 => ?_) (fun c5 => ?_)
  · refine Zw_aload_0 dX10_refusalOfTold_11 ?_
    refine Zw_getv (nI n) lf_X10_262 dX10_refusalOfTold_12 (by first | decide | assumption | omega) (by first | rfl | assumption) (by rfl) hsz ?_
    refine Zw_bipush (v := 30) dX10_refusalOfTold_15 (by decide) ?_
    refine Zw_nicmp_le (n) (30) 25 dX10_refusalOfTold_17 (by decide) rfl rfl (by omega) (by omega) (fun c17 => ?_) (fun c17 => ?_)
    · refine Zw_iconst (v := 0) dX10_refusalOfTold_25 (by decide) ?_
      refine Zw_ireturn dX10_refusalOfTold_26 (by first | rfl | assumption) ?_
      exact h c5 c17
    · refine Zw_bipush (v := (-2)) dX10_refusalOfTold_20 (by decide) ?_
      refine Zw_goto 26 dX10_refusalOfTold_22 (by decide) ?_
      refine Zw_ireturn dX10_refusalOfTold_26 (by first | rfl | assumption) ?_
      exact hb c5 c17
  · refine Zw_bipush (v := (-11)) dX10_refusalOfTold_8 (by decide) ?_
    refine Zw_ireturn dX10_refusalOfTold_10 (by first | rfl | assumption) ?_
    exact hm c5
