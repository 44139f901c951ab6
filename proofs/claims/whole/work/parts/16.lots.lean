def q_zn (z : Int32) : Int32 := z * 1103515245 + 12345
def q_dp (sy : zSy) (ln : Nat → Int32) (ps : Int32) (z : Int32) (w p : Nat) : Nat := q_pick (q_next sy ln ps (nI w) p) p (q_zn z)
def q_dgo (sy : zSy) (ln : Nat → Int32) (ps : Int32) : Nat → Int32 → Nat → Nat → Nat
  | 0, _, _, p => p
  | m + 1, z, w, p => q_dgo sy ln ps m (q_zn z) (w + 1) (q_dp sy ln ps z w p)
def q_isSeen (sy : zSy) (ln : Nat → Int32) (ps : Int32) (n : Nat) (K N A : Nat → Nat) (w p : Nat) : Bool := decide (q_seer sy ln ps w n K N A p ≠ -1)
def q_dsee (sy : zSy) (ln : Nat → Int32) (ps : Int32) (n : Nat) (K N A : Nat → Nat) : Nat → Int32 → Nat → Nat → Bool
  | 0, _, _, _ => false
  | m + 1, z, w, p => if q_isSeen sy ln ps n K N A (w + 1) (q_dp sy ln ps z w p) then true else q_dsee sy ln ps n K N A m (q_zn z) (w + 1) (q_dp sy ln ps z w p)
theorem q_dsee_s (sy : zSy) (ln : Nat → Int32) (ps : Int32) (n : Nat) (K N A : Nat → Nat) (m : Nat) (z : Int32) (w p : Nat) : q_dsee sy ln ps n K N A (m + 1) z w p = if q_isSeen sy ln ps n K N A (w + 1) (q_dp sy ln ps z w p) then true else q_dsee sy ln ps n K N A m (q_zn z) (w + 1) (q_dp sy ln ps z w p) := rfl
theorem q_dp_lt {sy : zSy} {ln : Nat → Int32} {ps : Int32} {z : Int32} {w p : Nat} (hp : p < 8) : q_dp sy ln ps z w p < 8 := q_pk_lt hp 8 0 _ (by omega)
set_option maxRecDepth 20000 in
theorem s_begin {z : Int32} {Q : zQ} {μ : zMu} {τ : Int64} (h : Q none (zup (zup (zup μ 51 2 z) 51 3 (μ 1 3)) 51 4 (μ 1 5)) τ) : Zc 0 yX1_begin cX1_begin 2 none [.ref 51, .int z] μ τ Q := by
  refine Zc.mk 0 [.ref 51, .int z] rfl (by decide) (Nat.le_of_ble_eq_true rfl) ?_
  refine Zw_aload_0 dX1_begin_0 ?_
  refine Zw_iload_1 dX1_begin_1 ?_
  refine Zw_put lp_X1_20 dX1_begin_2 (by first | decide | assumption | omega) (by first | rfl | assumption) (by rfl) (by first | rfl | assumption) (by first | rfl | assumption) ?_
  refine Zw_aload_0 dX1_begin_5 ?_
  refine Zw_aload_0 dX1_begin_6 ?_
  refine Zw_getr 1 lf_X1_9 dX1_begin_7 (by first | decide | assumption | omega) (by first | rfl | assumption) (by rfl) ?_
  refine Zw_getv (μ 1 3) lf_X1_24 dX1_begin_10 (by first | decide | assumption | omega) (by first | rfl | assumption) (by rfl) (by simp [zup_at]) ?_
  refine Zw_put lp_X1_29 dX1_begin_13 (by first | decide | assumption | omega) (by first | rfl | assumption) (by rfl) (by first | rfl | assumption) (by first | rfl | assumption) ?_
  refine Zw_aload_0 dX1_begin_16 ?_
  refine Zw_aload_0 dX1_begin_17 ?_
  refine Zw_getr 1 lf_X1_9 dX1_begin_18 (by first | decide | assumption | omega) (by first | rfl | assumption) (by rfl) ?_
  refine Zw_getv (μ 1 5) lf_X1_30 dX1_begin_21 (by first | decide | assumption | omega) (by first | rfl | assumption) (by rfl) (by simp [zup_at]) ?_
  refine Zw_put lp_X1_33 dX1_begin_24 (by first | decide | assumption | omega) (by first | rfl | assumption) (by rfl) (by first | rfl | assumption) (by first | rfl | assumption) ?_
  refine Zw_return dX1_begin_27 ?_
  exact h
set_option maxRecDepth 20000 in
theorem s_goOn {z : Int32} {w p cnt t : Nat} {Q : zQ} {μ : zMu} {τ : Int64} (d1 : μ 51 2 = z) (d2 : μ 51 3 = nI w) (d3 : μ 51 4 = nI p) (hp : p < 8) (hw : w + 1 < 2 ^ 31) (hr : x_rl μ cnt t) (h : ∀ μ2, zOff [19, 20, 51] μ μ2 → μ2 51 2 = q_zn z → μ2 51 3 = nI (w + 1) → μ2 51 4 = nI (q_dp (xs μ t) (μ 2) (μ 1 4) z w p) → Q none μ2 τ) : Zc 4 yX1_goOn cX1_goOn 1 none [.ref 51] μ τ Q := by
  refine Zc.mk 0 [.ref 51] rfl (by decide) (Nat.le_of_ble_eq_true rfl) ?_
  refine Zw_aload_0 dX1_goOn_0 ?_
  refine Zw_aload_0 dX1_goOn_1 ?_
  refine Zw_getv (z) lf_X1_20 dX1_goOn_2 (by first | decide | assumption | omega) (by first | rfl | assumption) (by rfl) d1 ?_
  refine Zw_S1 (k := 0) lm_X1_36 dX1_goOn_5 (by decide) (Nat.le_of_ble_eq_true rfl) ?_
  refine s_after ?_
  refine Zw_put lp_X1_20 dX1_goOn_8 (by first | decide | assumption | omega) (by first | rfl | assumption) (by rfl) (by first | rfl | assumption) (by first | rfl | assumption) ?_
  refine Zw_aload_0 dX1_goOn_11 ?_
  refine Zw_aload_0 dX1_goOn_12 ?_
  refine Zw_getr 42 lf_X1_15 dX1_goOn_13 (by first | decide | assumption | omega) (by first | rfl | assumption) (by rfl) ?_
  refine Zw_aload_0 dX1_goOn_16 ?_
  refine Zw_getv (nI p) lf_X1_33 dX1_goOn_17 (by first | decide | assumption | omega) (by first | rfl | assumption) (by rfl) (by simp [zup_at, d3]) ?_
  refine Zw_aload_0 dX1_goOn_20 ?_
  refine Zw_getv (nI w) lf_X1_29 dX1_goOn_21 (by first | decide | assumption | omega) (by first | rfl | assumption) (by rfl) (by simp [zup_at, d2]) ?_
  refine Zw_aload_0 dX1_goOn_24 ?_
  refine Zw_getv (q_zn z) lf_X1_20 dX1_goOn_25 (by first | decide | assumption | omega) (by first | rfl | assumption) (by rfl) (by simp [zup_at, q_zn]) ?_
  refine Zw_V3 (k := 3) lm_X1_40 dX1_goOn_28 (by decide) (by first | decide | assumption | omega) (by first | rfl | assumption) (by rfl) (Nat.le_of_ble_eq_true rfl) ?_
  have hO0 : zOff [51] μ (zup μ 51 2 (z * 1103515245 + 12345)) := zOff.rf.up (by simp)
  refine s_pick hp (hr.off (hO0.sc (by decide))) (fun μ1 hO1 => ?_)
  rw [xs_off (by have := hr.2.1; have := hr.2.2.2.1; omega) (hO0.sc (by decide)), hO0 2 (by simp), hO0 1 (by simp)]
  refine Zw_put lp_X1_33 dX1_goOn_31 (by first | decide | assumption | omega) (by first | rfl | assumption) (by rfl) (by first | rfl | assumption) (by first | rfl | assumption) ?_
  refine Zw_aload_0 dX1_goOn_34 ?_
  refine Zw_dup dX1_goOn_35 rfl ?_
  refine Zw_getv (nI w) lf_X1_29 dX1_goOn_36 (by first | decide | assumption | omega) (by first | rfl | assumption) (by rfl) (by rw [zup_at]; simp [zup_at, hO1 51 (by simp), d2]) ?_
  refine Zw_iconst (v := 1) dX1_goOn_39 (by decide) ?_
  refine Zw_nadd (w) (1) dX1_goOn_40 rfl rfl ?_
  refine Zw_put lp_X1_29 dX1_goOn_41 (by first | decide | assumption | omega) (by first | rfl | assumption) (by rfl) (by first | rfl | assumption) (by first | rfl | assumption) ?_
  refine Zw_return dX1_goOn_44 ?_
  refine h _ ((((hO0.sub (by simp)).tr (hO1.sub (by simp))).up (by simp)).up (by simp)) ?_ ?_ ?_
  · simp [zup_at, hO1 51 (by simp), q_zn]
  · simp [zup_at]
  · simp [zup_at, q_dp]
set_option maxRecDepth 20000 in
theorem s_isSeen {w p n cnt t : Nat} {Q : zQ} {μ : zMu} {τ : Int64} (d2 : μ 51 3 = nI w) (d3 : μ 51 4 = nI p) (hp : p < 8) (hw : w < 2 ^ 31) (hr : x_rl μ cnt t) (hf : x_fd μ n) (h1 : q_isSeen (xs μ t) (μ 2) (μ 1 4) n (xK μ) (xN μ) (xA μ) w p = true → ∀ μ2, zOff [19, 20] μ μ2 → Q (some (.int 1)) μ2 τ) (h0 : q_isSeen (xs μ t) (μ 2) (μ 1 4) n (xK μ) (xN μ) (xA μ) w p = false → ∀ μ2, zOff [19, 20] μ μ2 → Q (some (.int 0)) μ2 τ) : Zc 4 yX1_isSeen cX1_isSeen 1 (some .boolean) [.ref 51] μ τ Q := by
  refine Zc.mk 0 [.ref 51] rfl (by decide) (Nat.le_of_ble_eq_true rfl) ?_
  refine Zw_aload_0 dX1_isSeen_0 ?_
  refine Zw_getr 42 lf_X1_15 dX1_isSeen_1 (by first | decide | assumption | omega) (by first | rfl | assumption) (by rfl) ?_
  refine Zw_aload_0 dX1_isSeen_4 ?_
  refine Zw_getv (nI p) lf_X1_33 dX1_isSeen_5 (by first | decide | assumption | omega) (by first | rfl | assumption) (by rfl) d3 ?_
  refine Zw_aload_0 dX1_isSeen_8 ?_
  refine Zw_getv (nI w) lf_X1_29 dX1_isSeen_9 (by first | decide | assumption | omega) (by first | rfl | assumption) (by rfl) d2 ?_
  refine Zw_V2 (k := 3) lm_X1_46 dX1_isSeen_12 (by decide) (by first | decide | assumption | omega) (by first | rfl | assumption) (by rfl) (Nat.le_of_ble_eq_true rfl) ?_
  refine s_seer hp hw hr hf (fun μ1 hO1 => ?_)
  refine Zw_iconst (v := (-1)) dX1_isSeen_15 (by decide) ?_
  refine Zw_icmp_eq 23 dX1_isSeen_16 (by decide) (fun c16 => ?_) (fun c16 => ?_)
  · refine Zw_iconst (v := 0) dX1_isSeen_23 (by decide) ?_
    refine Zw_ireturn dX1_isSeen_24 (by first | rfl | assumption) ?_
    exact h0 (by simp [q_isSeen, c16]) _ hO1
  · refine Zw_iconst (v := 1) dX1_isSeen_19 (by decide) ?_
    refine Zw_goto 24 dX1_isSeen_20 (by decide) ?_
    refine Zw_ireturn dX1_isSeen_24 (by first | rfl | assumption) ?_
    exact h1 (by simp [q_isSeen, c16]) _ hO1
theorem zOff.fin {S : List Nat} {μ μ' : zMu} (h : zOff S μ μ') (hs : ∀ k ∈ S, k ∈ zSC) {n : Nat} (hn : n ≤ 5) : (∀ f, f < n → xK μ' f = xK μ f) ∧ (∀ f, f < n → xN μ' f = xN μ f) ∧ (∀ f, f < n → xA μ' f = xA μ f) := by
  have key : ∀ f, f < n → μ' (4 + f) = μ (4 + f) := fun f hf => (h.sc hs) (4 + f) (zSC_lt (by omega))
  refine ⟨fun f hf => ?_, fun f hf => ?_, fun f hf => ?_⟩
  · unfold xK; rw [key f hf]
  · unfold xN; rw [key f hf]
  · unfold xA; rw [key f hf]
theorem q_orf_congr {f g : Nat → Int32} : ∀ n, (∀ i, i < n → f i = g i) → q_orf f n = q_orf g n
  | 0, _ => rfl
  | n + 1, h => by
    show q_orf f n ||| f n = q_orf g n ||| g n
    rw [q_orf_congr n (fun i hi => h i (by omega)), h n (by omega)]
theorem q_scan_congr {f g : Nat → Bool} : ∀ m i, (∀ j, j < m + i → f j = g j) → q_scan f m i = q_scan g m i
  | 0, _, _ => rfl
  | m + 1, i, h => by
    rw [q_scan_s, q_scan_s, h i (by omega), q_scan_congr m (i + 1) (fun j hj => h j (by omega))]
theorem q_watch_congr {sy : zSy} {ln : Nat → Int32} {ps : Int32} {w n : Nat} {K K' N N' A A' : Nat → Nat} (hK : ∀ f, f < n → K f = K' f) (hN : ∀ f, f < n → N f = N' f) (hA : ∀ f, f < n → A f = A' f) : q_watch sy ln ps w n K N A = q_watch sy ln ps w n K' N' A' := q_orf_congr n (fun i hi => by rw [hK i hi, hN i hi, hA i hi])
theorem q_seer_congr {sy : zSy} {ln : Nat → Int32} {ps : Int32} {w n p : Nat} {K K' N N' A A' : Nat → Nat} (hK : ∀ f, f < n → K f = K' f) (hN : ∀ f, f < n → N f = N' f) (hA : ∀ f, f < n → A f = A' f) : q_seer sy ln ps w n K N A p = q_seer sy ln ps w n K' N' A' p := q_scan_congr n 0 (fun i hi => by rw [hK i (by omega), hN i (by omega), hA i (by omega)])
set_option maxRecDepth 20000 in
theorem l_seenBy {Q : zQ} {μ0 : zMu} {τ : Int64} {n cnt t : Nat} {R : Bool} {v1i : Int32} (hr : x_rl μ0 cnt t) (hf : x_fd μ0 n) (h : ∀ μ2, zOff [19, 20, 51] μ0 μ2 → Q (some (.int (if R then 1 else 0))) μ2 τ) : ∀ m i z w p μ, 8 - i < m → i ≤ 8 → p < 8 → w + 9 < 2 ^ 31 + i → zOff [19, 20, 51] μ0 μ → μ 51 2 = z → μ 51 3 = nI w → μ 51 4 = nI p → q_dsee (xs μ0 t) (μ0 2) (μ0 1 4) n (xK μ0) (xN μ0) (xA μ0) (8 - i) z w p = R → Zw 5 RX1 cX1_isSeenBy 3 (some .boolean) Q 7 [.ref 51, .int v1i, .int (nI i)] [] μ τ
  | 0, i, _, _, _, _, hm, _, _, _, _, _, _, _, _ => absurd hm (by omega)
  | m + 1, i, z, w, p, μ, hm, hi, hp, hw, hO, d1, d2, d3, hV => by
    have hS := hO.sc (by decide)
    have e1 : xs μ t = xs μ0 t := xs_off (by have := hr.2.1; have := hr.2.2.2.1; omega) hS
    have e2 : μ 2 = μ0 2 := hO 2 (by simp)
    have e3 : μ 1 = μ0 1 := hO 1 (by simp)
    refine Zw_iload_2 dX1_isSeenBy_7 ?_
    refine Zw_bipush (v := 8) dX1_isSeenBy_8 (by decide) ?_
    refine Zw_nicmp_ge (i) (8) 32 dX1_isSeenBy_10 (by decide) rfl rfl (by omega) (by omega) (fun c10 => ?_) (fun c10 => ?_)
    · refine Zw_iconst (v := 0) dX1_isSeenBy_32 (by decide) ?_
      refine Zw_ireturn dX1_isSeenBy_33 (by first | rfl | assumption) ?_
      rw [show 8 - i = 0 by omega] at hV
      change false = R at hV
      subst hV
      exact h _ hO
    · refine Zw_aload_0 dX1_isSeenBy_13 ?_
      refine Zw_V0 (k := 4) lm_X1_54 dX1_isSeenBy_14 (by decide) (by first | decide | assumption | omega) (by first | rfl | assumption) (by rfl) (Nat.le_of_ble_eq_true rfl) ?_
      refine s_goOn d1 d2 d3 hp (by omega) (hr.off hS) (fun μ1 hO1 b1 b2 b3 => ?_)
      rw [e1, e2, e3] at b3
      have hO2 := hO.tr hO1
      have hS2 := hO2.sc (by decide)
      have f1 : xs μ1 t = xs μ0 t := xs_off (by have := hr.2.1; have := hr.2.2.2.1; omega) hS2
      have f2 : μ1 2 = μ0 2 := hO2 2 (by simp)
      have f3 : μ1 1 = μ0 1 := hO2 1 (by simp)
      have hfi := hO2.fin (by decide) hf.1
      have hq : q_isSeen (xs μ1 t) (μ1 2) (μ1 1 4) n (xK μ1) (xN μ1) (xA μ1) (w + 1) (q_dp (xs μ0 t) (μ0 2) (μ0 1 4) z w p) = q_isSeen (xs μ0 t) (μ0 2) (μ0 1 4) n (xK μ0) (xN μ0) (xA μ0) (w + 1) (q_dp (xs μ0 t) (μ0 2) (μ0 1 4) z w p) := by
        rw [f1, f2, f3]; unfold q_isSeen; rw [q_seer_congr hfi.1 hfi.2.1 hfi.2.2]
      rw [show 8 - i = (8 - (i + 1)) + 1 by omega, q_dsee_s] at hV
      refine Zw_aload_0 dX1_isSeenBy_17 ?_
      refine Zw_V0 (k := 4) lm_X1_57 dX1_isSeenBy_18 (by decide) (by first | decide | assumption | omega) (by first | rfl | assumption) (by rfl) (Nat.le_of_ble_eq_true rfl) ?_
      refine s_isSeen b2 b3 (q_dp_lt hp) (by omega) (hr.off hS2) (hf.off hS2) (fun a1 μ2 hO3 => ?_) (fun a1 μ2 hO3 => ?_)
      · refine Zw_if_eq 26 dX1_isSeenBy_21 (by decide) (fun c => absurd c (by decide)) (fun _ => ?_)
        refine Zw_iconst (v := 1) dX1_isSeenBy_24 (by decide) ?_
        refine Zw_ireturn dX1_isSeenBy_25 (by first | rfl | assumption) ?_
        rw [hq] at a1
        rw [if_pos a1] at hV
        subst hV
        exact h _ (hO2.tr (hO3.sub (by simp)))
      · refine Zw_if_eq 26 dX1_isSeenBy_21 (by decide) (fun _ => ?_) (fun c => absurd c (by decide))
        refine Zw_iinc_2 dX1_isSeenBy_26 rfl (zincn _) ?_
        refine Zw_goto 7 dX1_isSeenBy_29 (by decide) ?_
        rw [hq] at a1
        rw [if_neg (by simp [a1])] at hV
        exact l_seenBy hr hf h m (i + 1) _ (w + 1) _ _ (by omega) (by omega) (q_dp_lt hp) (by omega) (hO2.tr (hO3.sub (by simp))) (by rw [hO3 51 (by simp)]; exact b1) (by rw [hO3 51 (by simp)]; exact b2) (by rw [hO3 51 (by simp)]; exact b3) hV
set_option maxRecDepth 20000 in
theorem s_seenBy {z : Int32} {n w p cnt t : Nat} {Q : zQ} {μ : zMu} {τ : Int64} (hr : x_rl μ cnt t) (hf : x_fd μ n) (hw : μ 1 3 = nI w) (hw2 : w < 2 ^ 30) (hd : μ 1 5 = nI p) (hp : p < 8) (h : ∀ μ2, zOff [19, 20, 51] μ μ2 → Q (some (.int (if q_dsee (xs μ t) (μ 2) (μ 1 4) n (xK μ) (xN μ) (xA μ) 8 z w p then 1 else 0))) μ2 τ) : Zc 5 yX1_isSeenBy cX1_isSeenBy 3 (some .boolean) [.ref 51, .int z] μ τ Q := by
  refine Zc.mk 1 [.ref 51, .int z, .null] rfl (by decide) (Nat.le_of_ble_eq_true rfl) ?_
  refine Zw_aload_0 dX1_isSeenBy_0 ?_
  refine Zw_iload_1 dX1_isSeenBy_1 ?_
  refine Zw_V1 (k := 0) lm_X1_50 dX1_isSeenBy_2 (by decide) (by first | decide | assumption | omega) (by first | rfl | assumption) (by rfl) (Nat.le_of_ble_eq_true rfl) ?_
  refine s_begin ?_
  refine Zw_iconst (v := 0) dX1_isSeenBy_5 (by decide) ?_
  refine Zw_istore_2 dX1_isSeenBy_6 rfl ?_
  exact l_seenBy hr hf h 9 0 z w p _ (by omega) (by omega) hp (by omega) (((zOff.rf.up (by simp)).up (by simp)).up (by simp)) (by simp [zup_at]) (by simp [zup_at, hw]) (by simp [zup_at, hd]) rfl
