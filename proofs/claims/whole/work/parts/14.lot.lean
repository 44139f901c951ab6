set_option maxRecDepth 20000 in
theorem l_eyes {Q : zQ} {μ0 : zMu} {τ : Int64} {k w kd nu cnt t : Nat} (hk : k < 78) (hs : zSh k = .inl (3, [0, 0, 0, 0])) (hk19 : k < 19) (hw : w < 2 ^ 31) (hwk : μ0 1 3 = nI w) (hr : x_rl μ0 cnt t) (hkd : μ0 k 0 = nI kd) (hk6 : kd < 6) (hnu : μ0 k 1 = nI nu) (hn10 : nu < 10) (h : ∀ μ2, zOff [19, 20] μ0 μ2 → Q (some (.int (q_eyes (xs μ0 t) (μ0 2) (μ0 1 4) w kd nu))) μ2 τ) : ∀ m i set μ, 8 - i < m → i ≤ 8 → zOff [19, 20] μ0 μ → set = q_orf (fun p => if q_sees (xs μ0 t) (μ0 2) (μ0 1 4) w kd nu p then q_bit p else 0) i → Zw 3 RX9 cX9_eyesOf 4 (some .int) Q 4 [.ref 42, .ref k, .int set, .int (nI i)] [] μ τ
  | 0, i, _, _, hm, _, _, _ => absurd hm (by omega)
  | m + 1, i, set, μ, hm, hi, hO, hV => by
    have hS := hO.sc (by decide)
    have e1 : xs μ t = xs μ0 t := xs_off (by have := hr.2.1; have := hr.2.2.2.1; omega) hS
    have e2 : μ 2 = μ0 2 := hO 2 (by simp)
    have e3 : μ 1 = μ0 1 := hO 1 (by simp)
    refine Zw_iload_3 dX9_eyesOf_4 ?_
    refine Zw_bipush (v := 8) dX9_eyesOf_5 (by decide) ?_
    refine Zw_nicmp_ge (i) (8) 38 dX9_eyesOf_7 (by decide) rfl rfl (by omega) (by omega) (fun c7 => ?_) (fun c7 => ?_)
    · refine Zw_iload_2 dX9_eyesOf_38 ?_
      refine Zw_ireturn dX9_eyesOf_39 (by first | rfl | assumption) ?_
      obtain rfl : i = 8 := by omega
      subst hV
      exact h _ hO
    · refine Zw_aload_0 dX9_eyesOf_10 ?_
      refine Zw_aload_1 dX9_eyesOf_11 ?_
      refine Zw_iload_3 dX9_eyesOf_12 ?_
      refine Zw_aload_0 dX9_eyesOf_13 ?_
      refine Zw_getr 1 lf_X9_15 dX9_eyesOf_14 (by first | decide | assumption | omega) (by first | rfl | assumption) (by rfl) ?_
      refine Zw_getv (nI w) lf_X9_39 dX9_eyesOf_17 (by first | decide | assumption | omega) (by first | rfl | assumption) (by rfl) (by rw [e3]; exact hwk) ?_
      refine Zw_V3 (k := 2) lm_X9_77 dX9_eyesOf_20 (by decide) (by first | decide | assumption | omega) (by first | rfl | assumption) (by rfl) (Nat.le_of_ble_eq_true rfl) ?_
      refine s_see hk hs hk19 c7 hw (hr.off hS) (by rw [hO k (by simp; omega)]; exact hkd) hk6 (by rw [hO k (by simp; omega)]; exact hnu) hn10 (fun d1 μ1 hO1 => ?_) (fun d0 μ1 hO1 => ?_)
      · refine Zw_if_eq 32 dX9_eyesOf_23 (by decide) (fun c => absurd c (by decide)) (fun _ => ?_)
        refine Zw_iload_2 dX9_eyesOf_26 ?_
        refine Zw_iconst (v := 1) dX9_eyesOf_27 (by decide) ?_
        refine Zw_iload_3 dX9_eyesOf_28 ?_
        refine Zw_ishl dX9_eyesOf_29 ?_
        refine Zw_ior dX9_eyesOf_30 ?_
        refine Zw_istore_2 dX9_eyesOf_31 rfl ?_
        refine Zw_iinc_3 dX9_eyesOf_32 rfl (zincn _) ?_
        refine Zw_goto 4 dX9_eyesOf_35 (by decide) ?_
        rw [e1, e2, e3] at d1
        exact l_eyes hk hs hk19 hw hwk hr hkd hk6 hnu hn10 h m (i + 1) _ _ (by omega) (by omega) (hO.tr hO1) (by show _ = q_orf _ i ||| _; rw [hV]; simp [d1, q_bit])
      · refine Zw_if_eq 32 dX9_eyesOf_23 (by decide) (fun _ => ?_) (fun c => absurd c (by decide))
        refine Zw_iinc_3 dX9_eyesOf_32 rfl (zincn _) ?_
        refine Zw_goto 4 dX9_eyesOf_35 (by decide) ?_
        rw [e1, e2, e3] at d0
        exact l_eyes hk hs hk19 hw hwk hr hkd hk6 hnu hn10 h m (i + 1) _ _ (by omega) (by omega) (hO.tr hO1) (by show _ = q_orf _ i ||| _; rw [hV]; simp [d0, q_bit])
set_option maxRecDepth 20000 in
theorem s_eyes {k w kd nu cnt t : Nat} {Q : zQ} {μ : zMu} {τ : Int64} (hk : k < 78) (hs : zSh k = .inl (3, [0, 0, 0, 0])) (hk19 : k < 19) (hw : w < 2 ^ 31) (hwk : μ 1 3 = nI w) (hr : x_rl μ cnt t) (hkd : μ k 0 = nI kd) (hk6 : kd < 6) (hnu : μ k 1 = nI nu) (hn10 : nu < 10) (h : ∀ μ2, zOff [19, 20] μ μ2 → Q (some (.int (q_eyes (xs μ t) (μ 2) (μ 1 4) w kd nu))) μ2 τ) : Zc 3 yX9_eyesOf cX9_eyesOf 4 (some .int) [.ref 42, .ref k] μ τ Q := by
  refine Zc.mk 2 [.ref 42, .ref k, .null, .null] rfl (by decide) (Nat.le_of_ble_eq_true rfl) ?_
  refine Zw_iconst (v := 0) dX9_eyesOf_0 (by decide) ?_
  refine Zw_istore_2 dX9_eyesOf_1 rfl ?_
  refine Zw_iconst (v := 0) dX9_eyesOf_2 (by decide) ?_
  refine Zw_istore_3 dX9_eyesOf_3 rfl ?_
  exact l_eyes hk hs hk19 hw hwk hr hkd hk6 hnu hn10 h 9 0 _ _ (by omega) (by omega) zOff.rf rfl
set_option maxRecDepth 20000 in
theorem l_watch {Q : zQ} {μ0 : zMu} {τ : Int64} {n w cnt t : Nat} (hw : w < 2 ^ 31) (hr : x_rl μ0 cnt t) (hf : x_fd μ0 n) (h : ∀ μ2, zOff [19, 20] μ0 μ2 → Q (some (.int (q_watch (xs μ0 t) (μ0 2) (μ0 1 4) w n (xK μ0) (xN μ0) (xA μ0)))) μ2 τ) : ∀ m i set μ, n - i < m → i ≤ n → zOff [19, 20] μ0 μ → set = q_orf (fun f => if q_sees (xs μ0 t) (μ0 2) (μ0 1 4) w (xK μ0 f) (xN μ0 f) (xA μ0 f) then q_bit (xA μ0 f) else 0) i → Zw 3 RX9 cX9_watched 5 (some .int) Q 4 [.ref 42, .int (nI w), .int set, .int (nI i), .null] [] μ τ
  | 0, i, _, _, hm, _, _, _ => absurd hm (by omega)
  | m + 1, i, set, μ, hm, hi, hO, hV => by
    have hS := hO.sc (by decide)
    have e1 : xs μ t = xs μ0 t := xs_off (by have := hr.2.1; have := hr.2.2.2.1; omega) hS
    have e2 : μ 2 = μ0 2 := hO 2 (by simp)
    have e3 : μ 1 = μ0 1 := hO 1 (by simp)
    have hN5 := hf.1
    have hn := hf.2.1
    refine Zw_iload_3 dX9_watched_4 ?_
    refine Zw_aload_0 dX9_watched_5 ?_
    refine Zw_getr 1 lf_X9_15 dX9_watched_6 (by first | decide | assumption | omega) (by first | rfl | assumption) (by rfl) ?_
    refine Zw_getv (nI n) lf_X9_81 dX9_watched_9 (by first | decide | assumption | omega) (by first | rfl | assumption) (by rfl) (by rw [e3]; exact hn) ?_
    refine Zw_nicmp_ge (i) (n) 57 dX9_watched_12 (by decide) rfl rfl (by omega) (by omega) (fun c12 => ?_) (fun c12 => ?_)
    · refine Zw_iload_2 dX9_watched_57 ?_
      refine Zw_ireturn dX9_watched_58 (by first | rfl | assumption) ?_
      obtain rfl : i = n := by omega
      subst hV
      exact h _ hO
    · obtain ⟨kd, nu, a, g1, g2, g3, g4, g5, g6⟩ := hf.2.2 i c12
      have hsf := zfin_s (show i < 5 by omega)
      have ef : μ (4 + i) = μ0 (4 + i) := hO (4 + i) (by simp; omega)
      have k1 : xK μ0 i = kd := by unfold xK; rw [g1]; exact nI_clamp (by omega)
      have k2 : xN μ0 i = nu := by unfold xN; rw [g3]; exact nI_clamp (by omega)
      have k3 : xA μ0 i = a := by unfold xA; rw [g5]; exact nI_clamp (by omega)
      refine Zw_aload_0 dX9_watched_15 ?_
      refine Zw_getr 1 lf_X9_15 dX9_watched_16 (by first | decide | assumption | omega) (by first | rfl | assumption) (by rfl) ?_
      refine Zw_getr 3 lf_X9_84 dX9_watched_19 (by first | decide | assumption | omega) (by first | rfl | assumption) (by rfl) ?_
      refine Zw_iload_3 dX9_watched_22 ?_
      refine Zw_aaldn (i) (4 + i) dX9_watched_23 (by first | decide | assumption | omega) (by first | rfl | assumption) rfl (by omega) (zfin_g (by omega)) (by decide) ?_
      refine Zw_astore_4 dX9_watched_24 rfl ?_
      refine Zw_aload_0 dX9_watched_26 ?_
      refine Zw_aload_4 dX9_watched_27 ?_
      refine Zw_aload_4 dX9_watched_29 ?_
      refine Zw_getv (nI a) lf_X9_88 dX9_watched_31 (by first | decide | assumption | omega) (by first | rfl | assumption) (by rfl) (by rw [ef]; exact g5) ?_
      refine Zw_iload_1 dX9_watched_34 ?_
      refine Zw_V3 (k := 2) lm_X9_77 dX9_watched_35 (by decide) (by first | decide | assumption | omega) (by first | rfl | assumption) (by rfl) (Nat.le_of_ble_eq_true rfl) ?_
      refine s_see (by omega) hsf (by omega) g6 hw (hr.off hS) (by rw [ef]; exact g1) g2 (by rw [ef]; exact g3) g4 (fun d1 μ1 hO1 => ?_) (fun d0 μ1 hO1 => ?_)
      · refine Zw_if_eq 51 dX9_watched_38 (by decide) (fun c => absurd c (by decide)) (fun _ => ?_)
        refine Zw_iload_2 dX9_watched_41 ?_
        refine Zw_iconst (v := 1) dX9_watched_42 (by decide) ?_
        refine Zw_aload_4 dX9_watched_43 ?_
        refine Zw_getv (nI a) lf_X9_88 dX9_watched_45 (by first | decide | assumption | omega) (by first | rfl | assumption) (by rfl) (by rw [hO1 (4 + i) (by simp; omega), ef]; exact g5) ?_
        refine Zw_ishl dX9_watched_48 ?_
        refine Zw_ior dX9_watched_49 ?_
        refine Zw_istore_2 dX9_watched_50 rfl ?_
        refine Zw_iinc_3 dX9_watched_51 rfl (zincn _) ?_
        refine Zw_goto 4 dX9_watched_54 (by decide) ?_
        refine Zw_drop (L' := [.ref 42, .int (nI w), .int (set ||| 1 <<< (nI a &&& 31)), .int (nI (i + 1)), .null]) (by simp [zsub]) (by simp) ?_
        rw [e1, e2, e3] at d1
        refine l_watch hw hr hf h m (i + 1) _ _ (by omega) (by omega) (hO.tr hO1) ?_
        show _ = q_orf _ i ||| _
        rw [hV]
        simp [k1, k2, k3, d1, q_bit]
      · refine Zw_if_eq 51 dX9_watched_38 (by decide) (fun _ => ?_) (fun c => absurd c (by decide))
        refine Zw_iinc_3 dX9_watched_51 rfl (zincn _) ?_
        refine Zw_goto 4 dX9_watched_54 (by decide) ?_
        refine Zw_drop (L' := [.ref 42, .int (nI w), .int set, .int (nI (i + 1)), .null]) (by simp [zsub]) (by simp) ?_
        rw [e1, e2, e3] at d0
        refine l_watch hw hr hf h m (i + 1) _ _ (by omega) (by omega) (hO.tr hO1) ?_
        show _ = q_orf _ i ||| _
        rw [hV]
        simp [k1, k2, k3, d0, q_bit]
set_option maxRecDepth 20000 in
theorem s_watch {n w cnt t : Nat} {Q : zQ} {μ : zMu} {τ : Int64} (hw : w < 2 ^ 31) (hr : x_rl μ cnt t) (hf : x_fd μ n) (h : ∀ μ2, zOff [19, 20] μ μ2 → Q (some (.int (q_watch (xs μ t) (μ 2) (μ 1 4) w n (xK μ) (xN μ) (xA μ)))) μ2 τ) : Zc 3 yX9_watched cX9_watched 5 (some .int) [.ref 42, .int (nI w)] μ τ Q := by
  refine Zc.mk 3 [.ref 42, .int (nI w), .null, .null, .null] rfl (by decide) (Nat.le_of_ble_eq_true rfl) ?_
  refine Zw_iconst (v := 0) dX9_watched_0 (by decide) ?_
  refine Zw_istore_2 dX9_watched_1 rfl ?_
  refine Zw_iconst (v := 0) dX9_watched_2 (by decide) ?_
  refine Zw_istore_3 dX9_watched_3 rfl ?_
  exact l_watch hw hr hf h (n + 1) 0 _ _ (by omega) (by omega) zOff.rf rfl
def q_scan (g : Nat → Bool) : Nat → Nat → Int32
  | 0, _ => -1
  | m + 1, i => if g i then nI i else q_scan g m (i + 1)
theorem q_scan_s (g : Nat → Bool) (m i : Nat) : q_scan g (m + 1) i = if g i then nI i else q_scan g m (i + 1) := rfl
def q_seer (sy : zSy) (ln : Nat → Int32) (ps : Int32) (w n : Nat) (K N A : Nat → Nat) (p : Nat) : Int32 := q_scan (fun f => decide (A f = p) && q_sees sy ln ps w (K f) (N f) p) n 0
def q_pk (set : Int32) (p0 : Nat) : Nat → Nat → Int32 → Nat
  | 0, _, _ => p0
  | m + 1, i, ah => if q_has set i then (if ah = 0 then i else q_pk set p0 m (i + 1) (ah + (-1))) else q_pk set p0 m (i + 1) ah
theorem q_pk_s (set : Int32) (p0 m i : Nat) (ah : Int32) : q_pk set p0 (m + 1) i ah = if q_has set i then (if ah = 0 then i else q_pk set p0 m (i + 1) (ah + (-1))) else q_pk set p0 m (i + 1) ah := rfl
theorem q_pk_lt {set : Int32} {p0 : Nat} (h0 : p0 < 8) : ∀ m i ah, m + i ≤ 8 → q_pk set p0 m i ah < 8
  | 0, _, _, _ => h0
  | m + 1, i, ah, h => by
    unfold q_pk
    split
    · split
      · omega
      · exact q_pk_lt h0 m (i + 1) _ (by omega)
    · exact q_pk_lt h0 m (i + 1) _ (by omega)
def q_ways (s : Int32) : Int32 := if 1 < q_bc s then q_bc s else 1
def q_z9 (z : Int32) : Int32 := (z.toUInt32 >>> ((9 : Int32).toUInt32 &&& Int32.toUInt32 31)).toInt32
def q_pick (s : Int32) (p : Nat) (z : Int32) : Nat := q_pk s p 8 0 (q_z9 z - q_z9 z / q_ways s * q_ways s)
theorem q_ways_ne (s : Int32) : ¬ q_ways s = 0 := by
  unfold q_ways
  split
  · rename_i h
    intro e
    rw [e] at h
    exact absurd h (by decide)
  · decide
set_option maxRecDepth 20000 in
theorem l_seer {Q : zQ} {μ0 : zMu} {τ : Int64} {n p w cnt t : Nat} {R : Int32} (hp : p < 8) (hw : w < 2 ^ 31) (hr : x_rl μ0 cnt t) (hf : x_fd μ0 n) (h : ∀ μ2, zOff [19, 20] μ0 μ2 → Q (some (.int R)) μ2 τ) : ∀ m i μ, n - i < m → i ≤ n → zOff [19, 20] μ0 μ → q_scan (fun f => decide (xA μ0 f = p) && q_sees (xs μ0 t) (μ0 2) (μ0 1 4) w (xK μ0 f) (xN μ0 f) p) (n - i) i = R → Zw 3 RX9 cX9_firstSeer 5 (some .int) Q 2 [.ref 42, .int (nI p), .int (nI w), .int (nI i), .null] [] μ τ
  | 0, i, _, hm, _, _, _ => absurd hm (by omega)
  | m + 1, i, μ, hm, hi, hO, hV => by
    have hS := hO.sc (by decide)
    have e1 : xs μ t = xs μ0 t := xs_off (by have := hr.2.1; have := hr.2.2.2.1; omega) hS
    have e2 : μ 2 = μ0 2 := hO 2 (by simp)
    have e3 : μ 1 = μ0 1 := hO 1 (by simp)
    have hN5 := hf.1
    have hn := hf.2.1
    refine Zw_iload_3 dX9_firstSeer_2 ?_
    refine Zw_aload_0 dX9_firstSeer_3 ?_
    refine Zw_getr 1 lf_X9_15 dX9_firstSeer_4 (by first | decide | assumption | omega) (by first | rfl | assumption) (by rfl) ?_
    refine Zw_getv (nI n) lf_X9_81 dX9_firstSeer_7 (by first | decide | assumption | omega) (by first | rfl | assumption) (by rfl) (by rw [e3]; exact hn) ?_
    refine Zw_nicmp_ge (i) (n) 52 dX9_firstSeer_10 (by decide) rfl rfl (by omega) (by omega) (fun c10 => ?_) (fun c10 => ?_)
    · refine Zw_iconst (v := (-1)) dX9_firstSeer_52 (by decide) ?_
      refine Zw_ireturn dX9_firstSeer_53 (by first | rfl | assumption) ?_
      rw [show n - i = 0 by omega] at hV
      subst hV
      exact h _ hO
    · obtain ⟨kd, nu, a, g1, g2, g3, g4, g5, g6⟩ := hf.2.2 i c10
      have hsf := zfin_s (show i < 5 by omega)
      have ef : μ (4 + i) = μ0 (4 + i) := hO (4 + i) (by simp; omega)
      have k1 : xK μ0 i = kd := by unfold xK; rw [g1]; exact nI_clamp (by omega)
      have k2 : xN μ0 i = nu := by unfold xN; rw [g3]; exact nI_clamp (by omega)
      have k3 : xA μ0 i = a := by unfold xA; rw [g5]; exact nI_clamp (by omega)
      refine Zw_aload_0 dX9_firstSeer_13 ?_
      refine Zw_getr 1 lf_X9_15 dX9_firstSeer_14 (by first | decide | assumption | omega) (by first | rfl | assumption) (by rfl) ?_
      refine Zw_getr 3 lf_X9_84 dX9_firstSeer_17 (by first | decide | assumption | omega) (by first | rfl | assumption) (by rfl) ?_
      refine Zw_iload_3 dX9_firstSeer_20 ?_
      refine Zw_aaldn (i) (4 + i) dX9_firstSeer_21 (by first | decide | assumption | omega) (by first | rfl | assumption) rfl (by omega) (zfin_g (by omega)) (by decide) ?_
      refine Zw_astore_4 dX9_firstSeer_22 rfl ?_
      refine Zw_aload_4 dX9_firstSeer_24 ?_
      refine Zw_getv (nI a) lf_X9_88 dX9_firstSeer_26 (by first | decide | assumption | omega) (by first | rfl | assumption) (by rfl) (by rw [ef]; exact g5) ?_
      refine Zw_iload_1 dX9_firstSeer_29 ?_
      refine Zw_nicmp_ne (a) (p) 46 dX9_firstSeer_30 (by decide) rfl rfl (by omega) (by omega) (fun c30 => ?_) (fun c30 => ?_)
      · refine Zw_iinc_3 dX9_firstSeer_46 rfl (zincn _) ?_
        refine Zw_goto 2 dX9_firstSeer_49 (by decide) ?_
        refine Zw_drop (L' := [.ref 42, .int (nI p), .int (nI w), .int (nI (i + 1)), .null]) (by simp [zsub]) (by simp) ?_
        refine l_seer hp hw hr hf h m (i + 1) _ (by omega) (by omega) hO ?_
        rw [← hV, show n - i = (n - (i + 1)) + 1 by omega]
        rw [q_scan_s, if_neg (by simp [k3, c30])]
      · refine Zw_aload_0 dX9_firstSeer_33 ?_
        refine Zw_aload_4 dX9_firstSeer_34 ?_
        refine Zw_iload_1 dX9_firstSeer_36 ?_
        refine Zw_iload_2 dX9_firstSeer_37 ?_
        refine Zw_V3 (k := 2) lm_X9_77 dX9_firstSeer_38 (by decide) (by first | decide | assumption | omega) (by first | rfl | assumption) (by rfl) (Nat.le_of_ble_eq_true rfl) ?_
        refine s_see (by omega) hsf (by omega) hp hw (hr.off hS) (by rw [ef]; exact g1) g2 (by rw [ef]; exact g3) g4 (fun d1 μ1 hO1 => ?_) (fun d0 μ1 hO1 => ?_)
        · refine Zw_if_eq 46 dX9_firstSeer_41 (by decide) (fun c => absurd c (by decide)) (fun _ => ?_)
          refine Zw_iload_3 dX9_firstSeer_44 ?_
          refine Zw_ireturn dX9_firstSeer_45 (by first | rfl | assumption) ?_
          rw [e1, e2, e3] at d1
          rw [show n - i = (n - (i + 1)) + 1 by omega] at hV
          rw [q_scan_s, if_pos (by simp [k1, k2, k3, c30, d1])] at hV
          subst hV
          exact h _ (hO.tr hO1)
        · refine Zw_if_eq 46 dX9_firstSeer_41 (by decide) (fun _ => ?_) (fun c => absurd c (by decide))
          refine Zw_iinc_3 dX9_firstSeer_46 rfl (zincn _) ?_
          refine Zw_goto 2 dX9_firstSeer_49 (by decide) ?_
          rw [e1, e2, e3] at d0
          refine Zw_drop (L' := [.ref 42, .int (nI p), .int (nI w), .int (nI (i + 1)), .null]) (by simp [zsub]) (by simp) ?_
          refine l_seer hp hw hr hf h m (i + 1) _ (by omega) (by omega) (hO.tr hO1) ?_
          rw [← hV, show n - i = (n - (i + 1)) + 1 by omega]
          rw [q_scan_s, if_neg (by simp [k1, k2, k3, c30, d0])]
set_option maxRecDepth 20000 in
theorem s_seer {n p w cnt t : Nat} {Q : zQ} {μ : zMu} {τ : Int64} (hp : p < 8) (hw : w < 2 ^ 31) (hr : x_rl μ cnt t) (hf : x_fd μ n) (h : ∀ μ2, zOff [19, 20] μ μ2 → Q (some (.int (q_seer (xs μ t) (μ 2) (μ 1 4) w n (xK μ) (xN μ) (xA μ) p))) μ2 τ) : Zc 3 yX9_firstSeer cX9_firstSeer 5 (some .int) [.ref 42, .int (nI p), .int (nI w)] μ τ Q := by
  refine Zc.mk 2 [.ref 42, .int (nI p), .int (nI w), .null, .null] rfl (by decide) (Nat.le_of_ble_eq_true rfl) ?_
  refine Zw_iconst (v := 0) dX9_firstSeer_0 (by decide) ?_
  refine Zw_istore_3 dX9_firstSeer_1 rfl ?_
  exact l_seer hp hw hr hf h (n + 1) 0 _ (by omega) (by omega) zOff.rf rfl
