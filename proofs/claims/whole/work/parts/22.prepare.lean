def h_way (ah : Nat → Int32) : Nat → Int32 → Int32 → Int32 → Int32
  | 0, _, _, acc => acc
  | m + 1, x, un, acc => if x = -1 then acc else h_way ah m (ah x.toNatClampNeg) (un * 10) (acc + (x / 256 + 1) * un)
theorem h_way_s (ah : Nat → Int32) (m : Nat) (x un acc : Int32) : h_way ah (m + 1) x un acc = if x = -1 then acc else h_way ah m (ah x.toNatClampNeg) (un * 10) (acc + (x / 256 + 1) * un) := rfl
def h_rng (x : Int32) : Prop := x = -1 ∨ ∃ y, y < 2048 ∧ x = nI y
set_option maxRecDepth 20000 in
theorem l_way {Q : zQ} {μ : zMu} {τ : Int64} {e k : Nat} {s : h_S} {R : Int32} (hx : x_h μ e s) (hk : k ≤ 9) (hr : ∀ x, x < 2048 → h_rng (s.1 x)) (h : Q (some (.int R)) μ τ) : ∀ m i x un acc, k - i < m → i ≤ k → h_rng x → h_way s.1 (k - i) x un acc = R → Zw 0 RX4 cX4_wayOf 6 (some .int) Q 26 [.ref 44, .int (nI k), .int acc, .int un, .int x, .int (nI i)] [] μ τ
  | 0, i, _, _, _, hm, _, _, _ => absurd hm (by omega)
  | m + 1, i, x, un, acc, hm, hi, hxr, hV => by
    refine Zw_iload_5 dX4_wayOf_26 ?_
    refine Zw_iload_1 dX4_wayOf_28 ?_
    refine Zw_nicmp_ge (i) (k) 71 dX4_wayOf_29 (by decide) rfl rfl (by omega) (by omega) (fun c29 => ?_) (fun c29 => ?_)
    · refine Zw_iload_2 dX4_wayOf_71 ?_
      refine Zw_ireturn dX4_wayOf_72 (by first | rfl | assumption) ?_
      rw [show k - i = 0 by omega] at hV
      change acc = R at hV
      subst hV
      exact h
    · refine Zw_iload_4 dX4_wayOf_32 ?_
      refine Zw_iconst (v := (-1)) dX4_wayOf_34 (by decide) ?_
      refine Zw_icmp_eq 71 dX4_wayOf_35 (by decide) (fun c35 => ?_) (fun c35 => ?_)
      · refine Zw_iload_2 dX4_wayOf_71 ?_
        refine Zw_ireturn dX4_wayOf_72 (by first | rfl | assumption) ?_
        rw [show k - i = (k - (i + 1)) + 1 by omega, h_way_s, if_pos c35] at hV
        subst hV
        exact h
      · obtain ⟨y, hy, rfl⟩ := hxr.resolve_left c35
        rw [show k - i = (k - (i + 1)) + 1 by omega, h_way_s, if_neg c35, nI_clamp (by omega), show (256 : Int32) = nI 256 from rfl, pk_div (by omega) (by decide) (by decide), show (1 : Int32) = nI 1 from rfl, nI_add] at hV
        refine Zw_iload_2 dX4_wayOf_38 ?_
        refine Zw_iload_4 dX4_wayOf_39 ?_
        refine Zw_sipush (v := 256) dX4_wayOf_41 (by decide) ?_
        refine Zw_ndiv (y) (256) dX4_wayOf_44 rfl rfl (by omega) (by omega) (by omega) ?_
        refine Zw_iconst (v := 1) dX4_wayOf_45 (by decide) ?_
        refine Zw_nadd ((y / 256)) (1) dX4_wayOf_46 rfl rfl ?_
        refine Zw_iload_3 dX4_wayOf_47 ?_
        refine Zw_imul dX4_wayOf_48 ?_
        refine Zw_iadd dX4_wayOf_49 ?_
        refine Zw_istore_2 dX4_wayOf_50 rfl ?_
        refine Zw_iload_3 dX4_wayOf_51 ?_
        refine Zw_bipush (v := 10) dX4_wayOf_52 (by decide) ?_
        refine Zw_imul dX4_wayOf_54 ?_
        refine Zw_istore_3 dX4_wayOf_55 rfl ?_
        refine Zw_aload_0 dX4_wayOf_56 ?_
        refine Zw_getr 46 lf_X4_15 dX4_wayOf_57 (by first | decide | assumption | omega) (by first | rfl | assumption) (by rfl) ?_
        refine Zw_iload_4 dX4_wayOf_60 ?_
        refine Zw_ialdnv (y) (s.1 y) dX4_wayOf_62 (by first | decide | assumption | omega) (by first | rfl | assumption) rfl (by omega) (by decide) (hx.1 y hy) ?_
        refine Zw_istore_4 dX4_wayOf_63 rfl ?_
        refine Zw_iinc_5 dX4_wayOf_65 rfl (zincn _) ?_
        refine Zw_goto 26 dX4_wayOf_68 (by decide) ?_
        exact l_way hx hk hr h m (i + 1) _ _ _ (by omega) (by omega) (hr y hy) hV
set_option maxRecDepth 20000 in
theorem s_way {e k : Nat} {s : h_S} {Q : zQ} {μ : zMu} {τ : Int64} (hx : x_h μ e s) (hk : k ≤ 9) (hr : ∀ x, x < 2048 → h_rng (s.1 x)) (hg : h_rng s.2.2) (h : Q (some (.int (h_way s.1 k s.2.2 1 0))) μ τ) : Zc 0 yX4_wayOf cX4_wayOf 6 (some .int) [.ref 44, .int (nI k)] μ τ Q := by
  refine Zc.mk 4 [.ref 44, .int (nI k), .null, .null, .null, .null] rfl (by decide) (Nat.le_of_ble_eq_true rfl) ?_
  have hkn : ¬ nI k = -1 := fun e => absurd ((nI_toInt (n := k) (by omega)).symm.trans ((congrArg Int32.toInt e).trans (show (-1 : Int32).toInt = -1 from rfl))) (by omega)
  refine Zw_iload_1 dX4_wayOf_0 ?_
  refine Zw_iconst (v := (-1)) dX4_wayOf_1 (by decide) ?_
  refine Zw_icmp_eq 11 dX4_wayOf_2 (by decide) (fun c2 => absurd c2 hkn) (fun c2 => ?_)
  refine Zw_iload_1 dX4_wayOf_5 ?_
  refine Zw_bipush (v := 9) dX4_wayOf_6 (by decide) ?_
  refine Zw_nicmp_le (k) (9) 13 dX4_wayOf_8 (by decide) rfl rfl (by omega) (by omega) (fun c8 => ?_) (fun c8 => ?_)
  · refine Zw_iconst (v := 0) dX4_wayOf_13 (by decide) ?_
    refine Zw_istore_2 dX4_wayOf_14 rfl ?_
    refine Zw_iconst (v := 1) dX4_wayOf_15 (by decide) ?_
    refine Zw_istore_3 dX4_wayOf_16 rfl ?_
    refine Zw_aload_0 dX4_wayOf_17 ?_
    refine Zw_getv (s.2.2) lf_X4_69 dX4_wayOf_18 (by first | decide | assumption | omega) (by first | rfl | assumption) (by rfl) hx.2.2.2.1 ?_
    refine Zw_istore_4 dX4_wayOf_21 rfl ?_
    refine Zw_iconst (v := 0) dX4_wayOf_23 (by decide) ?_
    refine Zw_istore_5 dX4_wayOf_24 rfl ?_
    exact l_way hx hk hr h (k + 1) 0 _ _ _ (by omega) (by omega) hg rfl
  · refine Zw_iconst (v := (-1)) dX4_wayOf_11 (by decide) ?_
    refine Zw_ireturn dX4_wayOf_12 (by first | rfl | assumption) ?_
    omega
set_option maxRecDepth 20000 in
theorem s_wayBig {f : Int32} {Q : zQ} {μ : zMu} {τ : Int64} (hf : f = -1 ∨ ∃ k, k < 2 ^ 31 ∧ 9 < k ∧ f = nI k) (h : Q (some (.int (-1))) μ τ) : Zc 0 yX4_wayOf cX4_wayOf 6 (some .int) [.ref 44, .int f] μ τ Q := by
  refine Zc.mk 4 [.ref 44, .int f, .null, .null, .null, .null] rfl (by decide) (Nat.le_of_ble_eq_true rfl) ?_
  refine Zw_iload_1 dX4_wayOf_0 ?_
  refine Zw_iconst (v := (-1)) dX4_wayOf_1 (by decide) ?_
  refine Zw_icmp_eq 11 dX4_wayOf_2 (by decide) (fun c2 => ?_) (fun c2 => ?_)
  · refine Zw_iconst (v := (-1)) dX4_wayOf_11 (by decide) ?_
    refine Zw_ireturn dX4_wayOf_12 (by first | rfl | assumption) ?_
    exact h
  · obtain ⟨k, hk31, hk, rfl⟩ := hf.resolve_left c2
    refine Zw_iload_1 dX4_wayOf_5 ?_
    refine Zw_bipush (v := 9) dX4_wayOf_6 (by decide) ?_
    refine Zw_nicmp_le (k) (9) 13 dX4_wayOf_8 (by decide) rfl rfl (by omega) (by omega) (fun c8 => ?_) (fun c8 => ?_)
    · omega
    · refine Zw_iconst (v := (-1)) dX4_wayOf_11 (by decide) ?_
      refine Zw_ireturn dX4_wayOf_12 (by first | rfl | assumption) ?_
      exact h
set_option maxRecDepth 20000 in
theorem s_way0 {Q : zQ} {μ : zMu} {τ : Int64} (h : Q (some (.int 0)) μ τ) : Zc 0 yX4_wayOf cX4_wayOf 6 (some .int) [.ref 44, .int 0] μ τ Q := by
  refine Zc.mk 4 [.ref 44, .int 0, .null, .null, .null, .null] rfl (by decide) (Nat.le_of_ble_eq_true rfl) ?_
  refine Zw_iload_1 dX4_wayOf_0 ?_
  refine Zw_iconst (v := (-1)) dX4_wayOf_1 (by decide) ?_
  refine Zw_icmp_eq 11 dX4_wayOf_2 (by decide) (fun c => absurd c (by decide)) (fun _ => ?_)
  refine Zw_iload_1 dX4_wayOf_5 ?_
  refine Zw_bipush (v := 9) dX4_wayOf_6 (by decide) ?_
  refine Zw_icmp_le 13 dX4_wayOf_8 (by decide) (fun _ => ?_) (fun c => absurd c (by decide))
  refine Zw_iconst (v := 0) dX4_wayOf_13 (by decide) ?_
  refine Zw_istore_2 dX4_wayOf_14 rfl ?_
  refine Zw_iconst (v := 1) dX4_wayOf_15 (by decide) ?_
  refine Zw_istore_3 dX4_wayOf_16 rfl ?_
  refine Zw_aload_0 dX4_wayOf_17 ?_
  refine Zw_geti lf_X4_69 dX4_wayOf_18 (by first | decide | assumption | omega) (by first | rfl | assumption) (by rfl) ?_
  refine Zw_istore_4 dX4_wayOf_21 rfl ?_
  refine Zw_iconst (v := 0) dX4_wayOf_23 (by decide) ?_
  refine Zw_istore_5 dX4_wayOf_24 rfl ?_
  refine Zw_iload_5 dX4_wayOf_26 ?_
  refine Zw_iload_1 dX4_wayOf_28 ?_
  refine Zw_icmp_ge 71 dX4_wayOf_29 (by decide) (fun _ => ?_) (fun c => absurd c (by decide))
  refine Zw_iload_2 dX4_wayOf_71 ?_
  refine Zw_ireturn dX4_wayOf_72 (by first | rfl | assumption) ?_
  exact h
/-! sets of places are below 256 -/
def r8 (x : Int32) : Prop := ∃ a : Nat, a < 256 ∧ x = nI a
theorem nI_or (a b : Nat) : nI a ||| nI b = nI (a ||| b) := by
  apply Int32.toBitVec_inj.mp
  simp [nI]
theorem r8_or {x y : Int32} (hx : r8 x) (hy : r8 y) : r8 (x ||| y) := by
  obtain ⟨a, ha, rfl⟩ := hx
  obtain ⟨b, hb, rfl⟩ := hy
  exact ⟨a ||| b, Nat.or_lt_two_pow (n := 8) ha hb, nI_or a b⟩
theorem r8_0 : r8 0 := ⟨0, by decide, rfl⟩
theorem r8_bit : ∀ p, p < 8 → r8 (q_bit p) := by
  intro p hp
  have key : ∀ p, p < 8 → q_bit p = nI (2 ^ p) ∧ 2 ^ p < 256 := by decide +kernel
  exact ⟨2 ^ p, (key p hp).2, (key p hp).1⟩
theorem r8_orf {f : Nat → Int32} : ∀ n, (∀ i, i < n → r8 (f i)) → r8 (q_orf f n)
  | 0, _ => r8_0
  | n + 1, h => r8_or (r8_orf n (fun i hi => h i (by omega))) (h n (by omega))
theorem r8_next (sy : zSy) (ln : Nat → Int32) (ps wk : Int32) {p : Nat} (hp : p < 8) : r8 (q_next sy ln ps wk p) := by
  have h1 : r8 (q_orf (q_go sy ln ps wk p) 8) := r8_orf 8 (fun q hq => by unfold q_go; split; exact r8_bit q hq; exact r8_0)
  unfold q_next
  split
  · exact r8_or h1 (r8_bit p hp)
  · exact h1
theorem r8_spread {mv : Nat → Int32} (h : ∀ p, p < 8 → r8 (mv p)) (s : Int32) : r8 (q_spread mv s) := r8_orf 8 (fun p hp => by split; exact h p hp; exact r8_0)
theorem r8_eyes (sy : zSy) (ln : Nat → Int32) (ps : Int32) (w kd nu : Nat) : r8 (q_eyes sy ln ps w kd nu) := r8_orf 8 (fun p hp => by split; exact r8_bit p hp; exact r8_0)
theorem r8_cl {x : Int32} (h : r8 x) : x = nI x.toNatClampNeg ∧ x.toNatClampNeg < 256 := by
  obtain ⟨a, ha, rfl⟩ := h
  rw [nI_clamp (by omega)]
  exact ⟨rfl, ha⟩
theorem q_spread_congr {mv mv' : Nat → Int32} (h : ∀ p, p < 8 → mv p = mv' p) (s : Int32) : q_spread mv s = q_spread mv' s := q_orf_congr 8 (fun p hp => by rw [h p hp])
set_option maxRecDepth 20000 in
theorem l_prep {Q : zQ} {μ0 : zMu} {τ : Int64} {k : Nat} {mv : Nat → Int32} (hmv : ∀ p, p < 8 → μ0 43 p = mv p) (h : ∀ μ2, zOff [45] μ0 μ2 → (∀ S, S < 256 → μ2 45 S = q_spread mv (nI S)) → Zw 4 RX4 cX4_prepare 3 none Q 43 [.ref 44, .ref k, .null] [] μ2 τ) : ∀ m i μ, 256 - i < m → i ≤ 256 → zOff [45] μ0 μ → (∀ S, S < i → μ 45 S = q_spread mv (nI S)) → Zw 4 RX4 cX4_prepare 3 none Q 16 [.ref 44, .ref k, .int (nI i)] [] μ τ
  | 0, i, _, hm, _, _, _ => absurd hm (by omega)
  | m + 1, i, μ, hm, hi, hO, hV => by
    refine Zw_iload_2 dX4_prepare_16 ?_
    refine Zw_sipush (v := 256) dX4_prepare_17 (by decide) ?_
    refine Zw_nicmp_ge (i) (256) 43 dX4_prepare_20 (by decide) rfl rfl (by omega) (by omega) (fun c20 => ?_) (fun c20 => ?_)
    · refine Zw_drop (L' := [.ref 44, .ref k, .null]) ⟨Or.inr rfl, Or.inr rfl, Or.inl rfl, trivial⟩ (Nat.le_of_ble_eq_true rfl) ?_
      exact h μ hO (fun S hS => hV S (by omega))
    · refine Zw_aload_0 dX4_prepare_23 ?_
      refine Zw_getr 45 lf_X4_9 dX4_prepare_24 (by first | decide | assumption | omega) (by first | rfl | assumption) (by rfl) ?_
      refine Zw_iload_2 dX4_prepare_27 ?_
      refine Zw_aload_0 dX4_prepare_28 ?_
      refine Zw_getr 42 lf_X4_25 dX4_prepare_29 (by first | decide | assumption | omega) (by first | rfl | assumption) (by rfl) ?_
      refine Zw_iload_2 dX4_prepare_32 ?_
      refine Zw_V1 (k := 0) lm_X4_41 dX4_prepare_33 (by decide) (by first | decide | assumption | omega) (by first | rfl | assumption) (by rfl) (Nat.le_of_ble_eq_true rfl) ?_
      refine s_spread ?_
      rw [q_spread_congr (mv := μ 43) (mv' := mv) (fun p hp => (congrFun (hO 43 (by simp)) p).trans (hmv p hp))]
      refine Zw_iastn (i) dX4_prepare_36 (by first | decide | assumption | omega) (by first | rfl | assumption) rfl (by omega) (by decide) ?_
      refine Zw_iinc_2 dX4_prepare_37 rfl (zincn _) ?_
      refine Zw_goto 16 dX4_prepare_40 (by decide) ?_
      exact l_prep hmv h m (i + 1) _ (by omega) (by omega) (hO.up (by simp)) (fun S hS => if e : S = i then (by subst e; simp [zup_at]) else (by rw [zup_at, if_neg (by omega)]; exact hV S (by omega)))
set_option maxRecDepth 20000 in
theorem s_prepare {k w kd nu cnt t : Nat} {Q : zQ} {μ : zMu} {τ : Int64} (hk : k < 78) (hs : zSh k = .inl (3, [0, 0, 0, 0])) (hk19 : k < 19) (hw : w < 2 ^ 31) (hwk : μ 1 3 = nI w) (hr : x_rl μ cnt t) (hkd : μ k 0 = nI kd) (hk6 : kd < 6) (hnu : μ k 1 = nI nu) (hn10 : nu < 10) (h : ∀ μ2, zOff [19, 20, 43, 44, 45] μ μ2 → (∀ S, S < 256 → μ2 45 S = q_spread (fun p => q_next (xs μ t) (μ 2) (μ 1 4) (nI w) p) (nI S)) → μ2 44 6 = q_eyes (xs μ t) (μ 2) (μ 1 4) w kd nu → Q none μ2 τ) : Zc 4 yX4_prepare cX4_prepare 3 none [.ref 44, .ref k] μ τ Q := by
  refine Zc.mk 1 [.ref 44, .ref k, .null] rfl (by decide) (Nat.le_of_ble_eq_true rfl) ?_
  refine Zw_aload_0 dX4_prepare_0 ?_
  refine Zw_getr 42 lf_X4_25 dX4_prepare_1 (by first | decide | assumption | omega) (by first | rfl | assumption) (by rfl) ?_
  refine Zw_aload_0 dX4_prepare_4 ?_
  refine Zw_getr 1 lf_X4_21 dX4_prepare_5 (by first | decide | assumption | omega) (by first | rfl | assumption) (by rfl) ?_
  refine Zw_getv (nI w) lf_X4_29 dX4_prepare_8 (by first | decide | assumption | omega) (by first | rfl | assumption) (by rfl) hwk ?_
  refine Zw_V1 (k := 3) lm_X4_35 dX4_prepare_11 (by decide) (by first | decide | assumption | omega) (by first | rfl | assumption) (by rfl) (Nat.le_of_ble_eq_true rfl) ?_
  refine s_layMoves hr (fun μ1 hO1 hM1 => ?_)
  refine Zw_iconst (v := 0) dX4_prepare_14 (by decide) ?_
  refine Zw_istore_2 dX4_prepare_15 rfl ?_
  refine l_prep hM1 (fun μ2 hO2 hV2 => ?_) 257 0 _ (by omega) (by omega) zOff.rf (fun S hS => absurd hS (by omega))
  have hO2' : zOff [19, 20, 43, 44, 45] μ μ2 := (hO1.sub (by simp)).tr (hO2.sub (by simp))
  have hS2 := hO2'.sc (by decide)
  have e1 : xs μ2 t = xs μ t := xs_off (by have := hr.2.1; have := hr.2.2.2.1; omega) hS2
  refine Zw_aload_0 dX4_prepare_43 ?_
  refine Zw_aload_0 dX4_prepare_44 ?_
  refine Zw_getr 42 lf_X4_25 dX4_prepare_45 (by first | decide | assumption | omega) (by first | rfl | assumption) (by rfl) ?_
  refine Zw_aload_1 dX4_prepare_48 ?_
  refine Zw_V1 (k := 3) lm_X4_45 dX4_prepare_49 (by decide) (by first | decide | assumption | omega) (by first | rfl | assumption) (by rfl) (Nat.le_of_ble_eq_true rfl) ?_
  refine s_eyes hk hs hk19 hw (by rw [hO2' 1 (by simp)]; exact hwk) (hr.off hS2) (by rw [hO2' k (by simp; omega)]; exact hkd) hk6 (by rw [hO2' k (by simp; omega)]; exact hnu) hn10 (fun μ3 hO3 => ?_)
  rw [e1, hO2' 2 (by simp), hO2' 1 (by simp)]
  refine Zw_put lp_X4_49 dX4_prepare_52 (by first | decide | assumption | omega) (by first | rfl | assumption) (by rfl) (by first | rfl | assumption) (by first | rfl | assumption) ?_
  refine Zw_return dX4_prepare_55 ?_
  refine h _ ((hO2'.tr (hO3.sub (by simp))).up (by simp)) (fun S hS => by rw [zup_ne (by decide), hO3 45 (by simp)]; exact hV2 S hS) (by simp [zup_at])
