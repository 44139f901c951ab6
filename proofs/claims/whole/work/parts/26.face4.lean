abbrev x_mv (μ : zMu) (t w : Nat) : Nat → Int32 := fun p => q_next (xs μ t) (μ 2) (μ 1 4) (nI w) p
abbrev x_wt (μ : zMu) (t n w : Nat) : Int32 := q_watch (xs μ t) (μ 2) (μ 1 4) w n (xK μ) (xN μ) (xA μ)
def q_spr (mv : Nat → Int32) (wt set : Int32) : Nat → Int32
  | 0 => q_spread mv set
  | 1 => set &&& (wt ^^^ (-1))
  | _ => q_spread mv set &&& (wt ^^^ (-1))
def q_rn (mv : Nat → Nat → Int32) (wt : Nat → Int32) (w : Nat) : Nat → Nat → Int32 → Int32 → Int32 × Int32 × Int32
  | 0, _, set, tg => (set, -1, tg)
  | m + 1, i, set, tg => if q_spread (mv (w + i)) set &&& (wt (w + i + 1) ^^^ (-1)) = 0 then (q_spread (mv (w + i)) set &&& (wt (w + i + 1) ^^^ (-1)), nI i, tg + q_bc (q_spread (mv (w + i)) set &&& (wt (w + i + 1) ^^^ (-1)))) else q_rn mv wt w m (i + 1) (q_spread (mv (w + i)) set &&& (wt (w + i + 1) ^^^ (-1))) (tg + q_bc (q_spread (mv (w + i)) set &&& (wt (w + i + 1) ^^^ (-1))))
theorem q_rn_s (mv : Nat → Nat → Int32) (wt : Nat → Int32) (w m i : Nat) (set tg : Int32) : q_rn mv wt w (m + 1) i set tg = if q_spread (mv (w + i)) set &&& (wt (w + i + 1) ^^^ (-1)) = 0 then (q_spread (mv (w + i)) set &&& (wt (w + i + 1) ^^^ (-1)), nI i, tg + q_bc (q_spread (mv (w + i)) set &&& (wt (w + i + 1) ^^^ (-1)))) else q_rn mv wt w m (i + 1) (q_spread (mv (w + i)) set &&& (wt (w + i + 1) ^^^ (-1))) (tg + q_bc (q_spread (mv (w + i)) set &&& (wt (w + i + 1) ^^^ (-1)))) := rfl
def q_pick3 (r : Int32 × Int32 × Int32) : Nat → Int32
  | 0 => r.1
  | 1 => r.2.1
  | _ => r.2.2
def q_lk (mv : Nat → Int32) (on n : Int32) : Nat → Nat → Int32 → Int32 → Int32 × Int32
  | 0, _, best, few => (best, few)
  | m + 1, i, best, few => if q_bc (nI i) = n ∧ q_bc (q_spread mv (on &&& (nI i ^^^ (-1)))) < few then q_lk mv on n m (i + 1) (nI i) (q_bc (q_spread mv (on &&& (nI i ^^^ (-1))))) else q_lk mv on n m (i + 1) best few
theorem q_lk_s (mv : Nat → Int32) (on n : Int32) (m i : Nat) (best few : Int32) : q_lk mv on n (m + 1) i best few = if q_bc (nI i) = n ∧ q_bc (q_spread mv (on &&& (nI i ^^^ (-1)))) < few then q_lk mv on n m (i + 1) (nI i) (q_bc (q_spread mv (on &&& (nI i ^^^ (-1))))) else q_lk mv on n m (i + 1) best few := rfl
set_option maxRecDepth 20000 in
theorem s_X_spread {set what : Int32} {cnt t n w : Nat} {Q : zQ} {μ : zMu} {τ : Int64} (hx : x_ok μ cnt t n w) (hbad : ¬ (vp_in set 256 ∧ vp_in what 3) → Q (some (.int (-2))) μ τ) (h : ∀ c, c < 3 → what = nI c → ∀ μ2, zOff [19, 20, 43] μ μ2 → Q (some (.int (q_spr (x_mv μ t w) (x_wt μ t n w) set c))) μ2 τ) : Zc 4 yX10_spread cX10_spread 4 (some .int) [.ref 0, .int set, .int what] μ τ Q := by
  refine Zc.mk 1 [.ref 0, .int set, .int what, .null] rfl (by decide) (Nat.le_of_ble_eq_true rfl) ?_
  refine Zw_iload_1 dX10_spread_0 ?_
  refine Zw_sipush (v := 256) dX10_spread_1 (by decide) ?_
  refine Zw_S2 (k := 0) lm_X10_76 dX10_spread_4 (by decide) (Nat.le_of_ble_eq_true rfl) ?_
  refine s_within 256 (by decide) (fun b1 => ?_) (fun b1 => ?_)
  · refine Zw_if_eq 18 dX10_spread_7 (by decide) (fun c => absurd c (by decide)) (fun _ => ?_)
    refine Zw_iload_2 dX10_spread_10 ?_
    refine Zw_iconst (v := 3) dX10_spread_11 (by decide) ?_
    refine Zw_S2 (k := 0) lm_X10_76 dX10_spread_12 (by decide) (Nat.le_of_ble_eq_true rfl) ?_
    refine s_within 3 (by decide) (fun b2 => ?_) (fun b2 => ?_)
    · refine Zw_if_ne 21 dX10_spread_15 (by decide) (fun _ => ?_) (fun c => absurd c (by decide))
      obtain ⟨c, hc, rfl⟩ := vp_in_of b2 (by decide)
      match c, hc with
      | 0, _ =>
        refine Zw_iload_1 dX10_spread_21 ?_
        refine Zw_istore_3 dX10_spread_22 rfl ?_
        refine Zw_iload_2 dX10_spread_23 ?_
        refine Zw_iconst (v := 1) dX10_spread_24 (by decide) ?_
        refine Zw_icmp_eq 51 dX10_spread_25 (by decide) (fun c => absurd c (by decide)) (fun _ => ?_)
        refine Zw_aload_0 dX10_spread_28 ?_
        refine Zw_getr 42 lf_X10_38 dX10_spread_29 (by first | decide | assumption | omega) (by first | rfl | assumption) (by rfl) ?_
        refine Zw_aload_0 dX10_spread_32 ?_
        refine Zw_getr 1 lf_X10_10 dX10_spread_33 (by first | decide | assumption | omega) (by first | rfl | assumption) (by rfl) ?_
        refine Zw_getv (nI w) lf_X10_103 dX10_spread_36 (by first | decide | assumption | omega) (by first | rfl | assumption) (by rfl) hx.2.2.1 ?_
        refine Zw_V1 (k := 3) lm_X10_136 dX10_spread_39 (by decide) (by first | decide | assumption | omega) (by first | rfl | assumption) (by rfl) (Nat.le_of_ble_eq_true rfl) ?_
        refine s_layMoves hx.1 (fun μ1 hO1 hM1 => ?_)
        refine Zw_aload_0 dX10_spread_42 ?_
        refine Zw_getr 42 lf_X10_38 dX10_spread_43 (by first | decide | assumption | omega) (by first | rfl | assumption) (by rfl) ?_
        refine Zw_iload_3 dX10_spread_46 ?_
        refine Zw_V1 (k := 0) lm_X10_140 dX10_spread_47 (by decide) (by first | decide | assumption | omega) (by first | rfl | assumption) (by rfl) (Nat.le_of_ble_eq_true rfl) ?_
        refine s_spread ?_
        rw [q_spread_congr hM1]
        refine Zw_istore_3 dX10_spread_50 rfl ?_
        refine Zw_iload_2 dX10_spread_51 ?_
        refine Zw_if_eq 74 dX10_spread_52 (by decide) (fun _ => ?_) (fun c => absurd c (by decide))
        refine Zw_iload_3 dX10_spread_74 ?_
        refine Zw_ireturn dX10_spread_75 (by first | rfl | assumption) ?_
        exact h 0 (by decide) rfl μ1 hO1
      | 1, _ =>
        refine Zw_iload_1 dX10_spread_21 ?_
        refine Zw_istore_3 dX10_spread_22 rfl ?_
        refine Zw_iload_2 dX10_spread_23 ?_
        refine Zw_iconst (v := 1) dX10_spread_24 (by decide) ?_
        refine Zw_icmp_eq 51 dX10_spread_25 (by decide) (fun _ => ?_) (fun c => absurd c (by decide))
        refine Zw_iload_2 dX10_spread_51 ?_
        refine Zw_if_eq 74 dX10_spread_52 (by decide) (fun c => absurd c (by decide)) (fun _ => ?_)
        refine Zw_iload_3 dX10_spread_55 ?_
        refine Zw_aload_0 dX10_spread_56 ?_
        refine Zw_getr 42 lf_X10_38 dX10_spread_57 (by first | decide | assumption | omega) (by first | rfl | assumption) (by rfl) ?_
        refine Zw_aload_0 dX10_spread_60 ?_
        refine Zw_getr 1 lf_X10_10 dX10_spread_61 (by first | decide | assumption | omega) (by first | rfl | assumption) (by rfl) ?_
        refine Zw_getv (nI w) lf_X10_103 dX10_spread_64 (by first | decide | assumption | omega) (by first | rfl | assumption) (by rfl) hx.2.2.1 ?_
        refine Zw_V1 (k := 3) lm_X10_144 dX10_spread_67 (by decide) (by first | decide | assumption | omega) (by first | rfl | assumption) (by rfl) (Nat.le_of_ble_eq_true rfl) ?_
        refine s_watch (w := w) (by have := hx.2.2.2.1; omega) hx.1 hx.2.1 (fun μ2 hO2 => ?_)
        have hO2 : zOff [19, 20, 43] μ μ2 := hO2.sub (by simp)
        refine Zw_iconst (v := (-1)) dX10_spread_70 (by decide) ?_
        refine Zw_ixor dX10_spread_71 ?_
        refine Zw_iand dX10_spread_72 ?_
        refine Zw_istore_3 dX10_spread_73 rfl ?_
        refine Zw_iload_3 dX10_spread_74 ?_
        refine Zw_ireturn dX10_spread_75 (by first | rfl | assumption) ?_
        exact h 1 (by decide) rfl μ2 hO2
      | 2, _ =>
        refine Zw_iload_1 dX10_spread_21 ?_
        refine Zw_istore_3 dX10_spread_22 rfl ?_
        refine Zw_iload_2 dX10_spread_23 ?_
        refine Zw_iconst (v := 1) dX10_spread_24 (by decide) ?_
        refine Zw_icmp_eq 51 dX10_spread_25 (by decide) (fun c => absurd c (by decide)) (fun _ => ?_)
        refine Zw_aload_0 dX10_spread_28 ?_
        refine Zw_getr 42 lf_X10_38 dX10_spread_29 (by first | decide | assumption | omega) (by first | rfl | assumption) (by rfl) ?_
        refine Zw_aload_0 dX10_spread_32 ?_
        refine Zw_getr 1 lf_X10_10 dX10_spread_33 (by first | decide | assumption | omega) (by first | rfl | assumption) (by rfl) ?_
        refine Zw_getv (nI w) lf_X10_103 dX10_spread_36 (by first | decide | assumption | omega) (by first | rfl | assumption) (by rfl) hx.2.2.1 ?_
        refine Zw_V1 (k := 3) lm_X10_136 dX10_spread_39 (by decide) (by first | decide | assumption | omega) (by first | rfl | assumption) (by rfl) (Nat.le_of_ble_eq_true rfl) ?_
        refine s_layMoves hx.1 (fun μ1 hO1 hM1 => ?_)
        refine Zw_aload_0 dX10_spread_42 ?_
        refine Zw_getr 42 lf_X10_38 dX10_spread_43 (by first | decide | assumption | omega) (by first | rfl | assumption) (by rfl) ?_
        refine Zw_iload_3 dX10_spread_46 ?_
        refine Zw_V1 (k := 0) lm_X10_140 dX10_spread_47 (by decide) (by first | decide | assumption | omega) (by first | rfl | assumption) (by rfl) (Nat.le_of_ble_eq_true rfl) ?_
        refine s_spread ?_
        rw [q_spread_congr hM1]
        refine Zw_istore_3 dX10_spread_50 rfl ?_
        refine Zw_iload_2 dX10_spread_51 ?_
        refine Zw_if_eq 74 dX10_spread_52 (by decide) (fun c => absurd c (by decide)) (fun _ => ?_)
        refine Zw_iload_3 dX10_spread_55 ?_
        refine Zw_aload_0 dX10_spread_56 ?_
        refine Zw_getr 42 lf_X10_38 dX10_spread_57 (by first | decide | assumption | omega) (by first | rfl | assumption) (by rfl) ?_
        refine Zw_aload_0 dX10_spread_60 ?_
        refine Zw_getr 1 lf_X10_10 dX10_spread_61 (by first | decide | assumption | omega) (by first | rfl | assumption) (by rfl) ?_
        refine Zw_getv (nI w) lf_X10_103 dX10_spread_64 (by first | decide | assumption | omega) (by first | rfl | assumption) (by rfl) (by rw [hO1 1 (by simp)]; exact hx.2.2.1) ?_
        refine Zw_V1 (k := 3) lm_X10_144 dX10_spread_67 (by decide) (by first | decide | assumption | omega) (by first | rfl | assumption) (by rfl) (Nat.le_of_ble_eq_true rfl) ?_
        have hS1 := hO1.sc (by decide)
        refine s_watch (w := w) (by have := hx.2.2.2.1; omega) (hx.1.off hS1) (hx.2.1.off hS1) (fun μ2 hO2 => ?_)
        rw [(x_same hS1 hx).2.2.2]
        refine Zw_iconst (v := (-1)) dX10_spread_70 (by decide) ?_
        refine Zw_ixor dX10_spread_71 ?_
        refine Zw_iand dX10_spread_72 ?_
        refine Zw_istore_3 dX10_spread_73 rfl ?_
        refine Zw_iload_3 dX10_spread_74 ?_
        refine Zw_ireturn dX10_spread_75 (by first | rfl | assumption) ?_
        exact h 2 (by decide) rfl μ2 (hO1.tr (hO2.sub (by simp)))
      | n + 3, hc => exact absurd hc (by omega)
    · refine Zw_if_ne 21 dX10_spread_15 (by decide) (fun c => absurd c (by decide)) (fun _ => ?_)
      refine Zw_bipush (v := (-2)) dX10_spread_18 (by decide) ?_
      refine Zw_ireturn dX10_spread_20 (by first | rfl | assumption) ?_
      exact hbad (fun e => b2 e.2)
  · refine Zw_if_eq 18 dX10_spread_7 (by decide) (fun _ => ?_) (fun c => absurd c (by decide))
    refine Zw_bipush (v := (-2)) dX10_spread_18 (by decide) ?_
    refine Zw_ireturn dX10_spread_20 (by first | rfl | assumption) ?_
    exact hbad (fun e => b1 e.1)
set_option maxRecDepth 20000 in
theorem f_rn {Q : zQ} {μ0 μ : zMu} {τ : Int64} {cnt t n w m0 i : Nat} {what set tg : Int32} (hx : x_ok μ0 cnt t n w) (hO : zOff [19, 20, 43] μ0 μ) (hi : i < 41) (hM : ∀ p, p < 8 → μ 43 p = x_mv μ0 t (w + i) p)
  (hz : ∀ μ2, zOff [19, 20, 43] μ0 μ2 → (q_spread (x_mv μ0 t (w + i)) set &&& (x_wt μ0 t n (w + i + 1) ^^^ (-1))) = 0 → Zw 5 RX10 cX10_run 7 (some .int) Q 37 [.ref 0, .int (nI m0), .int what, .int (q_spread (x_mv μ0 t (w + i)) set &&& (x_wt μ0 t n (w + i + 1) ^^^ (-1))), .int (nI i), .int (tg + q_bc (q_spread (x_mv μ0 t (w + i)) set &&& (x_wt μ0 t n (w + i + 1) ^^^ (-1)))), .int (nI (i + 1))] [] μ2 τ)
  (hn : ∀ μ2, zOff [19, 20, 43] μ0 μ2 → (∀ p, p < 8 → μ2 43 p = x_mv μ0 t (w + i) p) → ¬ (q_spread (x_mv μ0 t (w + i)) set &&& (x_wt μ0 t n (w + i + 1) ^^^ (-1))) = 0 → Zw 5 RX10 cX10_run 7 (some .int) Q 37 [.ref 0, .int (nI m0), .int what, .int (q_spread (x_mv μ0 t (w + i)) set &&& (x_wt μ0 t n (w + i + 1) ^^^ (-1))), .int (-1), .int (tg + q_bc (q_spread (x_mv μ0 t (w + i)) set &&& (x_wt μ0 t n (w + i + 1) ^^^ (-1)))), .int (nI (i + 1))] [] μ2 τ) : Zw 5 RX10 cX10_run 7 (some .int) Q 58 [.ref 0, .int (nI m0), .int what, .int set, .int (-1), .int tg, .int (nI i)] [] μ τ := by
  have hS := hO.sc (by decide)
  have hx1 := hx.off hS
  have hw3 := hx.2.2.2.1
  refine Zw_aload_0 dX10_run_58 ?_
  refine Zw_getr 42 lf_X10_38 dX10_run_59 (by first | decide | assumption | omega) (by first | rfl | assumption) (by rfl) ?_
  refine Zw_iload_3 dX10_run_62 ?_
  refine Zw_V1 (k := 0) lm_X10_140 dX10_run_63 (by decide) (by first | decide | assumption | omega) (by first | rfl | assumption) (by rfl) (Nat.le_of_ble_eq_true rfl) ?_
  refine s_spread ?_
  rw [q_spread_congr hM]
  refine Zw_aload_0 dX10_run_66 ?_
  refine Zw_getr 42 lf_X10_38 dX10_run_67 (by first | decide | assumption | omega) (by first | rfl | assumption) (by rfl) ?_
  refine Zw_aload_0 dX10_run_70 ?_
  refine Zw_getr 1 lf_X10_10 dX10_run_71 (by first | decide | assumption | omega) (by first | rfl | assumption) (by rfl) ?_
  refine Zw_getv (nI w) lf_X10_103 dX10_run_74 (by first | decide | assumption | omega) (by first | rfl | assumption) (by rfl) hx1.2.2.1 ?_
  refine Zw_iload_6 dX10_run_77 ?_
  refine Zw_nadd (w) (i) dX10_run_79 rfl rfl ?_
  refine Zw_iconst (v := 1) dX10_run_80 (by decide) ?_
  refine Zw_nadd ((w + i)) (1) dX10_run_81 rfl rfl ?_
  refine Zw_V1 (k := 3) lm_X10_144 dX10_run_82 (by decide) (by first | decide | assumption | omega) (by first | rfl | assumption) (by rfl) (Nat.le_of_ble_eq_true rfl) ?_
  refine s_watch (w := w + i + 1) (by omega) hx1.1 hx1.2.1 (fun μ2 hO2 => ?_)
  rw [(x_same hS hx).2.2.2]
  refine Zw_iconst (v := (-1)) dX10_run_85 (by decide) ?_
  refine Zw_ixor dX10_run_86 ?_
  refine Zw_iand dX10_run_87 ?_
  refine Zw_istore_3 dX10_run_88 rfl ?_
  refine Zw_iload_5 dX10_run_89 ?_
  refine Zw_iload_3 dX10_run_91 ?_
  refine Zw_S1 (k := 0) lm_X10_178 dX10_run_92 (by decide) (Nat.le_of_ble_eq_true rfl) ?_
  refine s_bitCount ?_
  refine Zw_iadd dX10_run_95 ?_
  refine Zw_istore_5 dX10_run_96 rfl ?_
  refine Zw_iload_3 dX10_run_98 ?_
  refine Zw_if_ne 106 dX10_run_99 (by decide) (fun c99 => ?_) (fun c99 => ?_)
  · refine Zw_iinc_6 dX10_run_106 rfl (zincn _) ?_
    refine Zw_goto 37 dX10_run_109 (by decide) ?_
    exact hn μ2 (hO.tr (hO2.sub (by simp))) (fun p hp => by rw [hO2 43 (by simp)]; exact hM p hp) c99
  · refine Zw_iload_6 dX10_run_102 ?_
    refine Zw_istore_4 dX10_run_104 rfl ?_
    refine Zw_iinc_6 dX10_run_106 rfl (zincn _) ?_
    refine Zw_goto 37 dX10_run_109 (by decide) ?_
    exact hz μ2 (hO.tr (hO2.sub (by simp))) c99
set_option maxRecDepth 20000 in
theorem f_rnEnd {Q : zQ} {μ : zMu} {τ : Int64} {m0 i c : Nat} {set fn tg : Int32} (hi : m0 < 2 ^ 31 ∧ i < 2 ^ 31) (hc : c < 3) (hfn : fn ≠ -1) (h : Q (some (.int (q_pick3 (set, fn, tg) c))) μ τ) : Zw 5 RX10 cX10_run 7 (some .int) Q 37 [.ref 0, .int (nI m0), .int (nI c), .int set, .int fn, .int tg, .int (nI i)] [] μ τ := by
  match c, hc with
  | 0, _ =>
    refine Zw_iload_6 dX10_run_37 ?_
    refine Zw_iload_1 dX10_run_39 ?_
    refine Zw_nicmp_ge (i) (m0) 112 dX10_run_40 (by decide) rfl rfl (by omega) (by omega) (fun c40 => ?_) (fun c40 => ?_)
    · refine Zw_iload_2 dX10_run_112 ?_
      refine Zw_if_ne 118 dX10_run_113 (by decide) (fun c => absurd c (by decide)) (fun _ => ?_)
      refine Zw_iload_3 dX10_run_116 ?_
      refine Zw_ireturn dX10_run_117 (by first | rfl | assumption) ?_
      exact h
    · refine Zw_iload_4 dX10_run_43 ?_
      refine Zw_iconst (v := (-1)) dX10_run_45 (by decide) ?_
      refine Zw_icmp_ne 112 dX10_run_46 (by decide) (fun c46 => ?_) (fun c46 => absurd c46 hfn)
      refine Zw_iload_2 dX10_run_112 ?_
      refine Zw_if_ne 118 dX10_run_113 (by decide) (fun c => absurd c (by decide)) (fun _ => ?_)
      refine Zw_iload_3 dX10_run_116 ?_
      refine Zw_ireturn dX10_run_117 (by first | rfl | assumption) ?_
      exact h
  | 1, _ =>
    refine Zw_iload_6 dX10_run_37 ?_
    refine Zw_iload_1 dX10_run_39 ?_
    refine Zw_nicmp_ge (i) (m0) 112 dX10_run_40 (by decide) rfl rfl (by omega) (by omega) (fun c40 => ?_) (fun c40 => ?_)
    · refine Zw_iload_2 dX10_run_112 ?_
      refine Zw_if_ne 118 dX10_run_113 (by decide) (fun _ => ?_) (fun c => absurd c (by decide))
      refine Zw_iload_2 dX10_run_118 ?_
      refine Zw_iconst (v := 1) dX10_run_119 (by decide) ?_
      refine Zw_icmp_ne 128 dX10_run_120 (by decide) (fun c => absurd c (by decide)) (fun _ => ?_)
      refine Zw_iload_4 dX10_run_123 ?_
      refine Zw_goto 130 dX10_run_125 (by decide) ?_
      refine Zw_ireturn dX10_run_130 (by first | rfl | assumption) ?_
      exact h
    · refine Zw_iload_4 dX10_run_43 ?_
      refine Zw_iconst (v := (-1)) dX10_run_45 (by decide) ?_
      refine Zw_icmp_ne 112 dX10_run_46 (by decide) (fun c46 => ?_) (fun c46 => absurd c46 hfn)
      refine Zw_iload_2 dX10_run_112 ?_
      refine Zw_if_ne 118 dX10_run_113 (by decide) (fun _ => ?_) (fun c => absurd c (by decide))
      refine Zw_iload_2 dX10_run_118 ?_
      refine Zw_iconst (v := 1) dX10_run_119 (by decide) ?_
      refine Zw_icmp_ne 128 dX10_run_120 (by decide) (fun c => absurd c (by decide)) (fun _ => ?_)
      refine Zw_iload_4 dX10_run_123 ?_
      refine Zw_goto 130 dX10_run_125 (by decide) ?_
      refine Zw_ireturn dX10_run_130 (by first | rfl | assumption) ?_
      exact h
  | 2, _ =>
    refine Zw_iload_6 dX10_run_37 ?_
    refine Zw_iload_1 dX10_run_39 ?_
    refine Zw_nicmp_ge (i) (m0) 112 dX10_run_40 (by decide) rfl rfl (by omega) (by omega) (fun c40 => ?_) (fun c40 => ?_)
    · refine Zw_iload_2 dX10_run_112 ?_
      refine Zw_if_ne 118 dX10_run_113 (by decide) (fun _ => ?_) (fun c => absurd c (by decide))
      refine Zw_iload_2 dX10_run_118 ?_
      refine Zw_iconst (v := 1) dX10_run_119 (by decide) ?_
      refine Zw_icmp_ne 128 dX10_run_120 (by decide) (fun _ => ?_) (fun c => absurd c (by decide))
      refine Zw_iload_5 dX10_run_128 ?_
      refine Zw_ireturn dX10_run_130 (by first | rfl | assumption) ?_
      exact h
    · refine Zw_iload_4 dX10_run_43 ?_
      refine Zw_iconst (v := (-1)) dX10_run_45 (by decide) ?_
      refine Zw_icmp_ne 112 dX10_run_46 (by decide) (fun c46 => ?_) (fun c46 => absurd c46 hfn)
      refine Zw_iload_2 dX10_run_112 ?_
      refine Zw_if_ne 118 dX10_run_113 (by decide) (fun _ => ?_) (fun c => absurd c (by decide))
      refine Zw_iload_2 dX10_run_118 ?_
      refine Zw_iconst (v := 1) dX10_run_119 (by decide) ?_
      refine Zw_icmp_ne 128 dX10_run_120 (by decide) (fun _ => ?_) (fun c => absurd c (by decide))
      refine Zw_iload_5 dX10_run_128 ?_
      refine Zw_ireturn dX10_run_130 (by first | rfl | assumption) ?_
      exact h
  | n + 3, hc => exact absurd hc (by omega)
set_option maxRecDepth 20000 in
theorem l_rn {Q : zQ} {μ0 : zMu} {τ : Int64} {cnt t n w m0 c : Nat} {R : Int32 × Int32 × Int32} (hx : x_ok μ0 cnt t n w) (hm40 : m0 ≤ 40) (hc : c < 3) (h : ∀ μ2, zOff [19, 20, 43] μ0 μ2 → Q (some (.int (q_pick3 R c))) μ2 τ) : ∀ m i set tg μ, m0 - i < m → i ≤ m0 → zOff [19, 20, 43] μ0 μ → (i ≠ 0 → ∀ p, p < 8 → μ 43 p = x_mv μ0 t (w + (i - 1)) p) → q_rn (fun v => x_mv μ0 t v) (fun v => x_wt μ0 t n v) w (m0 - i) i set tg = R → Zw 5 RX10 cX10_run 7 (some .int) Q 37 [.ref 0, .int (nI m0), .int (nI c), .int set, .int (-1), .int tg, .int (nI i)] [] μ τ
  | 0, i, _, _, _, hm, _, _, _, _ => absurd hm (by omega)
  | m + 1, i, set, tg, μ, hm, hi, hO, hM, hV => by
    have hS := hO.sc (by decide)
    have hx1 := hx.off hS
    rcases Nat.lt_or_ge i m0 with hlt | hge
    · rw [show m0 - i = (m0 - (i + 1)) + 1 by omega, q_rn_s] at hV
      refine Zw_iload_6 dX10_run_37 ?_
      refine Zw_iload_1 dX10_run_39 ?_
      refine Zw_icmp_ge 112 dX10_run_40 (by decide) (fun c40 => absurd c40 (fun e => absurd ((nI_leI (by omega) (by omega)).mp e) (by omega))) (fun c40 => ?_)
      refine Zw_iload_4 dX10_run_43 ?_
      refine Zw_iconst (v := (-1)) dX10_run_45 (by decide) ?_
      refine Zw_icmp_ne 112 dX10_run_46 (by decide) (fun c => absurd c (by decide)) (fun _ => ?_)
      refine Zw_aload_0 dX10_run_49 ?_
      refine Zw_getr 42 lf_X10_38 dX10_run_50 (by first | decide | assumption | omega) (by first | rfl | assumption) (by rfl) ?_
      refine Zw_iload_6 dX10_run_53 ?_
      refine Zw_V1 (k := 4) lm_X10_175 dX10_run_55 (by decide) (by first | decide | assumption | omega) (by first | rfl | assumption) (by rfl) (Nat.le_of_ble_eq_true rfl) ?_
      refine s_layMovesOf (w := w) hx1.1 hx1.2.2.1 (by omega) (fun g1 μ1 hO1 hM1 => ?_) (fun g1 g2 => ?_)
      · refine f_rn (set := set) (tg := tg) hx (hO.tr hO1) (by omega) (x_lay hx hS hM1) (fun μ2 gO gz => ?_) (fun μ2 gO gM gz => ?_)
        · rw [if_pos gz] at hV
          subst hV
          exact f_rnEnd (by omega) hc (by intro e; exact absurd ((nI_toInt (n := i) (by omega)).symm.trans ((congrArg Int32.toInt e).trans (show (-1 : Int32).toInt = -1 from rfl))) (by omega)) (h μ2 gO)
        · rw [if_neg gz] at hV
          exact l_rn hx hm40 hc h m (i + 1) _ _ μ2 (by omega) (by omega) gO (fun _ => gM) hV
      · refine f_rn (set := set) (tg := tg) hx hO (by omega) (x_laid hx hS g2 g1 hM) (fun μ2 gO gz => ?_) (fun μ2 gO gM gz => ?_)
        · rw [if_pos gz] at hV
          subst hV
          exact f_rnEnd (by omega) hc (by intro e; exact absurd ((nI_toInt (n := i) (by omega)).symm.trans ((congrArg Int32.toInt e).trans (show (-1 : Int32).toInt = -1 from rfl))) (by omega)) (h μ2 gO)
        · rw [if_neg gz] at hV
          exact l_rn hx hm40 hc h m (i + 1) _ _ μ2 (by omega) (by omega) gO (fun _ => gM) hV
    · rw [show m0 - i = 0 by omega] at hV
      subst hV
      have hq := h μ hO
      match c, hc with
      | 0, _ =>
        refine Zw_iload_6 dX10_run_37 ?_
        refine Zw_iload_1 dX10_run_39 ?_
        refine Zw_nicmp_ge (i) (m0) 112 dX10_run_40 (by decide) rfl rfl (by omega) (by omega) (fun c40 => ?_) (fun c40 => ?_)
        · refine Zw_iload_2 dX10_run_112 ?_
          refine Zw_if_ne 118 dX10_run_113 (by decide) (fun c => absurd c (by decide)) (fun _ => ?_)
          refine Zw_iload_3 dX10_run_116 ?_
          refine Zw_ireturn dX10_run_117 (by first | rfl | assumption) ?_
          exact hq
        · omega
      | 1, _ =>
        refine Zw_iload_6 dX10_run_37 ?_
        refine Zw_iload_1 dX10_run_39 ?_
        refine Zw_nicmp_ge (i) (m0) 112 dX10_run_40 (by decide) rfl rfl (by omega) (by omega) (fun c40 => ?_) (fun c40 => ?_)
        · refine Zw_iload_2 dX10_run_112 ?_
          refine Zw_if_ne 118 dX10_run_113 (by decide) (fun _ => ?_) (fun c => absurd c (by decide))
          refine Zw_iload_2 dX10_run_118 ?_
          refine Zw_iconst (v := 1) dX10_run_119 (by decide) ?_
          refine Zw_icmp_ne 128 dX10_run_120 (by decide) (fun c => absurd c (by decide)) (fun _ => ?_)
          refine Zw_iload_4 dX10_run_123 ?_
          refine Zw_goto 130 dX10_run_125 (by decide) ?_
          refine Zw_ireturn dX10_run_130 (by first | rfl | assumption) ?_
          exact hq
        · omega
      | 2, _ =>
        refine Zw_iload_6 dX10_run_37 ?_
        refine Zw_iload_1 dX10_run_39 ?_
        refine Zw_nicmp_ge (i) (m0) 112 dX10_run_40 (by decide) rfl rfl (by omega) (by omega) (fun c40 => ?_) (fun c40 => ?_)
        · refine Zw_iload_2 dX10_run_112 ?_
          refine Zw_if_ne 118 dX10_run_113 (by decide) (fun _ => ?_) (fun c => absurd c (by decide))
          refine Zw_iload_2 dX10_run_118 ?_
          refine Zw_iconst (v := 1) dX10_run_119 (by decide) ?_
          refine Zw_icmp_ne 128 dX10_run_120 (by decide) (fun _ => ?_) (fun c => absurd c (by decide))
          refine Zw_iload_5 dX10_run_128 ?_
          refine Zw_ireturn dX10_run_130 (by first | rfl | assumption) ?_
          exact hq
        · omega
      | n + 3, hc => exact absurd hc (by omega)
set_option maxRecDepth 20000 in
theorem s_X_run {m what : Int32} {cnt t n w : Nat} {Q : zQ} {μ : zMu} {τ : Int64} (hx : x_ok μ cnt t n w) (hbad : ¬ (vp_in m 41 ∧ vp_in what 3) → Q (some (.int (-2))) μ τ) (h : ∀ m0 c, m0 ≤ 40 → c < 3 → m = nI m0 → what = nI c → ∀ μ2, zOff [19, 20, 43] μ μ2 → Q (some (.int (q_pick3 (q_rn (fun v => x_mv μ t v) (fun v => x_wt μ t n v) w m0 0 (μ 1 6) 0) c))) μ2 τ) : Zc 5 yX10_run cX10_run 7 (some .int) [.ref 0, .int m, .int what] μ τ Q := by
  refine Zc.mk 4 [.ref 0, .int m, .int what, .null, .null, .null, .null] rfl (by decide) (Nat.le_of_ble_eq_true rfl) ?_
  refine Zw_iload_1 dX10_run_0 ?_
  refine Zw_bipush (v := 41) dX10_run_1 (by decide) ?_
  refine Zw_S2 (k := 0) lm_X10_76 dX10_run_3 (by decide) (Nat.le_of_ble_eq_true rfl) ?_
  refine s_within 41 (by decide) (fun b1 => ?_) (fun b1 => ?_)
  · refine Zw_if_eq 17 dX10_run_6 (by decide) (fun c => absurd c (by decide)) (fun _ => ?_)
    refine Zw_iload_2 dX10_run_9 ?_
    refine Zw_iconst (v := 3) dX10_run_10 (by decide) ?_
    refine Zw_S2 (k := 0) lm_X10_76 dX10_run_11 (by decide) (Nat.le_of_ble_eq_true rfl) ?_
    refine s_within 3 (by decide) (fun b2 => ?_) (fun b2 => ?_)
    · refine Zw_if_ne 20 dX10_run_14 (by decide) (fun _ => ?_) (fun c => absurd c (by decide))
      refine Zw_aload_0 dX10_run_20 ?_
      refine Zw_getr 1 lf_X10_10 dX10_run_21 (by first | decide | assumption | omega) (by first | rfl | assumption) (by rfl) ?_
      refine Zw_geti lf_X10_147 dX10_run_24 (by first | decide | assumption | omega) (by first | rfl | assumption) (by rfl) ?_
      refine Zw_istore_3 dX10_run_27 rfl ?_
      refine Zw_iconst (v := (-1)) dX10_run_28 (by decide) ?_
      refine Zw_istore_4 dX10_run_29 rfl ?_
      refine Zw_iconst (v := 0) dX10_run_31 (by decide) ?_
      refine Zw_istore_5 dX10_run_32 rfl ?_
      refine Zw_iconst (v := 0) dX10_run_34 (by decide) ?_
      refine Zw_istore_6 dX10_run_35 rfl ?_
      obtain ⟨m0, hm0, rfl⟩ := vp_in_of b1 (by decide)
      obtain ⟨c, hc, rfl⟩ := vp_in_of b2 (by decide)
      exact l_rn hx (by omega) hc (h m0 c (by omega) hc rfl rfl) (m0 + 1) 0 _ _ _ (by omega) (by omega) zOff.rf (fun e => absurd rfl e) rfl
    · refine Zw_if_ne 20 dX10_run_14 (by decide) (fun c => absurd c (by decide)) (fun _ => ?_)
      refine Zw_bipush (v := (-2)) dX10_run_17 (by decide) ?_
      refine Zw_ireturn dX10_run_19 (by first | rfl | assumption) ?_
      exact hbad (fun e => b2 e.2)
  · refine Zw_if_eq 17 dX10_run_6 (by decide) (fun _ => ?_) (fun c => absurd c (by decide))
    refine Zw_bipush (v := (-2)) dX10_run_17 (by decide) ?_
    refine Zw_ireturn dX10_run_19 (by first | rfl | assumption) ?_
    exact hbad (fun e => b1 e.1)
