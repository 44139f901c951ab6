theorem h_enq_len (s : h_S) (x bh : Nat) : s.2.1.length ≤ (h_enq s x bh).2.1.length := by
  unfold h_enq
  split
  · simp
  · exact Nat.le_refl _
theorem h_one_len (wy : Nat → Nat → Bool) (nx : Nat → Nat → Nat) (x p : Nat) (s : h_S) : s.2.1.length ≤ (h_one wy nx x p s).2.1.length := by
  unfold h_one
  split
  · split
    · exact h_enq_len _ _ _
    · exact h_enq_len _ _ _
  · exact Nat.le_refl _
theorem h_exp_len (wy : Nat → Nat → Bool) (nx : Nat → Nat → Nat) (x : Nat) : ∀ m p (s : h_S), s.2.1.length ≤ (h_exp wy nx x m p s).2.1.length
  | 0, _, _ => Nat.le_refl _
  | m + 1, p, s => by
    rw [h_exp_s]
    split
    · exact Nat.le_trans (h_one_len wy nx x p s) (h_exp_len wy nx x m (p + 1) _)
    · exact Nat.le_refl _
theorem h_lvl_len (wy : Nat → Nat → Bool) (nx : Nat → Nat → Nat) : ∀ m i (s : h_S), s.2.1.length ≤ (h_lvl wy nx m i s).2.1.length
  | 0, _, _ => Nat.le_refl _
  | m + 1, i, s => by
    rw [h_lvl_s]
    split
    · exact Nat.le_trans (h_exp_len wy nx _ 8 0 s) (h_lvl_len wy nx m (i + 1) _)
    · exact h_exp_len wy nx _ 8 0 s
theorem x_h.at {μ : zMu} {e i : Nat} {s : h_S} (hx : x_h μ e s) (hi : i < s.2.1.length) : s.2.1.getD i 0 < 2048 := by
  rw [List.getD_eq_getElem?_getD, List.getElem?_eq_getElem hi]
  exact hx.2.2.2.2.2.2 _ (List.getElem_mem hi)
theorem x_sp.off {μ μ' : zMu} {sp : Nat → Nat} (h : zOff [44, 46, 47] μ μ') (hs : x_sp μ sp) : x_sp μ' sp := fun S hS => by rw [h 45 (by simp)]; exact hs S hS
set_option maxRecDepth 20000 in
theorem l_lvl {Q : zQ} {μ0 : zMu} {τ : Int64} {e a n fi dn wk en : Nat} {sp : Nat → Nat} {R : h_S} (hs : x_sp μ0 sp) (he : e < 256) (hen : en ≤ 2048) (hf : ∀ μ2, zOff [44, 46, 47] μ0 μ2 → x_h μ2 e R → R.2.2 ≠ -1 → Q (some (.int (nI wk))) μ2 τ) (hc : ∀ μ2, zOff [44, 46, 47] μ0 μ2 → x_h μ2 e R → R.2.2 = -1 → Zw 2 RX4 cX4_fewestFrom 8 (some .int) Q 107 [.ref 44, .int (nI a), .int (nI n), .int (nI fi), .int (nI dn), .int (nI wk), .int (nI en), .null] [] μ2 τ) : ∀ m i s μ, en - i < m → i ≤ en → en ≤ s.2.1.length → s.2.2 = -1 → zOff [44, 46, 47] μ0 μ → x_h μ e s → h_lvl (x_wy (μ0 2)) (x_nx sp e) (en - i) i s = R → Zw 2 RX4 cX4_fewestFrom 8 (some .int) Q 72 [.ref 44, .int (nI a), .int (nI n), .int (nI fi), .int (nI dn), .int (nI wk), .int (nI en), .int (nI i)] [] μ τ
  | 0, i, _, _, hm, _, _, _, _, _, _ => absurd hm (by omega)
  | m + 1, i, s, μ, hm, hi, hel, hg, hO, hx, hV => by
    refine Zw_iload_7 dX4_fewestFrom_72 ?_
    refine Zw_iload_6 dX4_fewestFrom_74 ?_
    refine Zw_nicmp_ge (i) (en) 107 dX4_fewestFrom_76 (by decide) rfl rfl (by omega) (by omega) (fun c76 => ?_) (fun c76 => ?_)
    · refine Zw_drop (L' := [.ref 44, .int (nI a), .int (nI n), .int (nI fi), .int (nI dn), .int (nI wk), .int (nI en), .null]) ⟨Or.inr rfl, Or.inr rfl, Or.inr rfl, Or.inr rfl, Or.inr rfl, Or.inr rfl, Or.inr rfl, Or.inl rfl, trivial⟩ (Nat.le_of_ble_eq_true rfl) ?_
      rw [show en - i = 0 by omega] at hV
      change s = R at hV
      subst hV
      exact hc μ hO hx hg
    · refine Zw_aload_0 dX4_fewestFrom_79 ?_
      refine Zw_aload_0 dX4_fewestFrom_80 ?_
      refine Zw_getr 47 lf_X4_18 dX4_fewestFrom_81 (by first | decide | assumption | omega) (by first | rfl | assumption) (by rfl) ?_
      refine Zw_iload_7 dX4_fewestFrom_84 ?_
      refine Zw_ialdnv (i) (nI (s.2.1.getD i 0)) dX4_fewestFrom_86 (by first | decide | assumption | omega) (by first | rfl | assumption) rfl (by omega) (by decide) (hx.2.1 i (by omega)) ?_
      refine Zw_V1 (k := 1) lm_X4_88 dX4_fewestFrom_87 (by decide) (by first | decide | assumption | omega) (by first | rfl | assumption) (by rfl) (Nat.le_of_ble_eq_true rfl) ?_
      refine s_exp (hs.off hO) he hx (hx.at (by omega)) rfl (fun μ1 hO1 hx1 => ?_)
      refine Zw_aload_0 dX4_fewestFrom_90 ?_
      refine Zw_getv ((h_exp (x_wy (μ0 2)) (x_nx sp e) (s.2.1.getD i 0) 8 0 s).2.2) lf_X4_69 dX4_fewestFrom_91 (by first | decide | assumption | omega) (by first | rfl | assumption) (by rfl) (by rw [← show μ 2 = μ0 2 from hO 2 (by simp)]; exact hx1.2.2.2.1) ?_
      refine Zw_iconst (v := (-1)) dX4_fewestFrom_94 (by decide) ?_
      refine Zw_icmp_eq 101 dX4_fewestFrom_95 (by decide) (fun c95 => ?_) (fun c95 => ?_)
      · refine Zw_iinc_7 dX4_fewestFrom_101 rfl (zincn _) ?_
        refine Zw_goto 72 dX4_fewestFrom_104 (by decide) ?_
        rw [show en - i = (en - (i + 1)) + 1 by omega, h_lvl_s, if_pos c95] at hV
        rw [show μ 2 = μ0 2 from hO 2 (by simp)] at hx1
        exact l_lvl hs he hen hf hc m (i + 1) _ _ (by omega) (by omega) (Nat.le_trans hel (h_exp_len _ _ _ _ _ _)) c95 (hO.tr hO1) hx1 hV
      · refine Zw_iload_5 dX4_fewestFrom_98 ?_
        refine Zw_ireturn dX4_fewestFrom_100 (by first | rfl | assumption) ?_
        rw [show en - i = (en - (i + 1)) + 1 by omega, h_lvl_s, if_neg c95] at hV
        rw [show μ 2 = μ0 2 from hO 2 (by simp)] at hx1
        subst hV
        exact hf _ (hO.tr hO1) hx1 c95
set_option maxRecDepth 20000 in
theorem l_run {Q : zQ} {μ0 : zMu} {τ : Int64} {e a n fi : Nat} {sp : Nat → Nat} {R : Int32 × h_S} (hs : x_sp μ0 sp) (he : e < 256) (hn : n ≤ 40) (h : ∀ μ2, zOff [44, 46, 47] μ0 μ2 → x_h μ2 e R.2 → Q (some (.int R.1)) μ2 τ) : ∀ m wk dn s μ, n + 1 - wk < m → wk ≤ n + 1 → dn ≤ s.2.1.length → s.2.2 = -1 → zOff [44, 46, 47] μ0 μ → x_h μ e s → h_run (x_wy (μ0 2)) (x_nx sp e) (n + 1 - wk) wk dn s = R → Zw 2 RX4 cX4_fewestFrom 8 (some .int) Q 56 [.ref 44, .int (nI a), .int (nI n), .int (nI fi), .int (nI dn), .int (nI wk), .null, .null] [] μ τ
  | 0, wk, _, _, _, hm, _, _, _, _, _, _ => absurd hm (by omega)
  | m + 1, wk, dn, s, μ, hm, hi, hdn, hg, hO, hx, hV => by
    have h2048 := hx.2.2.2.2.2.1
    refine Zw_iload_5 dX4_fewestFrom_56 ?_
    refine Zw_iload_2 dX4_fewestFrom_58 ?_
    refine Zw_nicmp_gt (wk) (n) 117 dX4_fewestFrom_59 (by decide) rfl rfl (by omega) (by omega) (fun c59 => ?_) (fun c59 => ?_)
    · refine Zw_iconst (v := (-1)) dX4_fewestFrom_117 (by decide) ?_
      refine Zw_ireturn dX4_fewestFrom_118 (by first | rfl | assumption) ?_
      rw [show n + 1 - wk = 0 by omega] at hV
      subst hV
      exact h μ hO hx
    · refine Zw_aload_0 dX4_fewestFrom_62 ?_
      refine Zw_getv (nI s.2.1.length) lf_X4_81 dX4_fewestFrom_63 (by first | decide | assumption | omega) (by first | rfl | assumption) (by rfl) hx.2.2.1 ?_
      refine Zw_istore_6 dX4_fewestFrom_66 rfl ?_
      refine Zw_iload_4 dX4_fewestFrom_68 ?_
      refine Zw_istore_7 dX4_fewestFrom_70 rfl ?_
      rw [show n + 1 - wk = (n + 1 - (wk + 1)) + 1 by omega, h_run_s] at hV
      refine l_lvl (R := h_lvl (x_wy (μ0 2)) (x_nx sp e) (s.2.1.length - dn) dn s) hs he h2048 (fun μ2 hO2 hx2 hne => ?_) (fun μ2 hO2 hx2 hne => ?_) (s.2.1.length + 1) dn s μ (by omega) hdn (Nat.le_refl _) hg hO hx rfl
      · rw [if_neg hne] at hV
        subst hV
        exact h μ2 hO2 hx2
      · rw [if_pos hne] at hV
        refine Zw_iload_6 dX4_fewestFrom_107 ?_
        refine Zw_istore_4 dX4_fewestFrom_109 rfl ?_
        refine Zw_iinc_5 dX4_fewestFrom_111 rfl (zincn _) ?_
        refine Zw_goto 56 dX4_fewestFrom_114 (by decide) ?_
        refine Zw_drop (L' := [.ref 44, .int (nI a), .int (nI n), .int (nI fi), .int (nI s.2.1.length), .int (nI (wk + 1)), .null, .null]) ⟨Or.inr rfl, Or.inr rfl, Or.inr rfl, Or.inr rfl, Or.inr rfl, Or.inr rfl, Or.inl rfl, Or.inl rfl, trivial⟩ (Nat.le_of_ble_eq_true rfl) ?_
        exact l_run hs he hn h m (wk + 1) _ _ _ (by omega) (by omega) (h_lvl_len _ _ _ _ _) hne hO2 hx2 hV
set_option maxRecDepth 20000 in
theorem s_fewest {e a n T : Nat} {sp : Nat → Nat} {R : Int32 × h_S} {Q : zQ} {μ : zMu} {τ : Int64} (hs : x_sp μ sp) (he : e < 256) (heb : μ 44 6 = nI e) (ha : a < 8) (hn : n ≤ 40) (hT : T < 256) (hth : μ 1 6 = nI T) (hR : h_run (x_wy (μ 2)) (x_nx sp e) n 1 0 (upd (fun _ => -1) (a * 256 + T) (nI (a * 256 + T)), [a * 256 + T], -1) = R) (h0 : T = 0 → ∀ μ2, zOff [44] μ μ2 → μ2 44 6 = nI e → μ2 44 7 = -1 → Q (some (.int 0)) μ2 τ) (h : T ≠ 0 → ∀ μ2, zOff [44, 46, 47] μ μ2 → x_h μ2 e R.2 → Q (some (.int R.1)) μ2 τ) : Zc 2 yX4_fewestFrom cX4_fewestFrom 8 (some .int) [.ref 44, .int (nI a), .int (nI n)] μ τ Q := by
  refine Zc.mk 5 [.ref 44, .int (nI a), .int (nI n), .null, .null, .null, .null, .null] rfl (by decide) (Nat.le_of_ble_eq_true rfl) ?_
  refine Zw_aload_0 dX4_fewestFrom_0 ?_
  refine Zw_iconst (v := (-1)) dX4_fewestFrom_1 (by decide) ?_
  refine Zw_put lp_X4_69 dX4_fewestFrom_2 (by first | decide | assumption | omega) (by first | rfl | assumption) (by rfl) (by first | rfl | assumption) (by first | rfl | assumption) ?_
  refine Zw_aload_0 dX4_fewestFrom_5 ?_
  refine Zw_getr 1 lf_X4_21 dX4_fewestFrom_6 (by first | decide | assumption | omega) (by first | rfl | assumption) (by rfl) ?_
  refine Zw_getv (nI T) lf_X4_72 dX4_fewestFrom_9 (by first | decide | assumption | omega) (by first | rfl | assumption) (by rfl) (by simp [zup_at]; exact hth) ?_
  refine Zw_nif_ne (T) 17 dX4_fewestFrom_12 (by decide) rfl (by omega) (fun c12 => ?_) (fun c12 => ?_)
  · refine Zw_aload_0 dX4_fewestFrom_17 ?_
    refine Zw_getr 46 lf_X4_15 dX4_fewestFrom_18 (by first | decide | assumption | omega) (by first | rfl | assumption) (by rfl) ?_
    refine Zw_iconst (v := (-1)) dX4_fewestFrom_21 (by decide) ?_
    refine Zw_S2 (k := 0) lm_X4_75 dX4_fewestFrom_22 (by decide) (Nat.le_of_ble_eq_true rfl) ?_
    refine s_fill (n := 2048) (by decide) rfl (by decide) (fun μ1 hO1 hV1 => ?_)
    refine Zw_aload_0 dX4_fewestFrom_25 ?_
    refine Zw_iconst (v := 0) dX4_fewestFrom_26 (by decide) ?_
    refine Zw_put lp_X4_81 dX4_fewestFrom_27 (by first | decide | assumption | omega) (by first | rfl | assumption) (by rfl) (by first | rfl | assumption) (by first | rfl | assumption) ?_
    refine Zw_iload_1 dX4_fewestFrom_30 ?_
    refine Zw_sipush (v := 256) dX4_fewestFrom_31 (by decide) ?_
    refine Zw_nmul (a) (256) dX4_fewestFrom_34 rfl rfl ?_
    refine Zw_aload_0 dX4_fewestFrom_35 ?_
    refine Zw_getr 1 lf_X4_21 dX4_fewestFrom_36 (by first | decide | assumption | omega) (by first | rfl | assumption) (by rfl) ?_
    refine Zw_getv (nI T) lf_X4_72 dX4_fewestFrom_39 (by first | decide | assumption | omega) (by first | rfl | assumption) (by rfl) (by simp [zup_at]; rw [hO1 1 (by simp)]; simp [zup_at]; exact hth) ?_
    refine Zw_nadd ((a * 256)) (T) dX4_fewestFrom_42 rfl rfl ?_
    refine Zw_istore_3 dX4_fewestFrom_43 rfl ?_
    refine Zw_aload_0 dX4_fewestFrom_44 ?_
    refine Zw_iload_3 dX4_fewestFrom_45 ?_
    refine Zw_iload_3 dX4_fewestFrom_46 ?_
    refine Zw_V2 (k := 0) lm_X4_84 dX4_fewestFrom_47 (by decide) (by first | decide | assumption | omega) (by first | rfl | assumption) (by rfl) (Nat.le_of_ble_eq_true rfl) ?_
    have hxs : x_h (zup μ1 44 5 0) e (fun _ => -1, [], -1) := ⟨fun y hy => by simp [zup_at]; exact hV1 y hy, fun i hi => absurd hi (by simp), by simp [zup_at]; rfl, by simp [zup_at]; rw [hO1 44 (by simp)]; simp [zup_at], by simp [zup_at]; rw [hO1 44 (by simp)]; simp [zup_at]; exact heb, by simp, fun y hy => absurd hy (by simp)⟩
    have hOz : zOff [44, 46, 47] μ (zup μ1 44 5 0) := (((zOff.rf.up (by simp)).tr (hO1.sub (by simp))).up (by simp))
    refine s_enq hxs (by omega) (fun μ2 hO2 hx2 => ?_)
    rw [h_enq, if_pos ⟨rfl, by simp⟩] at hx2
    refine Zw_iconst (v := 0) dX4_fewestFrom_50 (by decide) ?_
    refine Zw_istore_4 dX4_fewestFrom_51 rfl ?_
    refine Zw_iconst (v := 1) dX4_fewestFrom_53 (by decide) ?_
    refine Zw_istore_5 dX4_fewestFrom_54 rfl ?_
    refine Zw_drop (L' := [.ref 44, .int (nI a), .int (nI n), .int (nI (a * 256 + T)), .int (nI 0), .int (nI 1), .null, .null]) ⟨Or.inr rfl, Or.inr rfl, Or.inr rfl, Or.inr rfl, Or.inr rfl, Or.inr rfl, Or.inl rfl, Or.inl rfl, trivial⟩ (Nat.le_of_ble_eq_true rfl) ?_
    exact l_run hs he hn (h c12) (n + 2) 1 0 _ _ (by omega) (by omega) (by simp) rfl (hOz.tr hO2) hx2 (by rw [show n + 1 - 1 = n by omega]; exact hR)
  · refine Zw_iconst (v := 0) dX4_fewestFrom_15 (by decide) ?_
    refine Zw_ireturn dX4_fewestFrom_16 (by first | rfl | assumption) ?_
    exact h0 c12 _ (zOff.rf.up (by simp)) (by simp [zup_at]; exact heb) (by simp [zup_at])
