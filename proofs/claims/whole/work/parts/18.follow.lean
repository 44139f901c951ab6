def q_tst (sy : zSy) (ln : Nat → Int32) (ps : Int32) (n : Nat) (K N A : Nat → Nat) (w : Nat) (it : Nat → Int32) (i : Nat) (s : Nat → Int32) : Nat → Int32 := q_tkp (it i) (q_watch sy ln ps (w + i + 1) n K N A) (q_tmv (fun p => q_next sy ln ps (nI (w + i)) p) s)
def q_fol (st : Nat → (Nat → Int32) → Nat → Int32) : Nat → Nat → (Nat → Int32) → (Nat → Int32) × Int32
  | 0, _, s => (s, -1)
  | m + 1, i, s => if q_last (st i s) = 0 then (st i s, nI i) else q_fol st m (i + 1) (st i s)
theorem q_fol_s (st : Nat → (Nat → Int32) → Nat → Int32) (m i : Nat) (s : Nat → Int32) : q_fol st (m + 1) i s = if q_last (st i s) = 0 then (st i s, nI i) else q_fol st m (i + 1) (st i s) := rfl
theorem q_last_congr {s s' : Nat → Int32} (h : ∀ p, p < 8 → s p = s' p) : q_last s = q_last s' := q_orf_congr 8 (fun p hp => by rw [h p hp])
theorem q_now_congr {s s' : Nat → Int32} (h : ∀ p, p < 8 → s p = s' p) : q_now s = q_now s' := q_orf_congr 8 (fun p hp => by rw [h p hp])
theorem q_tmv_congr {mv mv' s s' : Nat → Int32} (h0 : ∀ p, p < 8 → mv p = mv' p) (h : ∀ p, p < 8 → s p = s' p) (to : Nat) : q_tmv mv s to = q_tmv mv' s' to := q_orf_congr 8 (fun p hp => by rw [h p hp, h0 p hp])
/-- all that weeks in thought rest on -/
def x_nw (μ : zMu) (t : Nat) : Prop := μ (21 + 3 * t) 3 = 0 → ∀ (c : Nat) (p q w w' n y s : Int32), c < 2 → xs μ t c (q_env p q w n y s) = xs μ t c (q_env p q w' n y s)
def x_ok (μ : zMu) (cnt t n w : Nat) : Prop := x_rl μ cnt t ∧ x_fd μ n ∧ μ 1 3 = nI w ∧ w ≤ 999 ∧ x_nw μ t
theorem x_ok.off {μ μ' : zMu} {cnt t n w : Nat} (h : zOff zSC μ μ') (hx : x_ok μ cnt t n w) : x_ok μ' cnt t n w := by
  obtain ⟨h1, h2, h3, h4, h5⟩ := hx
  have ht : t < 6 := by have := h1.2.1; have := h1.2.2.2.1; omega
  refine ⟨h1.off h, h2.off h, by rw [h 1 (zSC_lt (by omega))]; exact h3, h4, ?_⟩
  unfold x_nw
  rw [xs_off ht h, h (21 + 3 * t) (zSC_lt (by omega))]
  exact h5
theorem q_next_nw {μ : zMu} {t : Nat} (h : x_nw μ t) (h0 : μ (21 + 3 * t) 3 = 0) (ln : Nat → Int32) (ps w w' : Int32) (p : Nat) : q_next (xs μ t) ln ps w p = q_next (xs μ t) ln ps w' p := by
  have e1 : q_go (xs μ t) ln ps w p = q_go (xs μ t) ln ps w' p := by
    funext q
    unfold q_go
    rw [h h0 0 _ _ w w' _ _ _ (by omega)]
  unfold q_next
  rw [e1, h h0 1 _ _ w w' _ _ _ (by omega)]
/-- what weeks on end see of the world off the scratch -/
theorem x_same {μ μ' : zMu} {cnt t n w : Nat} (h : zOff zSC μ μ') (hx : x_ok μ cnt t n w) : xs μ' t = xs μ t ∧ μ' 2 = μ 2 ∧ μ' 1 = μ 1 ∧ (∀ v, q_watch (xs μ' t) (μ' 2) (μ' 1 4) v n (xK μ') (xN μ') (xA μ') = q_watch (xs μ t) (μ 2) (μ 1 4) v n (xK μ) (xN μ) (xA μ)) := by
  have ht : t < 6 := by have := hx.1.2.1; have := hx.1.2.2.2.1; omega
  have e1 := xs_off ht h
  have e2 : μ' 2 = μ 2 := h 2 (zSC_lt (by omega))
  have e3 : μ' 1 = μ 1 := h 1 (zSC_lt (by omega))
  have hfi := h.fin (fun k hk => hk) hx.2.1.1
  exact ⟨e1, e2, e3, fun v => by rw [e1, e2, e3, q_watch_congr hfi.1 hfi.2.1 hfi.2.2]⟩
theorem x_lay {μ0 μ μ1 : zMu} {cnt t n w i : Nat} (hx : x_ok μ0 cnt t n w) (hS : zOff zSC μ0 μ) (hM1 : ∀ p, p < 8 → μ1 43 p = q_next (xs μ t) (μ 2) (μ 1 4) (nI (w + i)) p) : ∀ p, p < 8 → μ1 43 p = q_next (xs μ0 t) (μ0 2) (μ0 1 4) (nI (w + i)) p := by
  obtain ⟨e1, e2, e3, -⟩ := x_same hS hx
  intro p hp
  rw [hM1 p hp, e1, e2, e3]
theorem x_laid {μ0 μ : zMu} {cnt t n w i : Nat} (hx : x_ok μ0 cnt t n w) (hS : zOff zSC μ0 μ) (h0 : μ (21 + 3 * t) 3 = 0) (hi : i ≠ 0) (hM : i ≠ 0 → ∀ p, p < 8 → μ 43 p = q_next (xs μ0 t) (μ0 2) (μ0 1 4) (nI (w + (i - 1))) p) : ∀ p, p < 8 → μ 43 p = q_next (xs μ0 t) (μ0 2) (μ0 1 4) (nI (w + i)) p := by
  intro p hp
  have ht : t < 6 := by have := hx.1.2.1; have := hx.1.2.2.2.1; omega
  rw [hM hi p hp]
  exact q_next_nw hx.2.2.2.2 (by rw [← hS (21 + 3 * t) (zSC_lt (by omega))]; exact h0) _ _ _ _ p
set_option maxRecDepth 20000 in
theorem f_body {Q : zQ} {μ0 μ : zMu} {τ : Int64} {a b k q sz i w n cnt t : Nat} {s : Nat → Int32} (hx : x_ok μ0 cnt t n w) (hrow : zRowA k q) (hk51 : 51 < k) (hq51 : 51 < q) (hszb : sz ≤ 40) (hsz : μ0 k 2 = nI sz) (hO : zOff [19, 20, 43, 48, 49, 50] μ0 μ) (hab : x_ab a b) (ra : μ 48 2 = nI a) (rb : μ 48 3 = nI b) (r6 : μ 48 6 = -1) (hi : i < 40) (hM : ∀ p, p < 8 → μ 43 p = q_next (xs μ0 t) (μ0 2) (μ0 1 4) (nI (w + i)) p) (hs1 : ∀ p, p < 8 → μ a p = s p)
  (hz : ∀ μ2, zOff [19, 20, 43, 48, 49, 50] μ0 μ2 → x_ab b a → μ2 48 2 = nI b → μ2 48 3 = nI a → μ2 48 4 = q_last ((q_tst (xs μ0 t) (μ0 2) (μ0 1 4) n (xK μ0) (xN μ0) (xA μ0) w (μ0 q)) i s) → μ2 48 5 = q_now ((q_tst (xs μ0 t) (μ0 2) (μ0 1 4) n (xK μ0) (xN μ0) (xA μ0) w (μ0 q)) i s) → μ2 48 6 = nI i → q_last ((q_tst (xs μ0 t) (μ0 2) (μ0 1 4) n (xK μ0) (xN μ0) (xA μ0) w (μ0 q)) i s) = 0 → Zw 5 RX7 cX7_follow 3 (some .boolean) Q 34 [.ref 48, .ref k, .int (nI (i + 1))] [] μ2 τ)
  (hn : ∀ μ2, zOff [19, 20, 43, 48, 49, 50] μ0 μ2 → x_ab b a → μ2 48 2 = nI b → μ2 48 3 = nI a → μ2 48 4 = q_last ((q_tst (xs μ0 t) (μ0 2) (μ0 1 4) n (xK μ0) (xN μ0) (xA μ0) w (μ0 q)) i s) → μ2 48 5 = q_now ((q_tst (xs μ0 t) (μ0 2) (μ0 1 4) n (xK μ0) (xN μ0) (xA μ0) w (μ0 q)) i s) → μ2 48 6 = -1 → (∀ p, p < 8 → μ2 b p = (q_tst (xs μ0 t) (μ0 2) (μ0 1 4) n (xK μ0) (xN μ0) (xA μ0) w (μ0 q)) i s p) → (∀ p, p < 8 → μ2 43 p = q_next (xs μ0 t) (μ0 2) (μ0 1 4) (nI (w + i)) p) → ¬ q_last ((q_tst (xs μ0 t) (μ0 2) (μ0 1 4) n (xK μ0) (xN μ0) (xA μ0) w (μ0 q)) i s) = 0 → Zw 5 RX7 cX7_follow 3 (some .boolean) Q 34 [.ref 48, .ref k, .int (nI (i + 1))] [] μ2 τ) : Zw 5 RX7 cX7_follow 3 (some .boolean) Q 58 [.ref 48, .ref k, .int (nI i)] [] μ τ := by
  obtain ⟨ha, hsa, hb, hsb, nab, na48, nb48, na43, nb43, ha31, hb31⟩ := hab.sh
  obtain ⟨hk, hs, hq, hsq, hne⟩ := hrow
  have hS := hO.sc (by decide)
  have hx1 := hx.off hS
  have hm49 := hab.mem
  have hbm : b = 49 ∨ b = 50 := by have := hab.mem.2; simpa using this
  have ham : a = 49 ∨ a = 50 := by have := hab.mem.1; simpa using this
  have hw3 := hx.2.2.2.1
  have hsz1 : μ k 2 = nI sz := by rw [hO k (by simp; omega)]; exact hsz
  refine Zw_aload_0 dX7_follow_58 ?_
  refine Zw_V0 (k := 1) lm_X7_44 dX7_follow_59 (by decide) (by first | decide | assumption | omega) (by first | rfl | assumption) (by rfl) (Nat.le_of_ble_eq_true rfl) ?_
  refine s_along hab ra rb (fun μ3 hO3a b2 b3 bj bt => ?_)
  have hO3 : zOff [19, 20, 43, 48, 49, 50] μ0 μ3 := hO.tr (hO3a.sub (by simp))
  have hS3 := hO3.sc (by decide)
  have hx3 := hx.off hS3
  obtain ⟨e1, e2, e3, e4⟩ := x_same hS3 hx
  refine Zw_aload_0 dX7_follow_62 ?_
  refine Zw_aload_1 dX7_follow_63 ?_
  refine Zw_getr q lf_X7_47 dX7_follow_64 (by first | decide | assumption | omega) (by first | rfl | assumption) (by first | rfl | assumption) ?_
  refine Zw_iload_2 dX7_follow_67 ?_
  refine Zw_ialdnv (i) (μ0 q i) dX7_follow_68 (by first | decide | assumption | omega) (by first | rfl | assumption) rfl (by omega) (by decide) (by rw [hO3 q (by simp; omega)]) ?_
  refine Zw_aload_0 dX7_follow_69 ?_
  refine Zw_getr 42 lf_X7_22 dX7_follow_70 (by first | decide | assumption | omega) (by first | rfl | assumption) (by rfl) ?_
  refine Zw_aload_0 dX7_follow_73 ?_
  refine Zw_getr 1 lf_X7_18 dX7_follow_74 (by first | decide | assumption | omega) (by first | rfl | assumption) (by rfl) ?_
  refine Zw_getv (nI w) lf_X7_50 dX7_follow_77 (by first | decide | assumption | omega) (by first | rfl | assumption) (by rfl) (by rw [hO3 1 (by simp)]; exact hx.2.2.1) ?_
  refine Zw_iload_2 dX7_follow_80 ?_
  refine Zw_nadd (w) (i) dX7_follow_81 rfl rfl ?_
  refine Zw_iconst (v := 1) dX7_follow_82 (by decide) ?_
  refine Zw_nadd ((w + i)) (1) dX7_follow_83 rfl rfl ?_
  refine Zw_V1 (k := 3) lm_X7_55 dX7_follow_84 (by decide) (by first | decide | assumption | omega) (by first | rfl | assumption) (by rfl) (Nat.le_of_ble_eq_true rfl) ?_
  refine s_watch (w := w + i + 1) (by omega) hx3.1 hx3.2.1 (fun μ4 hO4 => ?_)
  rw [e4]
  refine Zw_V2 (k := 0) lm_X7_59 dX7_follow_87 (by decide) (by first | decide | assumption | omega) (by first | rfl | assumption) (by rfl) (Nat.le_of_ble_eq_true rfl) ?_
  refine s_keepTold hab.swap (by rw [hO4 48 (by simp)]; exact b2) (fun μ5 hO5 hK5 => ?_)
  refine Zw_aload_0 dX7_follow_90 ?_
  refine Zw_V0 (k := 0) lm_X7_30 dX7_follow_91 (by decide) (by first | decide | assumption | omega) (by first | rfl | assumption) (by rfl) (Nat.le_of_ble_eq_true rfl) ?_
  have hOb : ∀ p, p < 8 → μ5 b p = q_tst (xs μ0 t) (μ0 2) (μ0 1 4) n (xK μ0) (xN μ0) (xA μ0) w (μ0 q) i s p := by
    intro p hp
    rw [hK5 p hp, q_tst, q_tkp, q_tkp, hO4 b (by simp; omega), bt p hp, q_tmv_congr hM hs1 p]
  have h48 : μ5 48 = μ3 48 := by rw [hO5 48 (by simp; exact Ne.symm nb48), hO4 48 (by simp)]
  have hO5' : zOff [19, 20, 43, 48, 49, 50] μ0 μ5 := (hO3.tr (hO4.sub (by simp))).tr (hO5.sub (by intro k hk; simp at hk; subst hk; have := hab.mem.2; simp at this ⊢; omega))
  refine s_sumUp hab.swap (by rw [h48]; exact b2) (fun μ6 hO6 s2 s3 s6 s4 s5 => ?_)
  have b4L := s4.trans (q_last_congr hOb)
  have b5N := s5.trans (q_now_congr hOb)
  have hO6' : zOff [19, 20, 43, 48, 49, 50] μ0 μ6 := hO5'.tr (hO6.sub (by simp))
  have hb6 : ∀ p, p < 8 → μ6 b p = q_tst (xs μ0 t) (μ0 2) (μ0 1 4) n (xK μ0) (xN μ0) (xA μ0) w (μ0 q) i s p := fun p hp => by rw [hO6 b (by simp; exact nb48)]; exact hOb p hp
  have h43 : ∀ p, p < 8 → μ6 43 p = q_next (xs μ0 t) (μ0 2) (μ0 1 4) (nI (w + i)) p := fun p hp => by rw [hO6 43 (by simp), hO5 43 (by simp; exact Ne.symm nb43), hO4 43 (by simp), hO3a 43 (by simp)]; exact hM p hp
  rw [h48] at s2 s3 s6
  refine Zw_aload_0 dX7_follow_94 ?_
  refine Zw_getv (q_last (q_tst (xs μ0 t) (μ0 2) (μ0 1 4) n (xK μ0) (xN μ0) (xA μ0) w (μ0 q) i s)) lf_X7_63 dX7_follow_95 (by first | decide | assumption | omega) (by first | rfl | assumption) (by rfl) b4L ?_
  refine Zw_if_ne 106 dX7_follow_98 (by decide) (fun c98 => ?_) (fun c98 => ?_)
  · refine Zw_iinc_2 dX7_follow_106 rfl (zincn _) ?_
    refine Zw_goto 34 dX7_follow_109 (by decide) ?_
    exact hn _ hO6' hab.swap (s2.trans b2) (s3.trans b3) b4L b5N (by rw [s6, bj 6 (by omega)]; exact r6) hb6 h43 c98
  · refine Zw_aload_0 dX7_follow_101 ?_
    refine Zw_iload_2 dX7_follow_102 ?_
    refine Zw_put lp_X7_26 dX7_follow_103 (by first | decide | assumption | omega) (by first | rfl | assumption) (by rfl) (by first | rfl | assumption) (by first | rfl | assumption) ?_
    refine Zw_iinc_2 dX7_follow_106 rfl (zincn _) ?_
    refine Zw_goto 34 dX7_follow_109 (by decide) ?_
    refine hz _ (hO6'.up (by simp)) hab.swap (by simp [zup_at]; rw [s2]; exact b2) (by simp [zup_at]; rw [s3]; exact b3) (by simp [zup_at, b4L]) (by simp [zup_at, b5N]) (by simp [zup_at]) c98
set_option maxRecDepth 20000 in
theorem f_end {Q : zQ} {μ0 μ : zMu} {τ : Int64} {k sz i : Nat} (hsz : μ0 k 2 = nI sz) (hk51 : 51 < k) (hk : k < 78) (hs : ∃ q, zSh k = .inl (5, [q + 3, 0, 0])) (hi : i < 2 ^ 30) (hszb : sz ≤ 40) (hO : zOff [19, 20, 43, 48, 49, 50] μ0 μ) (r6 : μ 48 6 = nI i) (h : Q (some (.int (if nI i = -1 then 1 else 0))) μ τ) : Zw 5 RX7 cX7_follow 3 (some .boolean) Q 34 [.ref 48, .ref k, .int (nI (i + 1))] [] μ τ := by
  obtain ⟨q, hs⟩ := hs
  have hsz1 : μ k 2 = nI sz := by rw [hO k (by simp; omega)]; exact hsz
  have hne : ¬ nI i = -1 := fun e => absurd ((nI_toInt (n := i) (by omega)).symm.trans ((congrArg Int32.toInt e).trans (show (-1 : Int32).toInt = -1 from rfl))) (by omega)
  rw [if_neg hne] at h
  refine Zw_iload_2 dX7_follow_34 ?_
  refine Zw_aload_1 dX7_follow_35 ?_
  refine Zw_getv (nI sz) lf_X7_33 dX7_follow_36 (by first | decide | assumption | omega) (by first | rfl | assumption) (by rfl) hsz1 ?_
  refine Zw_nicmp_ge ((i + 1)) (sz) 112 dX7_follow_39 (by decide) rfl rfl (by omega) (by omega) (fun c39 => ?_) (fun c39 => ?_)
  · refine Zw_aload_0 dX7_follow_112 ?_
    refine Zw_getv (nI i) lf_X7_26 dX7_follow_113 (by first | decide | assumption | omega) (by first | rfl | assumption) (by rfl) r6 ?_
    refine Zw_iconst (v := (-1)) dX7_follow_116 (by decide) ?_
    refine Zw_icmp_ne 124 dX7_follow_117 (by decide) (fun c117 => ?_) (fun c117 => absurd c117 hne)
    refine Zw_iconst (v := 0) dX7_follow_124 (by decide) ?_
    refine Zw_ireturn dX7_follow_125 (by first | rfl | assumption) ?_
    exact h
  · refine Zw_aload_0 dX7_follow_42 ?_
    refine Zw_getv (nI i) lf_X7_26 dX7_follow_43 (by first | decide | assumption | omega) (by first | rfl | assumption) (by rfl) r6 ?_
    refine Zw_iconst (v := (-1)) dX7_follow_46 (by decide) ?_
    refine Zw_icmp_ne 112 dX7_follow_47 (by decide) (fun c47 => ?_) (fun c47 => absurd c47 hne)
    refine Zw_aload_0 dX7_follow_112 ?_
    refine Zw_getv (nI i) lf_X7_26 dX7_follow_113 (by first | decide | assumption | omega) (by first | rfl | assumption) (by rfl) r6 ?_
    refine Zw_iconst (v := (-1)) dX7_follow_116 (by decide) ?_
    refine Zw_icmp_ne 124 dX7_follow_117 (by decide) (fun c117 => ?_) (fun c117 => absurd c117 hne)
    refine Zw_iconst (v := 0) dX7_follow_124 (by decide) ?_
    refine Zw_ireturn dX7_follow_125 (by first | rfl | assumption) ?_
    exact h
set_option maxRecDepth 20000 in
theorem l_follow {Q : zQ} {μ0 : zMu} {τ : Int64} {k q sz w n cnt t : Nat} {R : (Nat → Int32) × Int32} (hx : x_ok μ0 cnt t n w) (hrow : zRowA k q) (hk51 : 51 < k) (hq51 : 51 < q) (hszb : sz ≤ 40) (hsz : μ0 k 2 = nI sz) (h : ∀ μ2 a2 b2, zOff [19, 20, 43, 48, 49, 50] μ0 μ2 → x_ab a2 b2 → μ2 48 2 = nI a2 → μ2 48 3 = nI b2 → μ2 48 4 = q_last R.1 → μ2 48 5 = q_now R.1 → μ2 48 6 = R.2 → Q (some (.int (if R.2 = -1 then 1 else 0))) μ2 τ) : ∀ m i s a b μ, sz - i < m → i ≤ sz → zOff [19, 20, 43, 48, 49, 50] μ0 μ → x_ab a b → μ 48 2 = nI a → μ 48 3 = nI b → μ 48 4 = q_last s → μ 48 5 = q_now s → μ 48 6 = -1 → (∀ p, p < 8 → μ a p = s p) → (i ≠ 0 → ∀ p, p < 8 → μ 43 p = q_next (xs μ0 t) (μ0 2) (μ0 1 4) (nI (w + (i - 1))) p) → q_fol (q_tst (xs μ0 t) (μ0 2) (μ0 1 4) n (xK μ0) (xN μ0) (xA μ0) w (μ0 q)) (sz - i) i s = R → Zw 5 RX7 cX7_follow 3 (some .boolean) Q 34 [.ref 48, .ref k, .int (nI i)] [] μ τ
  | 0, i, _, _, _, _, hm, _, _, _, _, _, _, _, _, _, _, _ => absurd hm (by omega)
  | m + 1, i, s, a, b, μ, hm, hi, hO, hab, ra, rb, h4, h5, r6, hs1, hM, hV => by
    obtain ⟨ha, hsa, hb, hsb, nab, na48, nb48, na43, nb43, ha31, hb31⟩ := hab.sh
    obtain ⟨hk, hs, hq, hsq, hne⟩ := hrow
    have hS := hO.sc (by decide)
    have hx1 := hx.off hS
    have hm49 := hab.mem
    have hbm : b = 49 ∨ b = 50 := by have := hab.mem.2; simpa using this
    have ham : a = 49 ∨ a = 50 := by have := hab.mem.1; simpa using this
    have hw3 := hx.2.2.2.1
    have hsz1 : μ k 2 = nI sz := by rw [hO k (by simp; omega)]; exact hsz
    refine Zw_iload_2 dX7_follow_34 ?_
    refine Zw_aload_1 dX7_follow_35 ?_
    refine Zw_getv (nI sz) lf_X7_33 dX7_follow_36 (by first | decide | assumption | omega) (by first | rfl | assumption) (by rfl) hsz1 ?_
    refine Zw_nicmp_ge (i) (sz) 112 dX7_follow_39 (by decide) rfl rfl (by omega) (by omega) (fun c39 => ?_) (fun c39 => ?_)
    · refine Zw_aload_0 dX7_follow_112 ?_
      refine Zw_getv (-1) lf_X7_26 dX7_follow_113 (by first | decide | assumption | omega) (by first | rfl | assumption) (by rfl) r6 ?_
      refine Zw_iconst (v := (-1)) dX7_follow_116 (by decide) ?_
      refine Zw_icmp_ne 124 dX7_follow_117 (by decide) (fun c => absurd c (by decide)) (fun _ => ?_)
      refine Zw_iconst (v := 1) dX7_follow_120 (by decide) ?_
      refine Zw_goto 125 dX7_follow_121 (by decide) ?_
      refine Zw_ireturn dX7_follow_125 (by first | rfl | assumption) ?_
      rw [show sz - i = 0 by omega] at hV
      subst hV
      exact h μ a b hO hab ra rb h4 h5 r6
    · refine Zw_aload_0 dX7_follow_42 ?_
      refine Zw_getv (-1) lf_X7_26 dX7_follow_43 (by first | decide | assumption | omega) (by first | rfl | assumption) (by rfl) r6 ?_
      refine Zw_iconst (v := (-1)) dX7_follow_46 (by decide) ?_
      refine Zw_icmp_ne 112 dX7_follow_47 (by decide) (fun c => absurd c (by decide)) (fun _ => ?_)
      refine Zw_aload_0 dX7_follow_50 ?_
      refine Zw_getr 42 lf_X7_22 dX7_follow_51 (by first | decide | assumption | omega) (by first | rfl | assumption) (by rfl) ?_
      refine Zw_iload_2 dX7_follow_54 ?_
      refine Zw_V1 (k := 4) lm_X7_38 dX7_follow_55 (by decide) (by first | decide | assumption | omega) (by first | rfl | assumption) (by rfl) (Nat.le_of_ble_eq_true rfl) ?_
      refine s_layMovesOf (w := w) hx1.1 hx1.2.2.1 (by omega) (fun g1 μ1 hO1 hM1 => ?_) (fun g1 g2 => ?_)
      · rw [show sz - i = (sz - (i + 1)) + 1 by omega, q_fol_s] at hV
        refine f_body (s := s) hx ⟨hk, hs, hq, hsq, hne⟩ hk51 hq51 hszb hsz (hO.tr (hO1.sub (by simp))) hab (by rw [hO1 48 (by simp)]; exact ra) (by rw [hO1 48 (by simp)]; exact rb) (by rw [hO1 48 (by simp)]; exact r6) (by omega) (x_lay hx hS hM1) (fun p hp => by rw [hO1 a (by simp; omega)]; exact hs1 p hp) (fun μ2 gO gab g2 g3 g4 g5 g6 gz => ?_) (fun μ2 gO gab g2 g3 g4 g5 g6 gs gm gz => ?_)
        · rw [if_pos gz] at hV
          subst hV
          exact f_end hsz hk51 hk ⟨_, hs⟩ (by omega) hszb gO g6 (h μ2 b a gO gab g2 g3 g4 g5 g6)
        · rw [if_neg gz] at hV
          exact l_follow hx ⟨hk, hs, hq, hsq, hne⟩ hk51 hq51 hszb hsz h m (i + 1) _ b a _ (by omega) (by omega) gO gab g2 g3 g4 g5 g6 gs (fun _ => gm) hV
      · rw [show sz - i = (sz - (i + 1)) + 1 by omega, q_fol_s] at hV
        refine f_body (s := s) hx ⟨hk, hs, hq, hsq, hne⟩ hk51 hq51 hszb hsz hO hab ra rb r6 (by omega) (x_laid hx hS g2 g1 hM) hs1 (fun μ2 gO gab g2 g3 g4 g5 g6 gz => ?_) (fun μ2 gO gab g2 g3 g4 g5 g6 gs gm gz => ?_)
        · rw [if_pos gz] at hV
          subst hV
          exact f_end hsz hk51 hk ⟨_, hs⟩ (by omega) hszb gO g6 (h μ2 b a gO gab g2 g3 g4 g5 g6)
        · rw [if_neg gz] at hV
          exact l_follow hx ⟨hk, hs, hq, hsq, hne⟩ hk51 hq51 hszb hsz h m (i + 1) _ b a _ (by omega) (by omega) gO gab g2 g3 g4 g5 g6 gs (fun _ => gm) hV
set_option maxRecDepth 20000 in
theorem l_follow0 {Q : zQ} {μ0 : zMu} {τ : Int64} {a b k : Nat} (hab : x_ab a b) (ra : μ0 48 2 = nI a) (h : ∀ μ2, zOff [a] μ0 μ2 → (∀ p, p < 8 → μ2 a p = q_bit p) → Zw 5 RX7 cX7_follow 3 (some .boolean) Q 23 [.ref 48, .ref k, .null] [] μ2 τ) : ∀ m i μ, 8 - i < m → i ≤ 8 → zOff [a] μ0 μ → (∀ p, p < i → μ a p = q_bit p) → Zw 5 RX7 cX7_follow 3 (some .boolean) Q 2 [.ref 48, .ref k, .int (nI i)] [] μ τ
  | 0, i, _, hm, _, _, _ => absurd hm (by omega)
  | m + 1, i, μ, hm, hi, hO, hL => by
    obtain ⟨ha, hsa, hb, hsb, nab, na48, nb48, na43, nb43, ha31, hb31⟩ := hab.sh
    have ra1 : (μ 48 2).toNatClampNeg = a := by rw [hO 48 (by simp; exact Ne.symm na48), ra]; exact nI_clamp ha31
    refine Zw_iload_2 dX7_follow_2 ?_
    refine Zw_bipush (v := 8) dX7_follow_3 (by decide) ?_
    refine Zw_nicmp_ge (i) (8) 23 dX7_follow_5 (by decide) rfl rfl (by omega) (by omega) (fun c5 => ?_) (fun c5 => ?_)
    · refine Zw_drop (L' := [.ref 48, .ref k, .null]) ⟨Or.inr rfl, Or.inr rfl, Or.inl rfl, trivial⟩ (Nat.le_of_ble_eq_true rfl) ?_
      exact h μ hO (fun p hp => hL p (by omega))
    · refine Zw_aload_0 dX7_follow_8 ?_
      refine Zw_getmv (a) lf_X7_9 dX7_follow_9 (by first | decide | assumption | omega) (by first | rfl | assumption) (by rfl) ra1 ?_
      refine Zw_iload_2 dX7_follow_12 ?_
      refine Zw_iconst (v := 1) dX7_follow_13 (by decide) ?_
      refine Zw_iload_2 dX7_follow_14 ?_
      refine Zw_ishl dX7_follow_15 ?_
      refine Zw_iastn (i) dX7_follow_16 (by first | decide | assumption | omega) (by first | rfl | assumption) rfl (by omega) (by decide) ?_
      refine Zw_iinc_2 dX7_follow_17 rfl (zincn _) ?_
      refine Zw_goto 2 dX7_follow_20 (by decide) ?_
      exact l_follow0 hab ra h m (i + 1) _ (by omega) (by omega) (hO.up (by simp)) (fun p hp => if e : p = i then (by subst e; rw [zup_at]; simp [q_bit]) else (by rw [zup_at, if_neg (by omega)]; exact hL p (by omega)))
set_option maxRecDepth 20000 in
theorem s_follow {k q sz w n cnt t a b : Nat} {R : (Nat → Int32) × Int32} {Q : zQ} {μ : zMu} {τ : Int64} (hx : x_ok μ cnt t n w) (hrow : zRowA k q) (hk51 : 51 < k) (hq51 : 51 < q) (hszb : sz ≤ 40) (hsz : μ k 2 = nI sz) (hab : x_ab a b) (ra : μ 48 2 = nI a) (rb : μ 48 3 = nI b) (hR : q_fol (q_tst (xs μ t) (μ 2) (μ 1 4) n (xK μ) (xN μ) (xA μ) w (μ q)) sz 0 (fun p => q_bit p) = R) (h : ∀ μ2 a2 b2, zOff [19, 20, 43, 48, 49, 50] μ μ2 → x_ab a2 b2 → μ2 48 2 = nI a2 → μ2 48 3 = nI b2 → μ2 48 4 = q_last R.1 → μ2 48 5 = q_now R.1 → μ2 48 6 = R.2 → Q (some (.int (if R.2 = -1 then 1 else 0))) μ2 τ) : Zc 5 yX7_follow cX7_follow 3 (some .boolean) [.ref 48, .ref k] μ τ Q := by
  refine Zc.mk 1 [.ref 48, .ref k, .null] rfl (by decide) (Nat.le_of_ble_eq_true rfl) ?_
  obtain ⟨ha, hsa, hb, hsb, nab, na48, nb48, na43, nb43, ha31, hb31⟩ := hab.sh
  obtain ⟨hk, hs, hq, hsq, hne⟩ := hrow
  refine Zw_iconst (v := 0) dX7_follow_0 (by decide) ?_
  refine Zw_istore_2 dX7_follow_1 rfl ?_
  refine l_follow0 hab ra (fun μ1 hO1 hL1 => ?_) 9 0 _ (by omega) (by omega) zOff.rf (fun p hp => absurd hp (by omega))
  refine Zw_aload_0 dX7_follow_23 ?_
  refine Zw_iconst (v := (-1)) dX7_follow_24 (by decide) ?_
  refine Zw_put lp_X7_26 dX7_follow_25 (by first | decide | assumption | omega) (by first | rfl | assumption) (by rfl) (by first | rfl | assumption) (by first | rfl | assumption) ?_
  refine Zw_aload_0 dX7_follow_28 ?_
  refine Zw_V0 (k := 0) lm_X7_30 dX7_follow_29 (by decide) (by first | decide | assumption | omega) (by first | rfl | assumption) (by rfl) (Nat.le_of_ble_eq_true rfl) ?_
  refine s_sumUp hab (by simp [zup_at]; rw [hO1 48 (by simp; exact Ne.symm na48)]; exact ra) (fun μ2 hO2 s2 s3 s6 s4 s5 => ?_)
  refine Zw_iconst (v := 0) dX7_follow_32 (by decide) ?_
  refine Zw_istore_2 dX7_follow_33 rfl ?_
  have hE : ∀ p, p < 8 → (zup μ1 48 6 (-1)) a p = q_bit p := fun p hp => by rw [zup_ne na48]; exact hL1 p hp
  refine l_follow hx ⟨hk, hs, hq, hsq, hne⟩ hk51 hq51 hszb hsz h (sz + 1) 0 (fun p => q_bit p) a b _ (by omega) (by omega) (((hO1.sub (by intro k hk; simp at hk; subst hk; have := hab.mem.1; simp at this ⊢; omega)).up (by simp)).tr (hO2.sub (by simp))) hab ?_ ?_ (s4.trans (q_last_congr hE)) (s5.trans (q_now_congr hE)) ?_ (fun p hp => by rw [hO2 a (by simp; exact na48)]; exact hE p hp) (fun e => absurd rfl e) (by rw [Nat.sub_zero]; exact hR)
  · rw [s2, zup_at]; simp; rw [hO1 48 (by simp; exact Ne.symm na48)]; exact ra
  · rw [s3, zup_at]; simp; rw [hO1 48 (by simp; exact Ne.symm na48)]; exact rb
  · rw [s6]; simp [zup_at]
