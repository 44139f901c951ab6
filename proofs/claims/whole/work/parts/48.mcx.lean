/-! the reference's world by abstract words: what texts say, lanes, pose, finders -/
abbrev mC : Type := zSy × (Nat → Int32) × Int32 × Nat × (Nat → Nat) × (Nat → Nat) × (Nat → Nat)
abbrev cN (C : mC) : Nat := C.2.2.2.1
abbrev cK (C : mC) : Nat → Nat := C.2.2.2.2.1
abbrev cU (C : mC) : Nat → Nat := C.2.2.2.2.2.1
abbrev cA (C : mC) : Nat → Nat := C.2.2.2.2.2.2
def c_mv (C : mC) (w : Nat) : Nat → Int32 := fun p => q_next C.1 C.2.1 C.2.2.1 (nI w) p
def c_see (C : mC) (w f p : Nat) : Bool := q_sees C.1 C.2.1 C.2.2.1 w (cK C f) (cU C f) p
def c_ey (C : mC) (w f : Nat) : Int32 := q_eyes C.1 C.2.1 C.2.2.1 w (cK C f) (cU C f)
def c_wt (C : mC) (w : Nat) : Int32 := q_watch C.1 C.2.1 C.2.2.1 w (cN C) (cK C) (cU C) (cA C)
def m_cx (C : mC) (w : Nat) (μ : zMu) : Prop := ∃ t, m_ok μ t (cN C) w ∧ m_say μ t = C.1 ∧ (∀ p, p < 8 → μ 66 p = C.2.1 p) ∧ μ 65 1 = C.2.2.1 ∧ ∀ f, f < cN C → μ 67 f = nI (cK C f) ∧ μ 68 (3 * f) = nI (cU C f) ∧ μ 68 (3 * f + 1) = nI (cA C f) ∧ cK C f < 6 ∧ cU C f < 10 ∧ cA C f < 8
theorem m_cx.off {C : mC} {w : Nat} {S : List Nat} {μ μ' : zMu} (hc : m_cx C w μ) (h : nOff S μ μ') (hS : ∀ k ∈ S, 68 < k) : m_cx C w μ' := by
  obtain ⟨t, h1, h2, h3, h4, h5⟩ := hc
  have hn : ∀ k, k ≤ 68 → k ≠ 61 → k ∉ 61 :: S := fun k hk h61 hm => by
    rcases List.mem_cons.mp hm with e | e
    · exact h61 e
    · exact absurd (hS k e) (by omega)
  have hno : ∀ k, k ≤ 68 → k ∉ S := fun k hk hm => absurd (hS k hm) (by omega)
  have t6 := h1.1.2.1
  refine ⟨t, h1.off h ⟨hno _ (by decide), hno _ (by decide), hno _ (by decide), hno _ (by decide), hno _ (by decide), hno _ (by decide)⟩, ?_, ?_, ?_, ?_⟩
  · rw [m_say_off h.1 (hn _ (by decide) (by decide)) (hn _ (by decide) (by decide)) (hn _ (by omega) (by omega)) (hn _ (by omega) (by omega))]; exact h2
  · rw [h.1 66 (hn _ (by decide) (by decide))]; exact h3
  · rw [h.1 65 (hn _ (by decide) (by decide))]; exact h4
  · rw [h.1 67 (hn _ (by decide) (by decide)), h.1 68 (hn _ (by decide) (by decide))]; exact h5
theorem m_cx.n5 {C : mC} {w : Nat} {μ : zMu} (hc : m_cx C w μ) : cN C ≤ 5 ∧ μ 61 11 = nI (cN C) ∧ μ 65 0 = nI w ∧ w < 2000 := by
  obtain ⟨t, h1, _⟩ := hc
  exact ⟨h1.2.1.1, h1.2.1.2.1, h1.2.2.1, h1.2.2.2.1⟩
theorem m_cx.fd {C : mC} {w : Nat} {μ : zMu} (hc : m_cx C w μ) {f : Nat} (hf : f < cN C) : μ 67 f = nI (cK C f) ∧ μ 68 (3 * f) = nI (cU C f) ∧ μ 68 (3 * f + 1) = nI (cA C f) ∧ cK C f < 6 ∧ cU C f < 10 ∧ cA C f < 8 := by
  obtain ⟨t, _, _, _, _, h5⟩ := hc
  exact h5 f hf
theorem m_cx.ln {C : mC} {w : Nat} {μ : zMu} (hc : m_cx C w μ) {p : Nat} (hp : p < 8) : μ 66 p = C.2.1 p ∧ r8 (μ 66 p) := by
  obtain ⟨t, h1, _, h3, _⟩ := hc
  exact ⟨h3 p hp, h1.2.2.2.2 p hp⟩
/-- another week -/
theorem m_cx.wk {C : mC} {w v : Nat} {μ : zMu} {x : Int32} (hc : m_cx C w μ) (hx : x = nI v) (hv : v < 2000) : m_cx C v (zup μ 65 0 x) := by
  obtain ⟨t, h1, h2, h3, h4, h5⟩ := hc
  obtain ⟨⟨a1, a2, a3⟩, ⟨b1, b2, b3⟩, c1, c2, c3⟩ := h1
  have ho : zOff [65] μ (zup μ 65 0 x) := zOff.rf.up (by simp)
  refine ⟨t, ⟨⟨by rw [zup_ne (by decide)]; exact a1, a2, m_tx_off ho (by simp) (by simp) a3⟩, ⟨b1, by rw [zup_ne (by decide)]; exact b2, ?_⟩, by rw [zup_at, if_pos ⟨rfl, rfl⟩]; exact hx, hv, ?_⟩, ?_, ?_, ?_, ?_⟩
  · rw [zup_ne (by decide), zup_ne (by decide)]; exact b3
  · rw [zup_ne (by decide)]; exact c3
  · rw [m_say_off ho (by simp) (by simp) (by simp; omega) (by simp; omega)]; exact h2
  · rw [zup_ne (by decide)]; exact h3
  · rw [zup_at, if_neg (by simp)]; exact h4
  · rw [zup_ne (by decide), zup_ne (by decide)]; exact h5
theorem q_next_ln {sy : zSy} {ln ln' : Nat → Int32} {ps wk : Int32} {p : Nat} (h : ln p = ln' p) : q_next sy ln ps wk p = q_next sy ln' ps wk p := by
  have hg : q_go sy ln ps wk p = q_go sy ln' ps wk p := by funext q; unfold q_go; rw [h]
  unfold q_next
  rw [hg, h]
theorem q_sees_ln {sy : zSy} {ln ln' : Nat → Int32} {ps : Int32} {w kd nu p : Nat} (h : ln p = ln' p) : q_sees sy ln ps w kd nu p = q_sees sy ln' ps w kd nu p := by
  unfold q_sees
  rw [h]
theorem r8_mv (C : mC) (w : Nat) {p : Nat} (hp : p < 8) : r8 (c_mv C w p) := r8_next _ _ _ _ hp
theorem s_c_cb {C : mC} {w p : Nat} {Q : zQ} {μ : zMu} {τ : Int64} (hc : m_cx C w μ) (hp : p < 8) (h : ∀ μ2 τ2, nOff [] μ μ2 → Q (some (.int (c_mv C w p))) μ2 τ2) : Zc 43 yX11_couldBe cX11_couldBe 4 (some .int) [.ref 61, .int (nI p)] μ τ Q := by
  obtain ⟨t, h1, h2, h3, h4, h5⟩ := hc
  refine s_m_cb h1 hp (fun μ2 τ2 o => ?_)
  rw [h2, h4, q_next_ln (h3 p hp)]
  exact h μ2 τ2 o
theorem s_c_see {C : mC} {w f p : Nat} {Q : zQ} {μ : zMu} {τ : Int64} (hc : m_cx C w μ) (hf : f < cN C) (hp : p < 8) (g1 : c_see C w f p = true → ∀ μ2 τ2, nOff [] μ μ2 → Q (some (.int 1)) μ2 τ2) (g0 : c_see C w f p = false → ∀ μ2 τ2, nOff [] μ μ2 → Q (some (.int 0)) μ2 τ2) : Zc 43 yX11_seesAt cX11_seesAt 7 (some .boolean) [.ref 61, .int (nI f), .int (nI p)] μ τ Q := by
  obtain ⟨t, h1, h2, h3, h4, h5⟩ := hc
  obtain ⟨k1, k2, k3, k4, k5, k6⟩ := h5 f hf
  have e : m_see μ t w (cK C f) (cU C f) p = c_see C w f p := by
    show q_sees _ _ _ _ _ _ _ = q_sees _ _ _ _ _ _ _
    rw [h2, h4, q_sees_ln (h3 p hp)]
  have hf5 : f < 5 := by have := h1.2.1.1; omega
  exact s_m_see h1 hf5 hp k1 k4 k2 k5 (fun d => g1 (by rw [← e]; exact d)) (fun d => g0 (by rw [← e]; exact d))
set_option maxRecDepth 20000 in
theorem l_c_eyes {Q : zQ} {μ0 : zMu} {C : mC} {w f : Nat} (hc : m_cx C w μ0) (hf : f < cN C) (h : ∀ μ2 τ2, nOff [] μ0 μ2 → Q (some (.int (c_ey C w f))) μ2 τ2) : ∀ m i set μ τ, 8 - i < m → i ≤ 8 → nOff [] μ0 μ → set = q_orf (fun p => if c_see C w f p then q_bit p else 0) i → Zw 44 RX11 cX11_eyesOf 4 (some .int) Q 4 [.ref 61, .int (nI f), .int set, .int (nI i)] [] μ τ
  | 0, i, _, _, _, hm, _, _, _ => absurd hm (by omega)
  | m + 1, i, set, μ, τ, hm, hi, hO, hV => by
    refine Zw_iload_3 dX11_eyesOf_4 ?_
    refine Zw_bipush (v := 8) dX11_eyesOf_5 (by decide) ?_
    refine Zw_nicmp_ge (i) (8) 35 dX11_eyesOf_7 (by decide) rfl rfl (by omega) (by omega) (fun c7 => ?_) (fun c7 => ?_)
    · refine Zw_iload_2 dX11_eyesOf_35 ?_
      refine Zw_ireturn dX11_eyesOf_36 (by first | rfl | assumption) ?_
      obtain rfl : i = 8 := by omega
      subst hV
      exact h _ _ hO
    · refine Zw_iload_2 dX11_eyesOf_10 ?_
      refine Zw_aload_0 dX11_eyesOf_11 ?_
      refine Zw_iload_1 dX11_eyesOf_12 ?_
      refine Zw_iload_3 dX11_eyesOf_13 ?_
      refine Zw_V2 (k := 43) lm_X11_336 dX11_eyesOf_14 (by decide) (by first | decide | assumption | omega) (by first | rfl | assumption) (by rfl) (Nat.le_of_ble_eq_true rfl) ?_
      refine s_c_see (hc.off hO (by simp)) hf c7 (fun d1 μ1 τ1 o1 => ?_) (fun d0 μ1 τ1 o1 => ?_)
      · refine Zw_if_eq 24 dX11_eyesOf_17 (by decide) (fun c => absurd c (by decide)) (fun _ => ?_)
        refine Zw_iconst (v := 1) dX11_eyesOf_20 (by decide) ?_
        refine Zw_goto 25 dX11_eyesOf_21 (by decide) ?_
        refine Zw_iload_3 dX11_eyesOf_25 ?_
        refine Zw_ishl dX11_eyesOf_26 ?_
        refine Zw_ior dX11_eyesOf_27 ?_
        refine Zw_istore_2 dX11_eyesOf_28 rfl ?_
        refine Zw_iinc_3 dX11_eyesOf_29 rfl (zincn _) ?_
        refine Zw_goto 4 dX11_eyesOf_32 (by decide) ?_
        exact l_c_eyes hc hf h m (i + 1) _ _ _ (by omega) (by omega) (hO.tr o1) (by show _ = q_orf _ i ||| _; rw [hV]; simp [d1, q_bit])
      · refine Zw_if_eq 24 dX11_eyesOf_17 (by decide) (fun _ => ?_) (fun c => absurd c (by decide))
        refine Zw_iconst (v := 0) dX11_eyesOf_24 (by decide) ?_
        refine Zw_iload_3 dX11_eyesOf_25 ?_
        refine Zw_ishl dX11_eyesOf_26 ?_
        refine Zw_ior dX11_eyesOf_27 ?_
        refine Zw_istore_2 dX11_eyesOf_28 rfl ?_
        refine Zw_iinc_3 dX11_eyesOf_29 rfl (zincn _) ?_
        refine Zw_goto 4 dX11_eyesOf_32 (by decide) ?_
        exact l_c_eyes hc hf h m (i + 1) _ _ _ (by omega) (by omega) (hO.tr o1) (by show _ = q_orf _ i ||| _; rw [hV, shl0 i (by omega)]; simp [d0])
set_option maxRecDepth 20000 in
theorem s_c_eyes {C : mC} {w f : Nat} {Q : zQ} {μ : zMu} {τ : Int64} (hc : m_cx C w μ) (hf : f < cN C) (h : ∀ μ2 τ2, nOff [] μ μ2 → Q (some (.int (c_ey C w f))) μ2 τ2) : Zc 44 yX11_eyesOf cX11_eyesOf 4 (some .int) [.ref 61, .int (nI f)] μ τ Q := by
  refine Zc.mk 2 [.ref 61, .int (nI f), .null, .null] rfl (by decide) (Nat.le_of_ble_eq_true rfl) ?_
  refine Zw_iconst (v := 0) dX11_eyesOf_0 (by decide) ?_
  refine Zw_istore_2 dX11_eyesOf_1 rfl ?_
  refine Zw_iconst (v := 0) dX11_eyesOf_2 (by decide) ?_
  refine Zw_istore_3 dX11_eyesOf_3 rfl ?_
  exact l_c_eyes hc hf h 9 0 _ _ _ (by omega) (by omega) (nOff.refl _ _) rfl
set_option maxRecDepth 20000 in
theorem l_c_spread {Q : zQ} {μ0 : zMu} {C : mC} {w : Nat} {s : Int32} (hc : m_cx C w μ0) (hs : r8 s) (h : ∀ μ2 τ2, nOff [] μ0 μ2 → Q (some (.int (q_spread (c_mv C w) s))) μ2 τ2) : ∀ m i set μ τ, 8 - i < m → i ≤ 8 → nOff [] μ0 μ → set = q_orf (fun p => if q_has s p then c_mv C w p else 0) i → Zw 44 RX11 cX11_spreadOf 4 (some .int) Q 4 [.ref 61, .int s, .int set, .int (nI i)] [] μ τ
  | 0, i, _, _, _, hm, _, _, _ => absurd hm (by omega)
  | m + 1, i, set, μ, τ, hm, hi, hO, hV => by
    refine Zw_iload_3 dX11_spreadOf_4 ?_
    refine Zw_bipush (v := 8) dX11_spreadOf_5 (by decide) ?_
    refine Zw_nicmp_ge (i) (8) 37 dX11_spreadOf_7 (by decide) rfl rfl (by omega) (by omega) (fun c7 => ?_) (fun c7 => ?_)
    · refine Zw_iload_2 dX11_spreadOf_37 ?_
      refine Zw_ireturn dX11_spreadOf_38 (by first | rfl | assumption) ?_
      obtain rfl : i = 8 := by omega
      subst hV
      exact h _ _ hO
    · refine Zw_iload_2 dX11_spreadOf_10 ?_
      refine Zw_iload_1 dX11_spreadOf_11 ?_
      refine Zw_iload_3 dX11_spreadOf_12 ?_
      refine Zw_ishr dX11_spreadOf_13 ?_
      refine Zw_iconst (v := 1) dX11_spreadOf_14 (by decide) ?_
      refine Zw_iand dX11_spreadOf_15 ?_
      refine Zw_iconst (v := 1) dX11_spreadOf_16 (by decide) ?_
      refine Zw_icmp_ne 28 dX11_spreadOf_17 (by decide) (fun c17 => ?_) (fun c17 => ?_)
      · refine Zw_iconst (v := 0) dX11_spreadOf_28 (by decide) ?_
        refine Zw_ior dX11_spreadOf_29 ?_
        refine Zw_istore_2 dX11_spreadOf_30 rfl ?_
        refine Zw_iinc_3 dX11_spreadOf_31 rfl (zincn _) ?_
        refine Zw_goto 4 dX11_spreadOf_34 (by decide) ?_
        exact l_c_spread hc hs h m (i + 1) _ _ _ (by omega) (by omega) hO (by rw [hV]; show q_orf _ i ||| (0 : Int32) = q_orf _ i ||| (if q_has s i = true then c_mv C w i else 0); rw [if_neg (fun e => c17 ((r8_h1 hs c7).mpr e))])
      · refine Zw_aload_0 dX11_spreadOf_20 ?_
        refine Zw_iload_3 dX11_spreadOf_21 ?_
        refine Zw_V1 (k := 43) lm_X11_120 dX11_spreadOf_22 (by decide) (by first | decide | assumption | omega) (by first | rfl | assumption) (by rfl) (Nat.le_of_ble_eq_true rfl) ?_
        refine s_c_cb (hc.off hO (by simp)) c7 (fun μ1 τ1 o1 => ?_)
        refine Zw_goto 29 dX11_spreadOf_25 (by decide) ?_
        refine Zw_ior dX11_spreadOf_29 ?_
        refine Zw_istore_2 dX11_spreadOf_30 rfl ?_
        refine Zw_iinc_3 dX11_spreadOf_31 rfl (zincn _) ?_
        refine Zw_goto 4 dX11_spreadOf_34 (by decide) ?_
        exact l_c_spread hc hs h m (i + 1) _ _ _ (by omega) (by omega) (hO.tr o1) (by show _ = q_orf _ i ||| _; rw [hV]; simp [(r8_h1 hs c7).mp c17])
set_option maxRecDepth 20000 in
theorem s_c_spread {C : mC} {w : Nat} {s : Int32} {Q : zQ} {μ : zMu} {τ : Int64} (hc : m_cx C w μ) (hs : r8 s) (h : ∀ μ2 τ2, nOff [] μ μ2 → Q (some (.int (q_spread (c_mv C w) s))) μ2 τ2) : Zc 44 yX11_spreadOf cX11_spreadOf 4 (some .int) [.ref 61, .int s] μ τ Q := by
  refine Zc.mk 2 [.ref 61, .int s, .null, .null] rfl (by decide) (Nat.le_of_ble_eq_true rfl) ?_
  refine Zw_iconst (v := 0) dX11_spreadOf_0 (by decide) ?_
  refine Zw_istore_2 dX11_spreadOf_1 rfl ?_
  refine Zw_iconst (v := 0) dX11_spreadOf_2 (by decide) ?_
  refine Zw_istore_3 dX11_spreadOf_3 rfl ?_
  exact l_c_spread hc hs h 9 0 _ _ _ (by omega) (by omega) (nOff.refl _ _) rfl
set_option maxRecDepth 20000 in
theorem l_c_seen {Q : zQ} {μ0 : zMu} {C : mC} {w : Nat} (hc : m_cx C w μ0) (h : ∀ μ2 τ2, nOff [] μ0 μ2 → Q (some (.int (c_wt C w))) μ2 τ2) : ∀ m i set μ τ, cN C - i < m → i ≤ cN C → nOff [] μ0 μ → set = q_orf (fun f => if c_see C w f (cA C f) then q_bit (cA C f) else 0) i → Zw 44 RX11 cX11_seenSet 4 (some .int) Q 4 [.ref 61, .int set, .int (nI i), .null] [] μ τ
  | 0, i, _, _, _, hm, _, _, _ => absurd hm (by omega)
  | m + 1, i, set, μ, τ, hm, hi, hO, hV => by
    have hc1 := hc.off hO (by simp)
    obtain ⟨n5, hn, _, _⟩ := hc1.n5
    refine Zw_iload_2 dX11_seenSet_4 ?_
    refine Zw_aload_0 dX11_seenSet_5 ?_
    refine Zw_getv (nI (cN C)) lf_X11_73 dX11_seenSet_6 (by first | decide | assumption | omega) (by first | rfl | assumption) (by rfl) hn ?_
    refine Zw_nicmp_ge (i) (cN C) 48 dX11_seenSet_9 (by decide) rfl rfl (by omega) (by omega) (fun c9 => ?_) (fun c9 => ?_)
    · refine Zw_iload_1 dX11_seenSet_48 ?_
      refine Zw_ireturn dX11_seenSet_49 (by first | rfl | assumption) ?_
      obtain rfl : i = cN C := by omega
      subst hV
      exact h _ _ hO
    · obtain ⟨g1, g2, g3, g4, g5, g6⟩ := hc1.fd c9
      refine Zw_aload_0 dX11_seenSet_12 ?_
      refine Zw_getr 68 lf_X11_32 dX11_seenSet_13 (by first | decide | assumption | omega) (by first | rfl | assumption) (by rfl) ?_
      refine Zw_iconst (v := 3) dX11_seenSet_16 (by decide) ?_
      refine Zw_iload_2 dX11_seenSet_17 ?_
      refine Zw_nmul (3) (i) dX11_seenSet_18 rfl rfl ?_
      refine Zw_iconst (v := 1) dX11_seenSet_19 (by decide) ?_
      refine Zw_nadd ((3 * i)) (1) dX11_seenSet_20 rfl rfl ?_
      refine Zw_ialdnv (((3 * i) + 1)) (nI (cA C i)) dX11_seenSet_21 (by first | decide | assumption | omega) (by first | rfl | assumption) rfl (by omega) (by decide) g3 ?_
      refine Zw_istore_3 dX11_seenSet_22 rfl ?_
      refine Zw_iload_1 dX11_seenSet_23 ?_
      refine Zw_aload_0 dX11_seenSet_24 ?_
      refine Zw_iload_2 dX11_seenSet_25 ?_
      refine Zw_iload_3 dX11_seenSet_26 ?_
      refine Zw_V2 (k := 43) lm_X11_336 dX11_seenSet_27 (by decide) (by first | decide | assumption | omega) (by first | rfl | assumption) (by rfl) (Nat.le_of_ble_eq_true rfl) ?_
      refine s_c_see hc1 c9 g6 (fun d1 μ1 τ1 o1 => ?_) (fun d0 μ1 τ1 o1 => ?_)
      · refine Zw_if_eq 39 dX11_seenSet_30 (by decide) (fun c => absurd c (by decide)) (fun _ => ?_)
        refine Zw_iconst (v := 1) dX11_seenSet_33 (by decide) ?_
        refine Zw_iload_3 dX11_seenSet_34 ?_
        refine Zw_ishl dX11_seenSet_35 ?_
        refine Zw_goto 40 dX11_seenSet_36 (by decide) ?_
        refine Zw_ior dX11_seenSet_40 ?_
        refine Zw_istore_1 dX11_seenSet_41 rfl ?_
        refine Zw_iinc_2 dX11_seenSet_42 rfl (zincn _) ?_
        refine Zw_goto 4 dX11_seenSet_45 (by decide) ?_
        refine Zw_drop (L' := [.ref 61, .int (set ||| (1 <<< (nI (cA C i) &&& 31))), .int (nI (i + 1)), .null]) ⟨Or.inr rfl, Or.inr rfl, Or.inr rfl, Or.inl rfl, trivial⟩ (Nat.le_of_ble_eq_true rfl) ?_
        exact l_c_seen hc h m (i + 1) _ _ _ (by omega) (by omega) (hO.tr o1) (by show _ = q_orf _ i ||| _; rw [hV]; simp [d1, q_bit])
      · refine Zw_if_eq 39 dX11_seenSet_30 (by decide) (fun _ => ?_) (fun c => absurd c (by decide))
        refine Zw_iconst (v := 0) dX11_seenSet_39 (by decide) ?_
        refine Zw_ior dX11_seenSet_40 ?_
        refine Zw_istore_1 dX11_seenSet_41 rfl ?_
        refine Zw_iinc_2 dX11_seenSet_42 rfl (zincn _) ?_
        refine Zw_goto 4 dX11_seenSet_45 (by decide) ?_
        refine Zw_drop (L' := [.ref 61, .int (set ||| 0), .int (nI (i + 1)), .null]) ⟨Or.inr rfl, Or.inr rfl, Or.inr rfl, Or.inl rfl, trivial⟩ (Nat.le_of_ble_eq_true rfl) ?_
        exact l_c_seen hc h m (i + 1) _ _ _ (by omega) (by omega) (hO.tr o1) (by show _ = q_orf _ i ||| _; rw [hV]; simp [d0, q_bit])
set_option maxRecDepth 20000 in
theorem s_c_seen {C : mC} {w : Nat} {Q : zQ} {μ : zMu} {τ : Int64} (hc : m_cx C w μ) (h : ∀ μ2 τ2, nOff [] μ μ2 → Q (some (.int (c_wt C w))) μ2 τ2) : Zc 44 yX11_seenSet cX11_seenSet 4 (some .int) [.ref 61] μ τ Q := by
  refine Zc.mk 3 [.ref 61, .null, .null, .null] rfl (by decide) (Nat.le_of_ble_eq_true rfl) ?_
  refine Zw_iconst (v := 0) dX11_seenSet_0 (by decide) ?_
  refine Zw_istore_1 dX11_seenSet_1 rfl ?_
  refine Zw_iconst (v := 0) dX11_seenSet_2 (by decide) ?_
  refine Zw_istore_2 dX11_seenSet_3 rfl ?_
  exact l_c_seen hc h (cN C + 1) 0 _ _ _ (by omega) (by omega) (nOff.refl _ _) rfl
