set_option maxRecDepth 20000 in
theorem s_X_spreadB {set what : Int32} {Q : zQ} {μ : zMu} {τ : Int64} (hb : ¬ (vp_in set 256 ∧ vp_in what 3)) (h : Q (some (.int (-2))) μ τ) : Zc 4 yX10_spread cX10_spread 4 (some .int) [.ref 0, .int set, .int what] μ τ Q := by
  refine Zc.mk 1 [.ref 0, .int set, .int what, .null] rfl (by decide) (Nat.le_of_ble_eq_true rfl) ?_
  refine Zw_iload_1 dX10_spread_0 ?_
  refine Zw_sipush (v := 256) dX10_spread_1 (by decide) ?_
  refine Zw_S2 (k := 0) lm_X10_76 dX10_spread_4 (by decide) (Nat.le_of_ble_eq_true rfl) ?_
  refine s_within 256 (by decide) (fun b1 => ?_) (fun b1 => ?_)
  · refine Zw_if_eq 18 dX10_spread_7 (by decide) (fun c => absurd c (by decide)) (fun _ => ?_)
    refine Zw_iload_2 dX10_spread_10 ?_
    refine Zw_iconst (v := 3) dX10_spread_11 (by decide) ?_
    refine Zw_S2 (k := 0) lm_X10_76 dX10_spread_12 (by decide) (Nat.le_of_ble_eq_true rfl) ?_
    refine s_within 3 (by decide) (fun b2 => ?_) (fun b2 => ?_)
    · refine Zw_if_ne 21 dX10_spread_15 (by decide) (fun _ => ?_) (fun c => absurd c (by decide))
      exact absurd ⟨b1, b2⟩ hb
    · refine Zw_if_ne 21 dX10_spread_15 (by decide) (fun c => absurd c (by decide)) (fun _ => ?_)
      refine Zw_bipush (v := (-2)) dX10_spread_18 (by decide) ?_
      refine Zw_ireturn dX10_spread_20 (by first | rfl | assumption) ?_
      exact h
  · refine Zw_if_eq 18 dX10_spread_7 (by decide) (fun _ => ?_) (fun c => absurd c (by decide))
    refine Zw_bipush (v := (-2)) dX10_spread_18 (by decide) ?_
    refine Zw_ireturn dX10_spread_20 (by first | rfl | assumption) ?_
    exact h
set_option maxRecDepth 20000 in
theorem s_X_tellsB {s what : Int32} {Q : zQ} {μ : zMu} {τ : Int64} (hb : ¬ (vp_in s 4 ∧ vp_in what 5)) (h : Q (some (.int (-2))) μ τ) : Zc 7 yX10_tells cX10_tells 5 (some .int) [.ref 0, .int s, .int what] μ τ Q := by
  refine Zc.mk 2 [.ref 0, .int s, .int what, .null, .null] rfl (by decide) (Nat.le_of_ble_eq_true rfl) ?_
  refine Zw_iload_1 dX10_tells_0 ?_
  refine Zw_iconst (v := 4) dX10_tells_1 (by decide) ?_
  refine Zw_S2 (k := 0) lm_X10_76 dX10_tells_2 (by decide) (Nat.le_of_ble_eq_true rfl) ?_
  refine s_within 4 (by decide) (fun b1 => ?_) (fun b1 => ?_)
  · refine Zw_if_eq 16 dX10_tells_5 (by decide) (fun c => absurd c (by decide)) (fun _ => ?_)
    refine Zw_iload_2 dX10_tells_8 ?_
    refine Zw_iconst (v := 5) dX10_tells_9 (by decide) ?_
    refine Zw_S2 (k := 0) lm_X10_76 dX10_tells_10 (by decide) (Nat.le_of_ble_eq_true rfl) ?_
    refine s_within 5 (by decide) (fun b2 => ?_) (fun b2 => ?_)
    · refine Zw_if_ne 19 dX10_tells_13 (by decide) (fun _ => ?_) (fun c => absurd c (by decide))
      exact absurd ⟨b1, b2⟩ hb
    · refine Zw_if_ne 19 dX10_tells_13 (by decide) (fun c => absurd c (by decide)) (fun _ => ?_)
      refine Zw_bipush (v := (-2)) dX10_tells_16 (by decide) ?_
      refine Zw_ireturn dX10_tells_18 (by first | rfl | assumption) ?_
      exact h
  · refine Zw_if_eq 16 dX10_tells_5 (by decide) (fun _ => ?_) (fun c => absurd c (by decide))
    refine Zw_bipush (v := (-2)) dX10_tells_16 (by decide) ?_
    refine Zw_ireturn dX10_tells_18 (by first | rfl | assumption) ?_
    exact h
/-! THE TWO TOGETHER -/
def pTx (μ : zMu) (cnt : Nat) : Prop := μ 17 3 = nI cnt ∧ μ 61 3 = nI cnt ∧ 1 ≤ cnt ∧ cnt ≤ 6 ∧ ∀ t, t < cnt → pT μ t
def pRu (μ : zMu) (cnt t : Nat) : Prop := μ 1 7 = nI t ∧ μ 61 4 = nI t ∧ t < cnt
def pF (g : Nat → Int32) (k r : Nat → Int32) (f : Nat) : Prop := ∃ kd nu a fo : Nat, (g 0 = nI kd ∧ kd < 6 ∧ k f = nI kd) ∧ (g 1 = nI nu ∧ nu < 10 ∧ r (3 * f) = nI nu) ∧ (g 2 = nI a ∧ a < 8 ∧ r (3 * f + 1) = nI a) ∧ (g 3 = nI fo ∧ fo ≤ 999 ∧ r (3 * f + 2) = nI fo)
def pFi (μ : zMu) (n : Nat) : Prop := n ≤ 5 ∧ μ 1 2 = nI n ∧ μ 61 11 = nI n ∧ ∀ f, f < n → pF (μ (4 + f)) (μ 67) (μ 68) f
def pDu (g h : Nat → Int32) (w p T : Nat) : Prop := (g 3 = nI w ∧ w ≤ 999 ∧ h 0 = nI w) ∧ h 1 = g 4 ∧ (g 5 = nI p ∧ p < 8 ∧ h 2 = nI p) ∧ (g 6 = nI T ∧ T < 256 ∧ h 3 = nI T)
def pLn (g h : Nat → Int32) : Prop := (∀ q, q < 8 → r8 (g q) ∧ h q = g q) ∧ ∀ p q, p < 8 → q < 8 → q_has (g p) q = q_has (g q) p
def pTa (μ : zMu) (sz : Nat) : Prop := sz ≤ 160 ∧ μ 39 1 = nI sz ∧ μ 61 6 = nI sz ∧ k_by (μ 40) sz ∧ ∀ i, i < sz → μ 64 i = μ 40 i
def pIm (μ : zMu) (cnt n : Nat) : Prop := (μ 0 9 = 0 ∧ μ 61 34 = -1) ∨ (μ 0 9 ≠ 0 ∧ ∃ n' w' p' T' t' : Nat, n' ≤ n ∧ n ≤ 5 ∧ μ 9 2 = nI n' ∧ μ 61 34 = nI n' ∧ pDu (μ 9) (μ 71) w' p' T' ∧ (μ 9 7 = nI t' ∧ μ 61 35 = nI t' ∧ t' < cnt) ∧ pLn (μ 10) (μ 72) ∧ ∀ f, f < n' → pF (μ (12 + f)) (μ 67) (μ 73) f)
def pSh (μ : zMu) (i : Nat) : Prop := (μ (53 + 2 * i) 1 = -1 ∧ μ 74 i = 0 ∧ ∃ k, k ≤ 40 ∧ μ (53 + 2 * i) 2 = nI k) ∨ (∃ so k, so < 3 ∧ k ≤ 40 ∧ μ (53 + 2 * i) 1 = nI so ∧ μ 74 i = 1 ∧ μ 75 i = nI so ∧ μ (53 + 2 * i) 2 = nI k ∧ μ 76 i = nI k ∧ ∀ j, j < k → μ 77 (40 * i + j) = μ (54 + 2 * i) j)
def pR (μ : zMu) : Prop := ∃ cnt t n w p T sz, pTx μ cnt ∧ pRu μ cnt t ∧ pFi μ n ∧ pDu (μ 1) (μ 65) w p T ∧ pLn (μ 2) (μ 66) ∧ pTa μ sz ∧ pIm μ cnt n ∧ (∀ i, i < 4 → pSh μ i) ∧ x_tl μ
/-! what each hangs on -/
theorem pT.fr {μ μ' : zMu} {t : Nat} (h : pT μ t) (ht : t < 6) (h1 : ∀ k, 21 ≤ k → k < 39 → μ' k = μ k) (h2 : ∀ i, i < 160 → μ' 62 (160 * t + i) = μ 62 (160 * t + i)) (h3 : μ' 63 t = μ 63 t) : pT μ' t := by
  obtain ⟨n, c1, c2, c3, a1, a2, a3, a4, a5, a6, a7⟩ := h
  have hb : ∀ i, i < n → m_b μ t i = m_b μ' t i := fun i hi => (h2 i (by omega)).symm
  refine ⟨n, c1, c2, c3, a1, by rw [h3]; exact a2, fun i hi => by rw [← hb i hi]; exact a3 i hi, by rw [← y_r0_cg hb]; exact a4, ?_, ?_, a7⟩
  · rw [h1 (23 + 3 * t) (by omega) (by omega), h1 (21 + 3 * t) (by omega) (by omega)]; exact a5
  · rw [h1 (22 + 3 * t) (by omega) (by omega)]; exact a6
theorem pTx.fr {μ μ' : zMu} {cnt : Nat} (h : pTx μ cnt) (h17 : μ' 17 3 = μ 17 3) (h61 : μ' 61 3 = μ 61 3) (h1 : ∀ k, 21 ≤ k → k < 39 → μ' k = μ k) (h2 : μ' 62 = μ 62) (h3 : μ' 63 = μ 63) : pTx μ' cnt := by
  obtain ⟨a1, a2, a3, a4, a5⟩ := h
  exact ⟨by rw [h17]; exact a1, by rw [h61]; exact a2, a3, a4, fun t ht => (a5 t ht).fr (by omega) h1 (fun i _ => by rw [h2]) (by rw [h3])⟩
theorem pRu.fr {μ μ' : zMu} {cnt t : Nat} (h : pRu μ cnt t) (h1 : μ' 1 7 = μ 1 7) (h2 : μ' 61 4 = μ 61 4) : pRu μ' cnt t := by
  unfold pRu; rw [h1, h2]; exact h
theorem pFi.fr {μ μ' : zMu} {n : Nat} (h : pFi μ n) (h1 : μ' 1 2 = μ 1 2) (h2 : μ' 61 11 = μ 61 11) (h3 : ∀ k, 4 ≤ k → k < 9 → μ' k = μ k) (h4 : μ' 67 = μ 67) (h5 : μ' 68 = μ 68) : pFi μ' n := by
  obtain ⟨a1, a2, a3, a4⟩ := h
  exact ⟨a1, by rw [h1]; exact a2, by rw [h2]; exact a3, fun f hf => by rw [h3 (4 + f) (by omega) (by omega), h4, h5]; exact a4 f hf⟩
theorem pTa.fr {μ μ' : zMu} {sz : Nat} (h : pTa μ sz) (h1 : μ' 39 1 = μ 39 1) (h2 : μ' 61 6 = μ 61 6) (h3 : μ' 40 = μ 40) (h4 : μ' 64 = μ 64) : pTa μ' sz := by
  unfold pTa; rw [h1, h2, h3, h4]; exact h
theorem pIm.fr {μ μ' : zMu} {cnt n : Nat} (h : pIm μ cnt n) (h1 : μ' 0 9 = μ 0 9) (h2 : μ' 61 34 = μ 61 34) (h3 : μ' 61 35 = μ 61 35) (h4 : ∀ k, 9 ≤ k → k < 17 → μ' k = μ k) (h5 : ∀ f, f < n → μ' 67 f = μ 67 f) (h6 : μ' 71 = μ 71) (h7 : μ' 72 = μ 72) (h8 : μ' 73 = μ 73) : pIm μ' cnt n := by
  rcases h with ⟨a1, a2⟩ | ⟨a1, n', w', p', T', t', b0, b1, b2, b3, b4, b5, b6, b7⟩
  · exact Or.inl ⟨by rw [h1]; exact a1, by rw [h2]; exact a2⟩
  · refine Or.inr ⟨by rw [h1]; exact a1, n', w', p', T', t', b0, b1, by rw [h4 9 (by omega) (by omega)]; exact b2, by rw [h2]; exact b3, by rw [h4 9 (by omega) (by omega), h6]; exact b4, by rw [h4 9 (by omega) (by omega), h3]; exact b5, by rw [h4 10 (by omega) (by omega), h7]; exact b6, fun f hf => ?_⟩
    obtain ⟨kd, nu, a, fo, ⟨c1, c2, c3⟩, c4, c5, c6⟩ := b7 f hf
    rw [h4 (12 + f) (by omega) (by omega), h8]
    exact ⟨kd, nu, a, fo, ⟨c1, c2, by rw [h5 f (by omega)]; exact c3⟩, c4, c5, c6⟩
theorem pIm.mn {μ : zMu} {cnt n n2 : Nat} (h : pIm μ cnt n) (hn : n ≤ n2) (h5 : n2 ≤ 5) : pIm μ cnt n2 := by
  rcases h with h | ⟨a1, n', w', p', T', t', b0, b1, b2⟩
  · exact Or.inl h
  · exact Or.inr ⟨a1, n', w', p', T', t', by omega, h5, b2⟩
theorem pIm.mc {μ : zMu} {cnt cnt2 n : Nat} (h : pIm μ cnt n) (hn : cnt ≤ cnt2) : pIm μ cnt2 n := by
  rcases h with h | ⟨a1, n', w', p', T', t', b0, b1, b2, b3, b4, ⟨b5, b6, b7⟩, b8⟩
  · exact Or.inl h
  · exact Or.inr ⟨a1, n', w', p', T', t', b0, b1, b2, b3, b4, ⟨b5, b6, by omega⟩, b8⟩
theorem pSh.fr {μ μ' : zMu} {i : Nat} (h : pSh μ i) (h1 : μ' (53 + 2 * i) = μ (53 + 2 * i)) (h2 : μ' (54 + 2 * i) = μ (54 + 2 * i)) (h3 : μ' 74 i = μ 74 i) (h4 : μ' 75 i = μ 75 i) (h5 : μ' 76 i = μ 76 i) (h6 : ∀ j, j < 40 → μ' 77 (40 * i + j) = μ 77 (40 * i + j)) : pSh μ' i := by
  unfold pSh
  rw [h1, h2, h3, h4, h5]
  rcases h with h | ⟨so, k, a1, a2, a3, a4, a5, a6, a7, a8⟩
  · exact Or.inl h
  · exact Or.inr ⟨so, k, a1, a2, a3, a4, a5, a6, a7, fun j hj => by rw [h6 j (by omega)]; exact a8 j hj⟩
theorem x_tl.fr {μ μ' : zMu} (h : x_tl μ) (h1 : μ' 48 = μ 48) : x_tl μ' := by unfold x_tl; rw [h1]; exact h
/-- what is nothing but scratch -/
theorem pR.scr {μ μ' : zMu} (h : pR μ) (ha : ∀ k, k < 19 → μ' k = μ k) (hb : ∀ k, 21 ≤ k → k < 43 → μ' k = μ k) (hc : ∀ k, 51 < k → k < 61 → μ' k = μ k) (hd : ∀ s, s < 12 ∨ 30 < s → μ' 61 s = μ 61 s) (he : ∀ k, 61 < k → k < 69 → μ' k = μ k) (hf : ∀ k, 70 < k → k < 78 → μ' k = μ k) (ht : x_tl μ') : pR μ' := by
  obtain ⟨cnt, t, n, w, p, T, sz, g1, g2, g3, g4, g5, g6, g7, g8, _⟩ := h
  refine ⟨cnt, t, n, w, p, T, sz, g1.fr (by rw [ha 17 (by omega)]) (hd 3 (by omega)) (fun k a b => hb k a (by omega)) (he 62 (by omega) (by omega)) (he 63 (by omega) (by omega)), g2.fr (by rw [ha 1 (by omega)]) (hd 4 (by omega)), g3.fr (by rw [ha 1 (by omega)]) (hd 11 (by omega)) (fun k a b => ha k (by omega)) (he 67 (by omega) (by omega)) (he 68 (by omega) (by omega)), by rw [ha 1 (by omega), he 65 (by omega) (by omega)]; exact g4, by rw [ha 2 (by omega), he 66 (by omega) (by omega)]; exact g5, g6.fr (by rw [hb 39 (by omega) (by omega)]) (hd 6 (by omega)) (hb 40 (by omega) (by omega)) (he 64 (by omega) (by omega)), g7.fr (by rw [ha 0 (by omega)]) (hd 34 (by omega)) (hd 35 (by omega)) (fun k a b => ha k (by omega)) (fun f _ => by rw [he 67 (by omega) (by omega)]) (hf 71 (by omega) (by omega)) (hf 72 (by omega) (by omega)) (hf 73 (by omega) (by omega)), fun i hi => (g8 i hi).fr (hc _ (by omega) (by omega)) (hc _ (by omega) (by omega)) (by rw [hf 74 (by omega) (by omega)]) (by rw [hf 75 (by omega) (by omega)]) (by rw [hf 76 (by omega) (by omega)]) (fun j _ => by rw [hf 77 (by omega) (by omega)]), ht⟩
def zNx (μ μ2 : zMu) : Prop := pR μ2 ∧ μ2 90 = μ 90 ∧ μ2 91 = μ 91
theorem pR.sc {μ μ1 μ2 : zMu} {S S2 : List Nat} (h : pR μ) (o1 : zOff S μ μ1) (hS : ∀ k ∈ S, k ∈ zSC) (ht : x_tl μ1) (o2 : nOff S2 μ1 μ2) (hS2 : ∀ k ∈ S2, k ∈ [69, 70, 129, 130]) : zNx μ μ2 := by
  have h1 : ∀ k, k ∉ zSC → μ1 k = μ k := fun k hk => o1 k (fun e => hk (hS k e))
  have h2 : ∀ k, k ≠ 61 → k ∉ [69, 70, 129, 130] → μ2 k = μ1 k := fun k hk hk2 => o2.fr hk (fun e => hk2 (hS2 k e))
  refine ⟨h.scr (fun k hk => ?_) (fun k a b => ?_) (fun k a b => ?_) (fun s hs => ?_) (fun k a b => ?_) (fun k a b => ?_) (ht.fr (h2 48 (by omega) (by simp))), ?_, ?_⟩
  · rw [h2 k (by omega) (by simp; omega), h1 k (zSC_lt (by omega))]
  · rw [h2 k (by omega) (by simp; omega), h1 k (zSC_lt (by omega))]
  · rw [h2 k (by omega) (by simp; omega), h1 k (zSC_lt (by omega))]
  · rw [o2.2 s (hs.elim Or.inl (fun e => Or.inr ⟨by omega, fun q => by omega, fun q => by omega⟩)), h1 61 (zSC_lt (by omega))]
  · rw [h2 k (by omega) (by simp; omega), h1 k (zSC_lt (by omega))]
  · rw [h2 k (by omega) (by simp; omega), h1 k (zSC_lt (by omega))]
  · rw [h2 90 (by omega) (by simp), h1 90 (zSC_lt (by omega))]
  · rw [h2 91 (by omega) (by simp), h1 91 (zSC_lt (by omega))]
theorem pR.tl {μ : zMu} (h : pR μ) : x_tl μ := by obtain ⟨_, _, _, _, _, _, _, _, _, _, _, _, _, _, _, h⟩ := h; exact h
theorem pR.s0 {μ : zMu} (h : pR μ) : zNx μ μ := ⟨h, rfl, rfl⟩
theorem pR.s1 {μ μ1 μ2 : zMu} {S S2 : List Nat} (h : pR μ) (o1 : zOff S μ μ1) (hS : ∀ k ∈ S, k ∈ [19, 20, 43, 44, 45, 46, 47, 51]) (o2 : nOff S2 μ1 μ2) (hS2 : ∀ k ∈ S2, k ∈ [69, 70, 129, 130]) : zNx μ μ2 := by
  refine h.sc o1 (fun k hk => ?_) (h.tl.fr (o1 48 (fun e => absurd (hS 48 e) (by simp)))) o2 hS2
  have := hS k hk
  simp [zSC] at this ⊢
  omega
theorem pR.s2 {μ μ2 : zMu} {S2 : List Nat} (h : pR μ) (o2 : nOff S2 μ μ2) (hS2 : ∀ k ∈ S2, k ∈ [69, 70, 129, 130]) : zNx μ μ2 := h.s1 (S := []) (fun _ _ => rfl) (by simp) o2 hS2
/-! the class's words, and the reference's -/
def x_C (μ : zMu) (t n : Nat) : mC := (xs μ t, μ 2, μ 1 4, n, xK μ, xN μ, xA μ)
theorem p_ok {μ : zMu} {cnt t n w p T : Nat} (g1 : pTx μ cnt) (g2 : pRu μ cnt t) (g3 : pFi μ n) (g4 : pDu (μ 1) (μ 65) w p T) : x_ok μ cnt t n w := by
  obtain ⟨a1, a2, a3⟩ := pT_all (g1.2.2.2.2 t g2.2.2)
  exact ⟨⟨g1.1, g1.2.2.2.1, g2.1, g2.2.2, a1⟩, ⟨g3.1, g3.2.1, fun f hf => by
    obtain ⟨kd, nu, a, fo, c1, c2, c3, c4⟩ := g3.2.2.2 f hf
    exact ⟨kd, nu, a, c1.1, c1.2.1, c2.1, c2.2.1, c3.1, c3.2.1⟩⟩, g4.1.1, g4.1.2.1, a3.2⟩
theorem pF.K {μ : zMu} {k r : Nat → Int32} {f : Nat} (h : pF (μ (4 + f)) k r f) : k f = nI (xK μ f) ∧ r (3 * f) = nI (xN μ f) ∧ r (3 * f + 1) = nI (xA μ f) ∧ xK μ f < 6 ∧ xN μ f < 10 ∧ xA μ f < 8 := by
  obtain ⟨kd, nu, a, fo, c1, c2, c3, c4⟩ := h
  have e1 : xK μ f = kd := by show (μ (4 + f) 0).toNatClampNeg = kd; rw [c1.1, nI_clamp (by omega)]
  have e2 : xN μ f = nu := by show (μ (4 + f) 1).toNatClampNeg = nu; rw [c2.1, nI_clamp (by omega)]
  have e3 : xA μ f = a := by show (μ (4 + f) 2).toNatClampNeg = a; rw [c3.1, nI_clamp (by omega)]
  rw [e1, e2, e3]
  exact ⟨c1.2.2, c2.2.2, c3.2.2, c1.2.1, c2.2.1, c3.2.1⟩
theorem p_cx {μ : zMu} {cnt t n w p T : Nat} (g1 : pTx μ cnt) (g2 : pRu μ cnt t) (g3 : pFi μ n) (g4 : pDu (μ 1) (μ 65) w p T) (g5 : pLn (μ 2) (μ 66)) : m_cx (x_C μ t n) w μ := by
  obtain ⟨a1, a2, a3, a4⟩ := pT_all (g1.2.2.2.2 t g2.2.2)
  have hc6 := g1.2.2.2.1
  have htc := g2.2.2
  have hw9 := g4.1.2.1
  refine ⟨t, ⟨⟨g2.2.1, by omega, a2⟩, ⟨g3.1, g3.2.2.1, fun f hf => ?_⟩, g4.1.2.2, by omega, fun p hp => ?_⟩, a3, fun p hp => (g5.1 p hp).2, g4.2.1, fun f hf => ?_⟩
  · have := (g3.2.2.2 f hf).K
    exact ⟨xK μ f, xN μ f, xA μ f, this.1, this.2.2.2.1, this.2.1, this.2.2.2.2.1, this.2.2.1, this.2.2.2.2.2⟩
  · rw [(g5.1 p hp).2]; exact (g5.1 p hp).1
  · have := (g3.2.2.2 f hf).K
    exact this
theorem m_cx.x {C : mC} {w : Nat} {μ μ1 : zMu} (hc : m_cx C w μ) (h1 : ∀ k, 61 ≤ k → μ1 k = μ k) (h2 : ∀ k, 21 ≤ k → k < 39 → μ1 k = μ k) : m_cx C w μ1 := by
  obtain ⟨t, ⟨⟨a1, a2, a3⟩, a4, a5, a6, a7⟩, b1, b2, b3, b4⟩ := hc
  have hsay : m_say μ1 t = m_say μ t := by
    funext c nm
    unfold m_say xs xsay m_b
    rw [h1 62 (by omega), h1 63 (by omega), h2 (22 + 3 * t) (by omega) (by omega), h2 (23 + 3 * t) (by omega) (by omega)]
  have htx : m_tx μ1 t := by
    unfold m_tx m_b
    rw [h1 62 (by omega), h1 63 (by omega)]
    exact a3
  refine ⟨t, ⟨⟨by rw [h1 61 (by omega)]; exact a1, a2, htx⟩, ?_, by rw [h1 65 (by omega)]; exact a5, a6, by rw [h1 66 (by omega)]; exact a7⟩, by rw [hsay]; exact b1, by rw [h1 66 (by omega)]; exact b2, by rw [h1 65 (by omega)]; exact b3, by rw [h1 67 (by omega), h1 68 (by omega)]; exact b4⟩
  unfold m_fd
  rw [h1 61 (by omega), h1 67 (by omega), h1 68 (by omega)]
  exact a4
theorem m_cx.xo {C : mC} {w : Nat} {μ μ1 : zMu} {S : List Nat} (hc : m_cx C w μ) (o : zOff S μ μ1) (hS : ∀ k ∈ S, k ∈ zSC) : m_cx C w μ1 := hc.x (fun k hk => o k (fun e => zSC_lt (k := k) (by omega) (hS k e))) (fun k a b => o k (fun e => zSC_lt (k := k) (by omega) (hS k e)))
theorem sc_fr {μ μ1 : zMu} {S : List Nat} (o : zOff S μ μ1) (hS : ∀ k ∈ S, k ∈ zSC) {k : Nat} (hk : 51 < k) : μ1 k = μ k := o k (fun e => zSC_lt (k := k) (by omega) (hS k e))
def zPo (μ : zMu) (r : Option Value) : zQ := fun r2 μ2 _ => r2 = r ∧ zNx μ μ2
/-- behind the class's call: the reference answers the same, and the two are together again -/
def zPa (d : Nat) (y : MethodName) (cc : ByteArray) (nL : Nat) (as : List Value) (μ : zMu) : zQ := fun r μ1 τ1 => (∃ x, r = some (.int x)) ∧ μ1 90 = μ 90 ∧ μ1 91 = μ 91 ∧ Zc d y cc nL (some .int) (.ref 61 :: as) μ1 τ1 (zPo μ r)
def zPl (d : Nat) (y : MethodName) (cc : ByteArray) (nL : Nat) (as : List Value) (μ : zMu) : zQ := fun r μ1 τ1 => (∃ x, r = some (.long x)) ∧ μ1 90 = μ 90 ∧ μ1 91 = μ 91 ∧ Zc d y cc nL (some .long) (.ref 61 :: as) μ1 τ1 (zPo μ r)
theorem zPa.s {d : Nat} {y : MethodName} {cc : ByteArray} {nL : Nat} {as : List Value} {μ : zMu} {x : Int32} {τ : Int64} (h : Zc d y cc nL (some .int) (.ref 61 :: as) μ τ (zPo μ (some (.int x)))) : zPa d y cc nL as μ (some (.int x)) μ τ := ⟨⟨x, rfl⟩, rfl, rfl, h⟩
theorem zPa.o {d : Nat} {y : MethodName} {cc : ByteArray} {nL : Nat} {as : List Value} {μ μ1 : zMu} {x : Int32} {τ : Int64} {S : List Nat} (o : zOff S μ μ1) (hS : ∀ k ∈ S, k < 78) (h : Zc d y cc nL (some .int) (.ref 61 :: as) μ1 τ (zPo μ (some (.int x)))) : zPa d y cc nL as μ (some (.int x)) μ1 τ := ⟨⟨x, rfl⟩, o 90 (fun e => absurd (hS 90 e) (by decide)), o 91 (fun e => absurd (hS 91 e) (by decide)), h⟩
set_option maxRecDepth 20000 in
theorem P_taken {x k : Int32} {μ : zMu} {τ : Int64} (h : pR μ) : Zc 2 yX10_taken cX10_taken 4 (some .int) [.ref 0, .int x, .int k] μ τ (zPa 2 yX11_taken cX11_taken 4 [.int x, .int k] μ) := by
  obtain ⟨cnt, t, n, w, p, T, sz, g1, g2, g3, g4, g5, g6, g7, g8, g9⟩ := id h
  have hx := p_ok g1 g2 g3 g4
  refine s_X_taken hx.2.1 (fun hb => .s (s_mtakenB hb ⟨rfl, h.s0⟩)) (fun hk hno => .s (s_mtakenN n g3.1 g3.2.2.1 hk hno ⟨rfl, h.s0⟩)) (fun f kd nu hk hf e k1 k2 k3 hu => .s ?_) (fun f kd hk hf e k1 k2 hu => .s ?_)
  all_goals subst e
  all_goals obtain ⟨kd2, nu2, a, fo, c1, c2, c3, c4⟩ := g3.2.2.2 f hf
  · have e1 : kd = kd2 := (nI_eq (by omega) (by omega)).mp (k1.symm.trans c1.1)
    have e2 : nI nu = nI nu2 := k3.symm.trans c2.1
    subst e1
    rw [e2]
    match kd, k2 with
    | 0, _ => exact s_mtaken0 n g3.1 g3.2.2.1 hf hk c1.2.2 c2.2.2 (fun _ => ⟨rfl, h.s0⟩) (fun e => by rw [hu] at e; cases e)
    | 1, _ => exact s_mtaken1 n g3.1 g3.2.2.1 hf hk c1.2.2 c2.2.2 (fun _ => ⟨rfl, h.s0⟩) (fun e => by rw [hu] at e; cases e)
    | 2, _ => exact s_mtaken2 n g3.1 g3.2.2.1 hf hk c1.2.2 c2.2.2 (fun _ => ⟨rfl, h.s0⟩) (fun e => by rw [hu] at e; cases e)
    | 3, _ => exact s_mtaken3 n g3.1 g3.2.2.1 hf hk c1.2.2 c2.2.2 (fun _ => ⟨rfl, h.s0⟩) (fun e => by rw [hu] at e; cases e)
    | 4, _ => exact s_mtaken4 n g3.1 g3.2.2.1 hf hk c1.2.2 c2.2.2 (fun _ => ⟨rfl, h.s0⟩) (fun e => by rw [hu] at e; cases e)
    | 5, _ => exact s_mtaken5 n g3.1 g3.2.2.1 hf hk c1.2.2 c2.2.2 (fun _ => ⟨rfl, h.s0⟩) (fun e => by rw [hu] at e; cases e)
    | kd + 6, k2 => omega
  · have e1 : kd = kd2 := (nI_eq (by omega) (by omega)).mp (k1.symm.trans c1.1)
    subst e1
    match kd, k2 with
    | 0, _ => exact s_mtaken0 n g3.1 g3.2.2.1 hf hk c1.2.2 c2.2.2 (fun e => by rw [hu] at e; cases e) (fun _ => ⟨rfl, h.s0⟩)
    | 1, _ => exact s_mtaken1 n g3.1 g3.2.2.1 hf hk c1.2.2 c2.2.2 (fun e => by rw [hu] at e; cases e) (fun _ => ⟨rfl, h.s0⟩)
    | 2, _ => exact s_mtaken2 n g3.1 g3.2.2.1 hf hk c1.2.2 c2.2.2 (fun e => by rw [hu] at e; cases e) (fun _ => ⟨rfl, h.s0⟩)
    | 3, _ => exact s_mtaken3 n g3.1 g3.2.2.1 hf hk c1.2.2 c2.2.2 (fun e => by rw [hu] at e; cases e) (fun _ => ⟨rfl, h.s0⟩)
    | 4, _ => exact s_mtaken4 n g3.1 g3.2.2.1 hf hk c1.2.2 c2.2.2 (fun e => by rw [hu] at e; cases e) (fun _ => ⟨rfl, h.s0⟩)
    | 5, _ => exact s_mtaken5 n g3.1 g3.2.2.1 hf hk c1.2.2 c2.2.2 (fun e => by rw [hu] at e; cases e) (fun _ => ⟨rfl, h.s0⟩)
    | kd + 6, k2 => omega
set_option maxRecDepth 20000 in
theorem P_count {x : Int32} {μ : zMu} {τ : Int64} (h : pR μ) : Zc 2 yX10_count cX10_count 2 (some .int) [.ref 0, .int x] μ τ (zPa 1 yX11_count cX11_count 4 [.int x] μ) := by
  obtain ⟨cnt, t, n, w, p, T, sz, g1, g2, g3, g4, g5, g6, g7, g8, g9⟩ := id h
  refine s_X_count (fun hb => .s (s_mcountB hb ⟨rfl, h.s0⟩)) (fun c hc e => .s ?_)
  subst e
  have hl : ∀ q, q < 8 → r8 (μ 66 q) := fun q hq => by rw [(g5.1 q hq).2]; exact (g5.1 q hq).1
  have hr : r8 (μ 65 3) := ⟨T, g4.2.2.2.2.1, g4.2.2.2.2.2⟩
  match c, hc with
  | 0, _ => exact s_mcount0 hl hr ⟨by show some (Value.int (μ 61 11)) = some (Value.int (μ 1 2)); rw [g3.2.1, g3.2.2.1], h.s0⟩
  | 1, _ =>
    refine s_mcount1 hl hr ⟨?_, h.s0⟩
    have e : ∀ m, m ≤ 8 → q_sum (fun p => q_bc (μ 66 p)) m = q_sum (fun p => q_bc (μ 2 p)) m := by
      intro m
      induction m with
      | zero => intro _; rfl
      | succ m ih =>
        intro hm
        show q_sum (fun p => q_bc (μ 66 p)) m + q_bc (μ 66 m) = q_sum (fun p => q_bc (μ 2 p)) m + q_bc (μ 2 m)
        rw [ih (by omega), (g5.1 m (by omega)).2]
    show some (Value.int (q_sum (fun p => q_bc (μ 66 p)) 8 / 2)) = some (Value.int (q_sum (fun p => q_bc (μ 2 p)) 8 / 2))
    rw [e 8 (Nat.le_refl _)]
  | 2, _ => exact s_mcount2 hl hr ⟨by show some (Value.int (q_bc (μ 65 3))) = some (Value.int (q_bc (μ 1 6))); rw [g4.2.2.2.1, g4.2.2.2.2.2], h.s0⟩
  | 3, _ => exact s_mcount3 ⟨by show some (Value.int (μ 61 3)) = some (Value.int (μ 17 3)); rw [g1.1, g1.2.1], h.s0⟩
  | 4, _ => exact s_mcount4 ⟨by show some (Value.int (μ 61 6)) = some (Value.int (μ 39 1)); rw [g6.2.1, g6.2.2.1], h.s0⟩
  | 5, _ => exact s_mcount5 ⟨by show some (Value.int (μ 61 4)) = some (Value.int (μ 1 7)); rw [g2.1, g2.2.1], h.s0⟩
  | c + 6, hc => omega
set_option maxRecDepth 20000 in
theorem P_told {of what : Int32} {μ : zMu} {τ : Int64} (h : pR μ) : Zc 4 yX10_told cX10_told 3 (some .int) [.ref 0, .int of, .int what] μ τ (zPa 45 yX11_told cX11_told 3 [.int of, .int what] μ) := by
  obtain ⟨cnt, t, n, w, p, T, sz, g1, g2, g3, g4, g5, g6, g7, g8, g9⟩ := id h
  have hx := p_ok g1 g2 g3 g4
  have hc := p_cx g1 g2 g3 g4 g5
  have hw9 := g4.1.2.1
  refine s_X_told hx.2.1 hx.1 hx.2.2.1 (by omega) (fun hb => .s (s_mtoldB n g3.1 g3.2.2.1 hb ⟨rfl, h.s0⟩)) (fun c hc4 e => .s ?_) (fun c hc4 hc8 f e hf e2 => .s ?_) (fun f e hf e2 kd nu k1 k2 k3 k4 μ1 o1 => .o o1 (by simp) ?_) (fun q e hq e2 => .s ?_) (fun q e hq e2 μ1 o1 => .o o1 (by simp) ?_)
  · subst e
    match c, hc4 with
    | 0, _ => exact s_mtold0 ⟨by show some (Value.int (μ 65 0)) = some (Value.int (μ 1 3)); rw [g4.1.1, g4.1.2.2], h.s0⟩
    | 1, _ => exact s_mtold1 ⟨by show some (Value.int (μ 65 1)) = some (Value.int (μ 1 4)); rw [g4.2.1], h.s0⟩
    | 2, _ => exact s_mtold2 ⟨by show some (Value.int (μ 65 2)) = some (Value.int (μ 1 5)); rw [g4.2.2.1.1, g4.2.2.1.2.2], h.s0⟩
    | 3, _ => exact s_mtold3 ⟨by show some (Value.int (μ 65 3)) = some (Value.int (μ 1 6)); rw [g4.2.2.2.1, g4.2.2.2.2.2], h.s0⟩
    | c + 4, hc4 => omega
  · subst e; subst e2
    obtain ⟨kd2, nu2, a, fo, c1, c2, c3, c4⟩ := g3.2.2.2 f hf
    match c, hc4, hc8 with
    | 4, _, _ => exact s_mtold4 n g3.1 g3.2.2.1 hf ⟨by show some (Value.int (μ 68 (3 * f))) = some (Value.int (μ (4 + f) 1)); rw [c2.1, c2.2.2], h.s0⟩
    | 5, _, _ => exact s_mtold5 n g3.1 g3.2.2.1 hf ⟨by show some (Value.int (μ 68 (3 * f + 1))) = some (Value.int (μ (4 + f) 2)); rw [c3.1, c3.2.2], h.s0⟩
    | 6, _, _ => exact s_mtold6 n g3.1 g3.2.2.1 hf ⟨by show some (Value.int (μ 67 f)) = some (Value.int (μ (4 + f) 0)); rw [c1.1, c1.2.2], h.s0⟩
    | 7, _, _ => exact s_mtold7 n g3.1 g3.2.2.1 hf ⟨by show some (Value.int (μ 68 (3 * f + 2))) = some (Value.int (μ (4 + f) 3)); rw [c4.1, c4.2.2], h.s0⟩
    | 0, a, _ => omega
    | 1, a, _ => omega
    | 2, a, _ => omega
    | 3, a, _ => omega
    | c + 8, _, b => omega
  · subst e; subst e2
    refine s_mtold8 (C := x_C μ t n) (hc.xo o1 (by simp [zSC])) hf (fun μ2 τ2 o2 => ⟨?_, h.s1 o1 (by simp) o2 (by simp)⟩)
    show some (Value.int (q_eyes (xs μ t) (μ 2) (μ 1 4) w (xK μ f) (xN μ f))) = _
    rw [show xK μ f = kd by show (μ (4 + f) 0).toNatClampNeg = kd; rw [k1, nI_clamp (by omega)], show xN μ f = nu by show (μ (4 + f) 1).toNatClampNeg = nu; rw [k3, nI_clamp (by omega)]]
  · subst e; subst e2
    exact s_mtold9 hq ⟨by rw [(g5.1 q hq).2], h.s0⟩
  · subst e; subst e2
    exact s_mtold10 (C := x_C μ t n) (hc.xo o1 (by simp [zSC])) hq (fun μ2 τ2 o2 => ⟨rfl, h.s1 o1 (by simp) o2 (by simp)⟩)
set_option maxRecDepth 20000 in
theorem P_spread {set what : Int32} {μ : zMu} {τ : Int64} (h : pR μ) : Zc 4 yX10_spread cX10_spread 4 (some .int) [.ref 0, .int set, .int what] μ τ (zPa 45 yX11_spread cX11_spread 3 [.int set, .int what] μ) := by
  obtain ⟨cnt, t, n, w, p, T, sz, g1, g2, g3, g4, g5, g6, g7, g8, g9⟩ := id h
  have hx := p_ok g1 g2 g3 g4
  have hc := p_cx g1 g2 g3 g4 g5
  by_cases hok : vp_in set 256 ∧ vp_in what 3
  · refine s_X_spread hx (fun hb => absurd hok hb) (fun c hc3 e μ1 o1 => .o o1 (by simp) ?_)
    subst e
    have hc1 := hc.xo o1 (by simp [zSC])
    match c, hc3 with
    | 0, _ => exact s_mspread0 hc1 hok.1 (fun μ2 τ2 o2 => ⟨rfl, h.s1 o1 (by simp) o2 (by simp)⟩)
    | 1, _ => exact s_mspread1 hc1 hok.1 (fun μ2 τ2 o2 => ⟨rfl, h.s1 o1 (by simp) o2 (by simp)⟩)
    | 2, _ => exact s_mspread2 hc1 hok.1 (fun μ2 τ2 o2 => ⟨rfl, h.s1 o1 (by simp) o2 (by simp)⟩)
    | c + 3, hc3 => omega
  · exact s_X_spreadB hok (.s (s_mspreadB hok ⟨rfl, h.s0⟩))
set_option maxRecDepth 20000 in
theorem P_run {m what : Int32} {μ : zMu} {τ : Int64} (h : pR μ) : Zc 5 yX10_run cX10_run 7 (some .int) [.ref 0, .int m, .int what] μ τ (zPa 45 yX11_run cX11_run 8 [.int m, .int what] μ) := by
  obtain ⟨cnt, t, n, w, p, T, sz, g1, g2, g3, g4, g5, g6, g7, g8, g9⟩ := id h
  have hx := p_ok g1 g2 g3 g4
  have hc := p_cx g1 g2 g3 g4 g5
  refine s_X_run hx (fun hb => .s (s_mrunB hb ⟨rfl, h.s0⟩)) (fun m0 c hm hc3 e1 e2 μ1 o1 => .o o1 (by simp) ?_)
  subst e1; subst e2
  have hc1 := hc.xo o1 (by simp [zSC])
  have e65 : μ1 65 3 = μ 1 6 := by rw [sc_fr o1 (by simp [zSC]) (by omega), g4.2.2.2.1, g4.2.2.2.2.2]
  have hr : r8 (μ1 65 3) := by rw [e65]; exact ⟨T, g4.2.2.2.2.1, g4.2.2.2.1⟩
  match c, hc3 with
  | 0, _ =>
    refine s_mrun0 (C := x_C μ t n) hc1 hm g4.1.2.1 hr (fun μ2 τ2 o2 => ⟨?_, h.s1 o1 (by simp) o2 (by simp)⟩)
    rw [e65]
    rfl
  | 1, _ =>
    refine s_mrun1 (C := x_C μ t n) hc1 hm g4.1.2.1 hr (fun μ2 τ2 o2 => ⟨?_, h.s1 o1 (by simp) o2 (by simp)⟩)
    rw [e65]
    rfl
  | 2, _ =>
    refine s_mrun2 (C := x_C μ t n) hc1 hm g4.1.2.1 hr (fun μ2 τ2 o2 => ⟨?_, h.s1 o1 (by simp) o2 (by simp)⟩)
    rw [e65]
    rfl
  | c + 3, hc3 => omega
set_option maxRecDepth 20000 in
theorem P_look {m what : Int32} {μ : zMu} {τ : Int64} (h : pR μ) : Zc 4 yX10_look cX10_look 8 (some .int) [.ref 0, .int m, .int what] μ τ (zPa 45 yX11_look cX11_look 8 [.int m, .int what] μ) := by
  obtain ⟨cnt, t, n, w, p, T, sz, g1, g2, g3, g4, g5, g6, g7, g8, g9⟩ := id h
  have hx := p_ok g1 g2 g3 g4
  have hc := p_cx g1 g2 g3 g4 g5
  refine s_X_look hx (fun hb => .s (s_mlookB hb ⟨rfl, h.s0⟩)) (fun h1 h3 hw μ1 o1 => .o o1 (by simp) ?_)
  have hc1 := hc.xo o1 (by simp [zSC])
  have e65 : μ1 65 3 = μ 1 6 := by rw [sc_fr o1 (by simp [zSC]) (by omega), g4.2.2.2.1, g4.2.2.2.2.2]
  have hr : r8 (μ1 65 3) := by rw [e65]; exact ⟨T, g4.2.2.2.2.1, g4.2.2.2.1⟩
  refine s_mlook (C := x_C μ t n) hc1 hr h1 h3 hw (fun μ2 τ2 o2 => ⟨?_, h.s1 o1 (by simp) o2 (by simp)⟩)
  rw [e65]
  rfl
set_option maxRecDepth 20000 in
theorem P_drawn {z m : Int32} {μ : zMu} {τ : Int64} (h : pR μ) : Zc 5 yX10_drawn cX10_drawn 4 (some .int) [.ref 0, .int z, .int m] μ τ (zPa 46 yX11_drawn cX11_drawn 3 [.int z, .int m] μ) := by
  obtain ⟨cnt, t, n, w, p, T, sz, g1, g2, g3, g4, g5, g6, g7, g8, g9⟩ := id h
  have hx := p_ok g1 g2 g3 g4
  have hc := p_cx g1 g2 g3 g4 g5
  refine s_X_drawn hx g4.2.2.1.1 g4.2.2.1.2.1 (fun hb => .s (s_mdrawnB hb ⟨rfl, h.s0⟩)) (fun m0 hm e μ1 o1 => .o o1 (by simp) ?_)
  subst e
  exact s_mdrawn (C := x_C μ t n) (hc.xo o1 (by simp [zSC])) g4.1.2.1 hm (by rw [sc_fr o1 (by simp [zSC]) (by omega)]; exact g4.2.2.1.2.2) g4.2.2.1.2.1 (fun μ2 τ2 o2 => ⟨rfl, h.s1 o1 (by simp) o2 (by simp)⟩)
set_option maxRecDepth 20000 in
theorem P_chance {z m pt : Int32} {μ : zMu} {τ : Int64} (h : pR μ) : Zc 6 yX10_chance cX10_chance 6 (some .long) [.ref 0, .int z, .int m, .int pt] μ τ (zPl 46 yX11_chance cX11_chance 12 [.int z, .int m, .int pt] μ) := by
  obtain ⟨cnt, t, n, w, p, T, sz, g1, g2, g3, g4, g5, g6, g7, g8, g9⟩ := id h
  have hx := p_ok g1 g2 g3 g4
  have hc := p_cx g1 g2 g3 g4 g5
  have hab : ∀ (F G : Nat → Bool), (∀ i, F i = G i) → ∀ k, q_ab F k = q_ab G k := fun F G e k => by rw [show F = G from funext e]
  refine s_X_chance hx g4.2.2.1.1 g4.2.2.1.2.1 (fun hb => ⟨⟨_, rfl⟩, rfl, rfl, s_mchanceB hb ⟨rfl, h.s0⟩⟩) (fun m0 c hm1 hm20 hc2 e1 e2 μ1 o1 => ⟨⟨_, rfl⟩, o1 90 (by simp), o1 91 (by simp), ?_⟩)
  subst e1; subst e2
  have hc1 := hc.xo o1 (by simp [zSC])
  have hdk : μ1 65 2 = nI p := by rw [sc_fr o1 (by simp [zSC]) (by omega)]; exact g4.2.2.1.2.2
  have hF : ∀ i, (m_gb (x_C μ t n) 8 (z + nI i) w p false).2 = q_dsee (xs μ t) (μ 2) (μ 1 4) n (xK μ) (xN μ) (xA μ) 8 (z + nI i) w p := fun i => by rw [m_gb_2]; rfl
  match c, hc2 with
  | 0, _ =>
    refine s_mchance0 (C := x_C μ t n) hc1 g4.1.2.1 hdk g4.2.2.1.2.1 hm1 hm20 (fun μ2 τ2 o2 => ⟨?_, h.s1 o1 (by simp) o2 (by simp)⟩)
    rw [hab _ _ hF m0]
    rfl
  | 1, _ =>
    refine s_mchance1 (C := x_C μ t n) hc1 g4.1.2.1 hdk g4.2.2.1.2.1 hm1 hm20 (fun μ2 τ2 o2 => ⟨?_, h.s1 o1 (by simp) o2 (by simp)⟩)
    rw [hab _ _ hF m0]
    rfl
  | c + 2, hc2 => omega
set_option maxRecDepth 20000 in
theorem P_sure {x m what : Int32} {μ : zMu} {τ : Int64} (h : pR μ) : Zc 5 yX10_sure cX10_sure 6 (some .int) [.ref 0, .int x, .int m, .int what] μ τ (zPa 46 yX11_sure cX11_sure 5 [.int x, .int m, .int what] μ) := by
  obtain ⟨cnt, t, n, w, p, T, sz, g1, g2, g3, g4, g5, g6, g7, g8, g9⟩ := id h
  have hx := p_ok g1 g2 g3 g4
  have hc := p_cx g1 g2 g3 g4 g5
  have hT := g4.2.2.2.2.1
  refine s_X_sure hx g4.2.2.2.1 hT (fun hb => .s (s_msureB n g3.1 g3.2.2.1 hb ⟨rfl, h.s0⟩)) (fun f kd nu a hf e k1 k2 k3 k4 k5 k6 m0 hm e2 e3 μ1 o1 => .o o1 (by simp) ?_) (fun f kd nu a hf e k1 k2 k3 k4 k5 k6 m0 hm e2 e3 μ1 o1 => .o o1 (by simp) ?_)
  · subst e; subst e2; subst e3
    have eK : xK μ f = kd := by show (μ (4 + f) 0).toNatClampNeg = kd; rw [k1, nI_clamp (by omega)]
    have eN : xN μ f = nu := by show (μ (4 + f) 1).toNatClampNeg = nu; rw [k3, nI_clamp (by omega)]
    have eA : xA μ f = a := by show (μ (4 + f) 2).toNatClampNeg = a; rw [k5, nI_clamp (by omega)]
    have hc1 := hc.xo o1 (by simp [zSC])
    have hth1 : μ1 65 3 = nI T := by rw [sc_fr o1 (by simp [zSC]) (by omega)]; exact g4.2.2.2.2.2
    have hD := x_few_D (C := x_C μ t n) (w := w) (f := f) (a := a) (n := m0) (T := T) k6 hT hm
    refine s_msure0 (C := x_C μ t n) (f := f) hc1 hf hth1 hT eA hm (fun μ2 τ2 o2 => ⟨?_, h.s1 o1 (by simp) o2 (by simp)⟩)
    rw [← hD.1]
    show some (Value.int (x_few (xs μ t) (μ 2) (μ 1 4) w (xK μ f) (xN μ f) a m0 T)) = _
    rw [eK, eN]
  · subst e; subst e2; subst e3
    have eK : xK μ f = kd := by show (μ (4 + f) 0).toNatClampNeg = kd; rw [k1, nI_clamp (by omega)]
    have eN : xN μ f = nu := by show (μ (4 + f) 1).toNatClampNeg = nu; rw [k3, nI_clamp (by omega)]
    have eA : xA μ f = a := by show (μ (4 + f) 2).toNatClampNeg = a; rw [k5, nI_clamp (by omega)]
    have hc1 := hc.xo o1 (by simp [zSC])
    have hth1 : μ1 65 3 = nI T := by rw [sc_fr o1 (by simp [zSC]) (by omega)]; exact g4.2.2.2.2.2
    have hD := x_few_D (C := x_C μ t n) (w := w) (f := f) (a := a) (n := m0) (T := T) k6 hT hm
    refine s_msure1 (C := x_C μ t n) (f := f) hc1 hf hth1 hT eA hm (fun μ2 τ2 o2 => ⟨?_, h.s1 o1 (by simp) o2 (by simp)⟩)
    rw [← hD.2]
    show some (Value.int (x_way (xs μ t) (μ 2) (μ 1 4) w (xK μ f) (xN μ f) a m0 T)) = _
    rw [eK, eN]
set_option maxRecDepth 20000 in
theorem P_stand {x what : Int32} {μ : zMu} {τ : Int64} (h : pR μ) : Zc 5 yX10_stand cX10_stand 8 (some .int) [.ref 0, .int x, .int what] μ τ (zPa 46 yX11_stand cX11_stand 7 [.int x, .int what] μ) := by
  obtain ⟨cnt, t, n, w, p, T, sz, g1, g2, g3, g4, g5, g6, g7, g8, g9⟩ := id h
  have hx := p_ok g1 g2 g3 g4
  have hc := p_cx g1 g2 g3 g4 g5
  have hT := g4.2.2.2.2.1
  have hstd : ∀ (F G : Nat → Int32), (∀ i, i < 8 → F i = G i) → ∀ m i s, i + m ≤ 8 → q_std F m i s = q_std G m i s := by
    intro F G e m
    induction m with
    | zero => intro i s _; rfl
    | succ m ih => intro i s hi; rw [q_std_s, q_std_s, e i (by omega), ih (i + 1) _ (by omega)]
  refine s_X_stand hx g4.2.2.2.1 hT (fun hb => .s (s_mstandB n g3.1 g3.2.2.1 hb ⟨rfl, h.s0⟩)) (fun f kd nu a hf e k1 k2 k3 k4 k5 k6 c hc3 e2 μ1 o1 => .o o1 (by simp) ?_)
  subst e; subst e2
  have eK : xK μ f = kd := by show (μ (4 + f) 0).toNatClampNeg = kd; rw [k1, nI_clamp (by omega)]
  have eN : xN μ f = nu := by show (μ (4 + f) 1).toNatClampNeg = nu; rw [k3, nI_clamp (by omega)]
  have eA : xA μ f = a := by show (μ (4 + f) 2).toNatClampNeg = a; rw [k5, nI_clamp (by omega)]
  have hc1 := hc.xo o1 (by simp [zSC])
  have hth1 : μ1 65 3 = nI T := by rw [sc_fr o1 (by simp [zSC]) (by omega)]; exact g4.2.2.2.2.2
  have hF := hstd (fun q => x_few (xs μ t) (μ 2) (μ 1 4) w kd nu q 40 T) (fun q => c_sf (x_C μ t n) w f T q) (fun q hq => by
    have := c_sf_few (C := x_C μ t n) (w := w) (f := f) (a := q) (T := T) hq hT
    rw [← this]
    show _ = x_few (xs μ t) (μ 2) (μ 1 4) w (xK μ f) (xN μ f) q 40 T
    rw [eK, eN]) 8 0 (-1, -1, 0) (by omega)
  rw [hF]
  match c, hc3 with
  | 0, _ => exact s_mstand0 (C := x_C μ t n) (f := f) hc1 hf hth1 hT (fun μ2 τ2 o2 => ⟨rfl, h.s1 o1 (by simp) o2 (by simp)⟩)
  | 1, _ => exact s_mstand1 (C := x_C μ t n) (f := f) hc1 hf hth1 hT (fun μ2 τ2 o2 => ⟨rfl, h.s1 o1 (by simp) o2 (by simp)⟩)
  | 2, _ => exact s_mstand2 (C := x_C μ t n) (f := f) hc1 hf hth1 hT (fun μ2 τ2 o2 => ⟨rfl, h.s1 o1 (by simp) o2 (by simp)⟩)
  | c + 3, hc3 => omega
set_option maxRecDepth 20000 in
theorem P_shut {x what : Int32} {μ : zMu} {τ : Int64} (h : pR μ) : Zc 6 yX10_shut cX10_shut 9 (some .int) [.ref 0, .int x, .int what] μ τ (zPa 46 yX11_shut cX11_shut 10 [.int x, .int what] μ) := by
  obtain ⟨cnt, t, n, w, p, T, sz, g1, g2, g3, g4, g5, g6, g7, g8, g9⟩ := id h
  have hx := p_ok g1 g2 g3 g4
  have hc := p_cx g1 g2 g3 g4 g5
  have hT := g4.2.2.2.2.1
  refine s_X_shut hx g4.2.2.2.1 hT (fun q hq => by obtain ⟨v, hv, e⟩ := (g5.1 q hq).1; exact ⟨v, hv, e⟩) g5.2 (fun hb => .s (s_mshutB n g3.1 g3.2.2.1 hb ⟨rfl, h.s0⟩)) (fun f kd nu a hf e k1 k2 k3 k4 k5 k6 c hc2 e2 μ1 o1 => .o o1 (by simp) ?_)
  subst e; subst e2
  have eK : xK μ f = kd := by show (μ (4 + f) 0).toNatClampNeg = kd; rw [k1, nI_clamp (by omega)]
  have eN : xN μ f = nu := by show (μ (4 + f) 1).toNatClampNeg = nu; rw [k3, nI_clamp (by omega)]
  have eA : xA μ f = a := by show (μ (4 + f) 2).toNatClampNeg = a; rw [k5, nI_clamp (by omega)]
  have hc1 := hc.xo o1 (by simp [zSC])
  have hth1 : μ1 65 3 = nI T := by rw [sc_fr o1 (by simp [zSC]) (by omega)]; exact g4.2.2.2.2.2
  have hF : (fun i j => x_few (xs μ t) (q_cutl (μ 2) i j) (μ 1 4) w kd nu a 40 T) = (fun i j => c_sf (cutC (x_C μ t n) i j) w f T a) := by
    funext i j
    have := c_sf_few (C := cutC (x_C μ t n) i j) (w := w) (f := f) (a := a) (T := T) k6 hT
    rw [← this]
    show _ = x_few (xs μ t) (q_cutl (μ 2) i j) (μ 1 4) w (xK μ f) (xN μ f) a 40 T
    rw [eK, eN]
  have h0 : x_few (xs μ t) (μ 2) (μ 1 4) w kd nu a 40 T = c_sf (x_C μ t n) w f T a := by
    have := c_sf_few (C := x_C μ t n) (w := w) (f := f) (a := a) (T := T) k6 hT
    rw [← this]
    show _ = x_few (xs μ t) (μ 2) (μ 1 4) w (xK μ f) (xN μ f) a 40 T
    rw [eK, eN]
  rw [hF, h0]
  match c, hc2 with
  | 0, _ => exact s_mshut0 (C := x_C μ t n) (f := f) hc1 hf hth1 hT eA g5.2 (fun μ2 τ2 o2 => ⟨rfl, h.s1 o1 (by simp) o2 (by simp)⟩)
  | 1, _ => exact s_mshut1 (C := x_C μ t n) (f := f) hc1 hf hth1 hT eA g5.2 (fun μ2 τ2 o2 => ⟨rfl, h.s1 o1 (by simp) o2 (by simp)⟩)
  | c + 2, hc2 => omega
