set_option maxRecDepth 20000 in
theorem P_feed {x : Int32} {μ : zMu} {τ : Int64} (h : pR μ) : Zc 1 yX10_feed cX10_feed 2 (some .int) [.ref 0, .int x] μ τ (zPa 1 yX11_feed cX11_feed 2 [.int x] μ) := by
  obtain ⟨cnt, t, n, w, p, T, sz, g1, g2, g3, g4, g5, g6, g7, g8, g9⟩ := id h
  have hs := g6.1
  refine s_X_feed g6.2.1 g6.1 (fun hb => .s (s_mfeedB hb ⟨rfl, h.s0⟩)) (fun hx e => .s (s_mfeedF hx (by rw [g6.2.2.1, e]) ⟨rfl, h.s0⟩)) (fun hx hlt => .o (S := [39, 40]) ((zOff.rf.up (by simp)).up (by simp)) (by simp) ?_)
  obtain ⟨v, hv, rfl⟩ := vp_in_of hx (by decide)
  have o : zOff [39, 40, 61, 64] μ (zup (zup (zup (zup μ 40 sz (nI v)) 39 1 (nI (sz + 1))) 64 sz (nI v)) 61 6 (nI (sz + 1))) := (((zOff.rf.up (by simp)).up (by simp)).up (by simp)).up (by simp)
  refine s_mfeed hx (show μ 61 6 = nI sz from g6.2.2.1) hlt ⟨rfl, zN o (by simp) ?_⟩
  refine ⟨cnt, t, n, w, p, T, sz + 1, g1.fr rfl rfl (fun k a b => o k (by simp; omega)) rfl rfl, g2.fr rfl rfl, g3.fr rfl rfl (fun k a b => o k (by simp; omega)) rfl rfl, (show pDu _ _ w p T from g4), g5, ⟨by omega, rfl, rfl, fun i hi => ?_, fun i hi => ?_⟩, g7.fr rfl rfl rfl (fun k a b => o k (by simp; omega)) (fun _ _ => rfl) rfl rfl rfl, fun i hi => (g8 i hi).fr (o _ (by simp; omega)) (o _ (by simp; omega)) rfl rfl rfl (fun _ _ => rfl), g9.fr rfl⟩
  · show ∃ v', v' < 256 ∧ upd (μ 40) sz (nI v) i = nI v'
    by_cases e : i = sz
    · subst e; rw [up_eq]; exact ⟨v, hv, rfl⟩
    · rw [up_ne _ _ e]; exact g6.2.2.2.1 i (by omega)
  · show upd (μ 64) sz (nI v) i = upd (μ 40) sz (nI v) i
    by_cases e : i = sz
    · subst e; rw [up_eq, up_eq]
    · rw [up_ne _ _ e, up_ne _ _ e]; exact g6.2.2.2.2 i (by omega)
set_option maxRecDepth 20000 in
theorem P_text {μ : zMu} {τ : Int64} (h : pR μ) : Zc 12 yX10_text cX10_text 2 (some .int) [.ref 0] μ τ (zPa 42 yX11_text cX11_text 2 [] μ) := by
  obtain ⟨cnt, t, n, w, p, T, sz, g1, g2, g3, g4, g5, g6, g7, g8, g9⟩ := id h
  have hs := g6.1
  have hby := g6.2.2.2.1
  refine s_X_text g1.1 g1.2.2.2.1 g6.1 g6.2.2.2.1 g6.2.1 (fun e => .s (s_mtextF (by rw [g1.2.1, e]) ⟨rfl, h.s0⟩)) (fun f μ1 hlt hr o1 h391 => .o o1 (by simp; omega) ?_) (fun c1 c2 c3 μ1 hlt hr o1 h173 h391 hy => .o o1 (by simp; omega) ?_)
  · have e61 : μ1 61 = μ 61 := o1 61 (by simp; omega)
    have e64 : μ1 64 = μ 64 := o1 64 (by simp; omega)
    have hby1 : k_by (μ1 64) sz := fun i hi => by rw [e64, g6.2.2.2.2 i hi]; exact hby i hi
    have hbb : ∀ μ2, mTx cnt sz μ1 μ2 → ∀ i, i < sz → μ 40 i = m_b μ2 cnt i := fun μ2 m2 i hi => by
      show μ 40 i = μ2 62 (160 * cnt + i)
      rw [m2.2.2.2.1 i hi, e64, g6.2.2.2.2 i hi]
    refine s_mtext (cnt := cnt) (n := sz) (nm := fun j => μ1 61 (12 + j)) (by rw [e61]; exact g1.2.1) hlt hs (by rw [e61]; exact g6.2.2.1) hby1 (fun j _ => rfl) (fun f2 μ2 τ2 m2 h3 hd => ?_) (fun r μ2 τ2 m2 h3 hd => ?_)
    · have hd2 := rd_no (fun j => μ1 61 (12 + j)) hs (by rw [← y_r0_cg (hbb μ2 m2)]; exact hr)
      rw [hd2] at hd
      cases hd
      obtain ⟨q0, q1, q2, q3, q4, q5⟩ := m2
      have ho : ∀ k, k ≠ 61 → k ≠ 62 → k ≠ 63 → ¬ (k = 39 ∨ k = 41 ∨ k = 21 + 3 * cnt ∨ k = 22 + 3 * cnt ∨ k = 23 + 3 * cnt) → μ2 k = μ k := fun k a b c d => by rw [q0 k (by simp [a, b, c]), o1 k (by simp; omega)]
      have hq : ∀ s, s ≠ 3 → s ≠ 6 → s < 12 ∨ 30 < s → μ2 61 s = μ 61 s := fun s a b c => by rw [q1 s a b (by omega), e61]
      refine ⟨rfl, ?_, ho 90 (by omega) (by omega) (by omega) (by omega), ho 91 (by omega) (by omega) (by omega) (by omega)⟩
      refine ⟨cnt, t, n, w, p, T, 0, ⟨by rw [ho 17 (by omega) (by omega) (by omega) (by omega)]; exact g1.1, h3, g1.2.2.1, g1.2.2.2.1, fun u hu => (g1.2.2.2.2 u hu).f2 (ho _ (by omega) (by omega) (by omega) (by omega)) (ho _ (by omega) (by omega) (by omega) (by omega)) (ho _ (by omega) (by omega) (by omega) (by omega)) (fun i hi => ?_) ?_⟩, g2.fr (by rw [ho 1 (by omega) (by omega) (by omega) (by omega)]) (hq 4 (by omega) (by omega) (by omega)), g3.fr (by rw [ho 1 (by omega) (by omega) (by omega) (by omega)]) (hq 11 (by omega) (by omega) (by omega)) (fun k a b => ho k (by omega) (by omega) (by omega) (by omega)) (ho 67 (by omega) (by omega) (by omega) (by omega)) (ho 68 (by omega) (by omega) (by omega) (by omega)), by rw [ho 1 (by omega) (by omega) (by omega) (by omega), ho 65 (by omega) (by omega) (by omega) (by omega)]; exact g4, by rw [ho 2 (by omega) (by omega) (by omega) (by omega), ho 66 (by omega) (by omega) (by omega) (by omega)]; exact g5, ⟨Nat.zero_le _, by rw [q0 39 (by simp), h391]; rfl, by rw [q2]; rfl, fun i hi => absurd hi (by omega), fun i hi => absurd hi (by omega)⟩, g7.fr (by rw [ho 0 (by omega) (by omega) (by omega) (by omega)]) (hq 34 (by omega) (by omega) (by omega)) (hq 35 (by omega) (by omega) (by omega)) (fun k a b => ho k (by omega) (by omega) (by omega) (by omega)) (fun f _ => by rw [ho 67 (by omega) (by omega) (by omega) (by omega)]) (ho 71 (by omega) (by omega) (by omega) (by omega)) (ho 72 (by omega) (by omega) (by omega) (by omega)) (ho 73 (by omega) (by omega) (by omega) (by omega)), fun i hi => (g8 i hi).fr (ho _ (by omega) (by omega) (by omega) (by omega)) (ho _ (by omega) (by omega) (by omega) (by omega)) (by rw [ho 74 (by omega) (by omega) (by omega) (by omega)]) (by rw [ho 75 (by omega) (by omega) (by omega) (by omega)]) (by rw [ho 76 (by omega) (by omega) (by omega) (by omega)]) (fun j _ => by rw [ho 77 (by omega) (by omega) (by omega) (by omega)]), g9.fr (ho 48 (by omega) (by omega) (by omega) (by omega))⟩
      · rw [q4 _ (Or.inl (by omega)), o1 62 (by simp; omega)]
      · rw [q5, up_ne _ _ (by omega), o1 63 (by simp; omega)]
    · have hd2 := rd_no (fun j => μ1 61 (12 + j)) hs (by rw [← y_r0_cg (hbb μ2 m2)]; exact hr)
      rw [hd2] at hd
      cases hd
  · have e61 : μ1 61 = μ 61 := o1 61 (by simp; omega)
    have e64 : μ1 64 = μ 64 := o1 64 (by simp; omega)
    have hby1 : k_by (μ1 64) sz := fun i hi => by rw [e64, g6.2.2.2.2 i hi]; exact hby i hi
    have hbb : ∀ μ2, mTx cnt sz μ1 μ2 → ∀ i, i < sz → μ 40 i = m_b μ2 cnt i := fun μ2 m2 i hi => by
      show μ 40 i = μ2 62 (160 * cnt + i)
      rw [m2.2.2.2.1 i hi, e64, g6.2.2.2.2 i hi]
    refine s_mtext (cnt := cnt) (n := sz) (nm := fun j => μ1 61 (12 + j)) (by rw [e61]; exact g1.2.1) hlt hs (by rw [e61]; exact g6.2.2.1) hby1 (fun j _ => rfl) (fun f2 μ2 τ2 m2 h3 hd => ?_) (fun r μ2 τ2 m2 h3 hd => ?_)
    · obtain ⟨v0, v1, v2, _, _, hd2, _⟩ := rd_of (fun j => μ1 61 (12 + j)) hs (by rw [← y_r0_cg (hbb μ2 m2)]; exact hr)
      rw [hd2] at hd
      cases hd
    · have hr2 : y_r0 (m_b μ2 cnt) sz = .inr (c1, c2, c3) := by rw [← y_r0_cg (hbb μ2 m2)]; exact hr
      have hbb2 := hbb μ2 m2
      obtain ⟨q0, q1, q2, q3, q4, q5⟩ := m2
      have ho : ∀ k, k ≠ 61 → k ≠ 62 → k ≠ 63 → ¬ (k = 17 ∨ k = 39 ∨ k = 41 ∨ k = 21 + 3 * cnt ∨ k = 22 + 3 * cnt ∨ k = 23 + 3 * cnt) → μ2 k = μ k := fun k a b c d => by rw [q0 k (by simp [a, b, c]), o1 k (by simp; omega)]
      have hq : ∀ s, s ≠ 3 → s ≠ 6 → s < 12 ∨ 30 < s → μ2 61 s = μ 61 s := fun s a b c => by rw [q1 s a b (by omega), e61]
      refine ⟨rfl, ?_, ho 90 (by omega) (by omega) (by omega) (by omega), ho 91 (by omega) (by omega) (by omega) (by omega)⟩
      obtain ⟨μ3, pos, ⟨y0, y1, ⟨y2, y3, y4⟩, y5, y6, y7⟩, z1, z2, z3⟩ := hy
      have k1 : μ2 (21 + 3 * cnt) = μ3 (21 + 3 * cnt) := by rw [q0 _ (by simp; omega)]; exact z1
      have k2 : μ2 (22 + 3 * cnt) = μ3 (22 + 3 * cnt) := by rw [q0 _ (by simp; omega)]; exact z2
      have k3 : μ2 (23 + 3 * cnt) = μ3 (23 + 3 * cnt) := by rw [q0 _ (by simp; omega)]; exact z3
      refine ⟨cnt + 1, t, n, w, p, T, 0, ⟨by rw [q0 17 (by simp)]; exact h173, h3, by omega, by omega, fun u hu => ?_⟩, ?_, g3.fr (by rw [ho 1 (by omega) (by omega) (by omega) (by omega)]) (hq 11 (by omega) (by omega) (by omega)) (fun k a b => ho k (by omega) (by omega) (by omega) (by omega)) (ho 67 (by omega) (by omega) (by omega) (by omega)) (ho 68 (by omega) (by omega) (by omega) (by omega)), by rw [ho 1 (by omega) (by omega) (by omega) (by omega), ho 65 (by omega) (by omega) (by omega) (by omega)]; exact g4, by rw [ho 2 (by omega) (by omega) (by omega) (by omega), ho 66 (by omega) (by omega) (by omega) (by omega)]; exact g5, ⟨Nat.zero_le _, by rw [q0 39 (by simp), h391]; rfl, by rw [q2]; rfl, fun i hi => absurd hi (by omega), fun i hi => absurd hi (by omega)⟩, (g7.fr (by rw [ho 0 (by omega) (by omega) (by omega) (by omega)]) (hq 34 (by omega) (by omega) (by omega)) (hq 35 (by omega) (by omega) (by omega)) (fun k a b => ho k (by omega) (by omega) (by omega) (by omega)) (fun f _ => by rw [ho 67 (by omega) (by omega) (by omega) (by omega)]) (ho 71 (by omega) (by omega) (by omega) (by omega)) (ho 72 (by omega) (by omega) (by omega) (by omega)) (ho 73 (by omega) (by omega) (by omega) (by omega))).mc (by omega), fun i hi => (g8 i hi).fr (ho _ (by omega) (by omega) (by omega) (by omega)) (ho _ (by omega) (by omega) (by omega) (by omega)) (by rw [ho 74 (by omega) (by omega) (by omega) (by omega)]) (by rw [ho 75 (by omega) (by omega) (by omega) (by omega)]) (by rw [ho 76 (by omega) (by omega) (by omega) (by omega)]) (fun j _ => by rw [ho 77 (by omega) (by omega) (by omega) (by omega)]), g9.fr (ho 48 (by omega) (by omega) (by omega) (by omega))⟩
      · by_cases eu : u = cnt
        · subst eu
          refine ⟨sz, c1, c2, c3, hs, by rw [q5, up_eq], fun i hi => by rw [← hbb2 i hi]; exact hby i hi, hr2, ?_, by rw [k2]; exact y4, by omega⟩
          rw [k3, k1]
          exact ⟨y5 0 (by simp), y5 1 (by simp), y5 2 (by simp), y5 3 (by simp), y2, y3⟩
        · refine (g1.2.2.2.2 u (by omega)).f2 (ho _ (by omega) (by omega) (by omega) (by omega)) (ho _ (by omega) (by omega) (by omega) (by omega)) (ho _ (by omega) (by omega) (by omega) (by omega)) (fun i hi => ?_) ?_
          · rw [q4 _ (Or.inl (by omega)), o1 62 (by simp; omega)]
          · rw [q5, up_ne _ _ eu, o1 63 (by simp; omega)]
      · obtain ⟨r1, r2, r3⟩ := g2
        exact ⟨by rw [ho 1 (by omega) (by omega) (by omega) (by omega)]; exact r1, by rw [hq 4 (by omega) (by omega) (by omega)]; exact r2, by omega⟩
theorem p_new {μ : zMu} {n kd nu on : Nat} (h : pR μ) (hn : μ 1 2 = nI n) (hn5 : n < 5) (hk : kd < 6) (hu : nu < 10) (ho : on < 8) : zNx μ (m_new (x_new μ n (nI kd) (nI nu) (nI on)) n (nI kd) (nI nu) (nI on)) := by
  obtain ⟨cnt, t, n2, w, p, T, sz, g1, g2, g3, g4, g5, g6, g7, g8, g9⟩ := h
  have h5 := g3.1
  obtain rfl : n = n2 := (nI_eq (by omega) (by omega)).mp (hn.symm.trans g3.2.1)
  have o : zOff [4 + n, 1, 67, 68, 61] μ (m_new (x_new μ n (nI kd) (nI nu) (nI on)) n (nI kd) (nI nu) (nI on)) := (((((((((zOff.rf.up (by simp)).up (by simp)).up (by simp)).up (by simp)).up (by simp)).up (by simp)).up (by simp)).up (by simp)).up (by simp)).up (by simp)
  have e67 : (m_new (x_new μ n (nI kd) (nI nu) (nI on)) n (nI kd) (nI nu) (nI on)) 67 = upd (μ 67) n (nI kd) := by
    unfold m_new x_new
    rw [zup_ne (by omega), zup_ne (by omega), zup_ne (by omega), zup_ne (by omega), zup_eq, zup_ne (by omega), zup_ne (by omega), zup_ne (by omega), zup_ne (by omega), zup_ne (by omega)]
  have e68 : (m_new (x_new μ n (nI kd) (nI nu) (nI on)) n (nI kd) (nI nu) (nI on)) 68 = upd (upd (upd (μ 68) (3 * n) (nI nu)) (3 * n + 1) (nI on)) (3 * n + 2) 0 := by
    unfold m_new x_new
    rw [zup_ne (by omega), zup_eq, zup_eq, zup_eq, zup_ne (by omega), zup_ne (by omega), zup_ne (by omega), zup_ne (by omega), zup_ne (by omega), zup_ne (by omega)]
  have e4 : (m_new (x_new μ n (nI kd) (nI nu) (nI on)) n (nI kd) (nI nu) (nI on)) (4 + n) = upd (upd (upd (upd (μ (4 + n)) 0 (nI kd)) 1 (nI nu)) 2 (nI on)) 3 0 := by
    unfold m_new x_new
    rw [zup_ne (by omega), zup_ne (by omega), zup_ne (by omega), zup_ne (by omega), zup_ne (by omega), zup_ne (by omega), zup_eq, zup_eq, zup_eq, zup_eq]
  have e1 : (m_new (x_new μ n (nI kd) (nI nu) (nI on)) n (nI kd) (nI nu) (nI on)) 1 = upd (μ 1) 2 (nI (n + 1)) := by
    unfold m_new x_new
    rw [zup_ne (by omega), zup_ne (by omega), zup_ne (by omega), zup_ne (by omega), zup_ne (by omega), zup_eq, zup_ne (by omega), zup_ne (by omega), zup_ne (by omega), zup_ne (by omega)]
  have e61 : (m_new (x_new μ n (nI kd) (nI nu) (nI on)) n (nI kd) (nI nu) (nI on)) 61 = upd (μ 61) 11 (nI (n + 1)) := by
    unfold m_new x_new
    rw [zup_eq, zup_ne (by omega), zup_ne (by omega), zup_ne (by omega), zup_ne (by omega), zup_ne (by omega), zup_ne (by omega), zup_ne (by omega), zup_ne (by omega), zup_ne (by omega)]
  refine zN o (by simp; omega) (pR.g (w2 := w) (p2 := p) (T2 := T) o (by simp; omega) (fun s _ hs _ => by rw [e61, up_ne _ _ hs]) g1 g6 g7 g8 g9 (fun f hf => by rw [e67, up_ne _ _ (by omega)]) (Nat.le_succ n) ⟨by rw [e1, up_ne _ _ (by decide)]; exact g2.1, by rw [e61, up_ne _ _ (by decide)]; exact g2.2.1, g2.2.2⟩ ⟨by omega, by rw [e1, up_eq], by rw [e61, up_eq], fun f hf => ?_⟩ ?_ (by rw [o 2 (by simp; omega), o 66 (by simp; omega)]; exact g5))
  · rw [e67, e68]
    by_cases ef : f = n
    · subst ef
      rw [e4]
      exact ⟨kd, nu, on, 0, ⟨rfl, hk, up_eq _ _ _⟩, ⟨rfl, hu, by rw [up_ne _ _ (by omega), up_ne _ _ (by omega), up_eq]⟩, ⟨rfl, ho, by rw [up_ne _ _ (by omega), up_eq]⟩, ⟨rfl, by omega, up_eq _ _ _⟩⟩
    · obtain ⟨kd', nu', a', fo', c1, c2, c3, c4⟩ := g3.2.2.2 f (by omega)
      rw [o (4 + f) (by simp; omega)]
      exact ⟨kd', nu', a', fo', ⟨c1.1, c1.2.1, by rw [up_ne _ _ ef]; exact c1.2.2⟩, ⟨c2.1, c2.2.1, by rw [up_ne _ _ (by omega), up_ne _ _ (by omega), up_ne _ _ (by omega)]; exact c2.2.2⟩, ⟨c3.1, c3.2.1, by rw [up_ne _ _ (by omega), up_ne _ _ (by omega), up_ne _ _ (by omega)]; exact c3.2.2⟩, ⟨c4.1, c4.2.1, by rw [up_ne _ _ (by omega), up_ne _ _ (by omega), up_ne _ _ (by omega)]; exact c4.2.2⟩⟩
  · rw [e1, o 65 (by simp; omega)]
    exact (show pDu _ _ w p T from g4)
set_option maxRecDepth 20000 in
theorem P_finder {kd nu on : Int32} {μ : zMu} {τ : Int64} (h : pR μ) : Zc 2 yX10_finder cX10_finder 4 (some .int) [.ref 0, .int kd, .int nu, .int on] μ τ (zPa 2 yX11_finder cX11_finder 4 [.int kd, .int nu, .int on] μ) := by
  obtain ⟨cnt, t, n, w, p, T, sz, g1, g2, g3, g4, g5, g6, g7, g8, g9⟩ := id h
  have h5 := g3.1
  refine s_X_finder n g3.1 g3.2.1 (fun hb => .s (s_mfinderB hb ⟨rfl, h.s0⟩)) (fun hok e => .s (s_mfinderF hok (by rw [g3.2.2.1, e]) ⟨rfl, h.s0⟩)) (fun hok hlt => .o (S := [4 + n, 1]) (((((zOff.rf.up (by simp)).up (by simp)).up (by simp)).up (by simp)).up (by simp)) (by simp; omega) ?_)
  obtain ⟨kd', h1, rfl⟩ := vp_in_of hok.1 (by decide)
  obtain ⟨nu', h2, rfl⟩ := vp_in_of hok.2.1 (by decide)
  obtain ⟨on', h3, rfl⟩ := vp_in_of hok.2.2 (by decide)
  refine s_mfinder n hok ?_ hlt ⟨rfl, p_new h g3.2.1 hlt h1 h2 h3⟩
  rw [zup_ne (by omega), zup_ne (by omega), zup_ne (by omega), zup_ne (by omega), zup_ne (by omega)]
  exact g3.2.2.1
theorem zup_cm (μ : zMu) {k k' : Nat} (j j' : Nat) (x x' : Int32) (h : k ≠ k') : zup (zup μ k j x) k' j' x' = zup (zup μ k' j' x') k j x := by
  funext q i
  rw [zup_at, zup_at, zup_at, zup_at]
  by_cases h1 : q = k' ∧ i = j'
  · rw [if_pos h1, if_pos h1, if_neg (fun e => h (e.1.symm.trans h1.1))]
  · rw [if_neg h1, if_neg h1]
theorem x_new_m (μ : zMu) (n m : Nat) (a b c a' b' c' : Int32) (hn : n < 57) : m_new (x_new μ n a b c) m a' b' c' = x_new (m_new μ m a' b' c') n a b c := by
  have h1 : ∀ (ν : zMu) (k j : Nat) (x : Int32), k < 61 → m_new (zup ν k j x) m a' b' c' = zup (m_new ν m a' b' c') k j x := fun ν k j x hk => by
    unfold m_new
    rw [zup_cm ν j _ _ _ (show k ≠ 67 by omega), zup_cm _ j _ _ _ (show k ≠ 68 by omega), zup_cm _ j _ _ _ (show k ≠ 68 by omega), zup_cm _ j _ _ _ (show k ≠ 68 by omega), zup_cm _ j _ _ _ (show k ≠ 61 by omega)]
  unfold x_new
  rw [h1 _ _ _ _ (by omega), h1 _ _ _ _ (by omega), h1 _ _ _ _ (by omega), h1 _ _ _ _ (by omega), h1 _ _ _ _ (by omega)]
theorem x_fl_m (it : Nat → Int32) (sz fr q : Nat) (a b c : Int32) : ∀ m k came μ n, n ≤ 5 → x_fl it sz fr m k came (m_new μ q a b c) n = ((x_fl it sz fr m k came μ n).1, m_new (x_fl it sz fr m k came μ n).2.1 q a b c, (x_fl it sz fr m k came μ n).2.2)
  | 0, _, _, _, _, _ => rfl
  | m + 1, k, came, μ, n, hn => by
    rw [x_fl_s, x_fl_s]
    split
    · split
      · rename_i h2
        rw [← x_new_m μ n q _ _ _ a b c (by omega), x_fl_m it sz fr q a b c m (k + 1) (came + 1) _ (n + 1) (by omega)]
      · exact x_fl_m it sz fr q a b c m (k + 1) came μ n hn
    · rfl
theorem m_fl_cg {it it' : Nat → Int32} {sz fr : Nat} (h : ∀ j, j < sz → it j = it' j) : ∀ m k came μ n, m_fl it sz fr m k came μ n = m_fl it' sz fr m k came μ n
  | 0, _, _, _, _ => rfl
  | m + 1, k, came, μ, n => by
    rw [m_fl_s, m_fl_s]
    by_cases hc : fr + 3 * k + 3 ≤ sz
    · rw [if_pos hc, if_pos hc, h (fr + 3 * k) (by omega), h (fr + 3 * k + 1) (by omega), h (fr + 3 * k + 2) (by omega), m_fl_cg h m, m_fl_cg h m]
    · rw [if_neg hc, if_neg hc]
theorem zNx.tr {a b c : zMu} (h : zNx a b) (h2 : zNx b c) : zNx a c := ⟨h2.1, h2.2.1.trans h.2.1, h2.2.2.trans h.2.2⟩
theorem p_fl (it : Nat → Int32) (sz fr : Nat) : ∀ m k came μ n, pR μ → n ≤ 5 → μ 1 2 = nI n → zNx μ (m_fl it sz fr m k came (x_fl it sz fr m k came μ n).2.1 n).2.1 ∧ (m_fl it sz fr m k came (x_fl it sz fr m k came μ n).2.1 n).1 = (x_fl it sz fr m k came μ n).1
  | 0, _, _, μ, _, h, _, _ => ⟨h.s0, rfl⟩
  | m + 1, k, came, μ, n, h, hn, hn2 => by
    rw [x_fl_s]
    by_cases hc : fr + 3 * k + 3 ≤ sz
    · rw [if_pos hc]
      by_cases hk : q_okF (it (fr + 3 * k)) (it (fr + 3 * k + 1)) (it (fr + 3 * k + 2)) = true ∧ n < 5
      · rw [if_pos hk, m_fl_s, if_pos hc, if_pos hk]
        obtain ⟨o1, o2, o3⟩ := q_okF_iff.mp hk.1
        obtain ⟨kd, h1, e1⟩ := vp_in_of o1 (by decide)
        obtain ⟨nu, h2, e2⟩ := vp_in_of o2 (by decide)
        obtain ⟨on, h3, e3⟩ := vp_in_of o3 (by decide)
        rw [e1, e2, e3]
        have hp := p_new h hn2 hk.2 h1 h2 h3
        have hcm := x_fl_m it sz fr n (nI kd) (nI nu) (nI on) m (k + 1) (came + 1) (x_new μ n (nI kd) (nI nu) (nI on)) (n + 1) (by omega)
        have ih := p_fl it sz fr m (k + 1) (came + 1) (m_new (x_new μ n (nI kd) (nI nu) (nI on)) n (nI kd) (nI nu) (nI on)) (n + 1) hp.1 (by omega) (by
          unfold m_new x_new
          rw [zup_ne (by omega), zup_ne (by omega), zup_ne (by omega), zup_ne (by omega), zup_ne (by omega), zup_eq, up_eq])
        rw [hcm] at ih
        exact ⟨hp.tr ih.1, ih.2⟩
      · rw [if_neg hk, m_fl_s, if_pos hc, if_neg hk]
        exact p_fl it sz fr m (k + 1) came μ n h hn hn2
    · rw [if_neg hc, m_fl_s, if_neg hc]
      exact ⟨h.s0, rfl⟩
theorem x_fl_hi (it : Nat → Int32) (sz fr : Nat) : ∀ m k came μ n, n ≤ 5 → ∀ q, 9 ≤ q → (x_fl it sz fr m k came μ n).2.1 q = μ q
  | 0, _, _, _, _, _, _, _ => rfl
  | m + 1, k, came, μ, n, hn, q, hq => by
    rw [x_fl_s]
    split
    · split
      · rename_i h2
        rw [x_fl_hi it sz fr m (k + 1) (came + 1) _ (n + 1) (by omega) q hq]
        unfold x_new
        rw [zup_ne (by omega), zup_ne (by omega), zup_ne (by omega), zup_ne (by omega), zup_ne (by omega)]
      · exact x_fl_hi it sz fr m (k + 1) came μ n hn q hq
    · rfl
set_option maxRecDepth 20000 in
theorem P_finders {s so fm m : Int32} {μ : zMu} {τ : Int64} (h : pR μ) : Zc 2 yX10_finders cX10_finders 9 (some .int) [.ref 0, .int s, .int so, .int fm, .int m] μ τ (zPa 3 yX11_finders cX11_finders 8 [.int s, .int so, .int fm, .int m] μ) := by
  obtain ⟨cnt, t, n, w, p, T, sz, g1, g2, g3, g4, g5, g6, g7, g8, g9⟩ := id h
  refine s_X_finders g3.1 g3.2.1 (fun i hi => (g8 i hi).k) (fun hb => .s (s_mfindersB hb ⟨rfl, h.s0⟩)) (fun a ha e hso hm hon hun => .s ?_) (fun a ha e hso hm hno => .s ?_) (fun a ha e hso hun e2 => .s ?_) (fun a m0 ha e hso hun e2 h0 h5 hneg => .s ?_) (fun a m0 fr sz2 ha e hso hun e2 h5 hfr e3 hsz hs40 => ?_)
  · subst e
    obtain ⟨so2, k2, b1, b2, b3, b4, b5, b6, b7, b8⟩ := (g8 a ha).on hon
    exact s_mfindersU ha hso hm b4 (by rw [b5, ← b3]; exact hun) ⟨rfl, h.s0⟩
  · subst e
    exact s_mfindersN ha hso hm ((g8 a ha).no hno) ⟨rfl, h.s0⟩
  · subst e; subst e2
    have hon : μ (53 + 2 * a) 1 ≠ -1 := by obtain ⟨v, hv, rfl⟩ := vp_in_of hso (by decide); rw [hun]; exact nI_m1 (by omega)
    obtain ⟨so2, k2, b1, b2, b3, b4, b5, b6, b7, b8⟩ := (g8 a ha).on hon
    exact s_mfinders0 ha hso b4 (by rw [b5, ← b3]; exact hun) ⟨rfl, h.s0⟩
  · subst e; subst e2
    have hon : μ (53 + 2 * a) 1 ≠ -1 := by obtain ⟨v, hv, rfl⟩ := vp_in_of hso (by decide); rw [hun]; exact nI_m1 (by omega)
    obtain ⟨so2, k2, b1, b2, b3, b4, b5, b6, b7, b8⟩ := (g8 a ha).on hon
    exact s_mfindersG ha hso b4 (by rw [b5, ← b3]; exact hun) h5 h0 hneg ⟨rfl, h.s0⟩
  · subst e; subst e2; subst e3
    have hon : μ (53 + 2 * a) 1 ≠ -1 := by obtain ⟨v, hv, rfl⟩ := vp_in_of hso (by decide); rw [hun]; exact nI_m1 (by omega)
    obtain ⟨so2, k2, b1, b2, b3, b4, b5, b6, b7, b8⟩ := (g8 a ha).on hon
    obtain rfl : sz2 = k2 := (nI_eq (by omega) (by omega)).mp (hsz.symm.trans b6)
    have hi := x_fl_hi (μ (54 + 2 * a)) sz2 fr m0 0 0 μ n g3.1
    have hp := p_fl (μ (54 + 2 * a)) sz2 fr m0 0 0 μ n h g3.1 g3.2.1
    refine ⟨⟨_, rfl⟩, hi 90 (by omega), hi 91 (by omega), ?_⟩
    refine s_mfinders (it := fun j => μ 77 (40 * a + j)) ha hso (by rw [hi 74 (by omega)]; exact b4) (by rw [hi 75 (by omega), b5, ← b3]; exact hun) h5 (by rw [hi 76 (by omega)]; exact b7) hs40 hfr (fun j _ => by rw [hi 77 (by omega)]) n g3.1 (by rw [hi 61 (by omega)]; exact g3.2.2.1) ?_
    rw [m_fl_cg (it' := μ (54 + 2 * a)) (fun j hj => b8 j hj)]
    exact ⟨by rw [hp.2], hp.1⟩
