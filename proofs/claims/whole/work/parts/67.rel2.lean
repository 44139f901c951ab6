theorem q_fol_cg {st st' : Nat → (Nat → Int32) → Nat → Int32} : ∀ m i s, (∀ j, i ≤ j → j < i + m → ∀ s, st j s = st' j s) → q_fol st m i s = q_fol st' m i s
  | 0, _, _, _ => rfl
  | m + 1, i, s, h => by
    rw [q_fol_s, q_fol_s, h i (by omega) (by omega) s, q_fol_cg m (i + 1) _ (fun j a b => h j (by omega) (by omega))]
theorem tst_off {μp μa : zMu} {t n w k : Nat} {it it' : Nat → Int32} (ht : t < 6) (hn : n ≤ 5) (h : ∀ q, q < 61 → μp q = μa q) (hit : ∀ j, j < k → it j = it' j) : q_fol (c_tst (x_C μp t n) w it) k 0 (fun p => q_bit p) = q_fol (q_tst (xs μa t) (μa 2) (μa 1 4) n (xK μa) (xN μa) (xA μa) w it') k 0 (fun p => q_bit p) := by
  refine q_fol_cg k 0 _ (fun j _ hj s => ?_)
  have e1 : xs μp t = xs μa t := by
    funext c nm
    unfold xs xsay
    rw [h (22 + 3 * t) (by omega), h (23 + 3 * t) (by omega)]
  show q_tkp (it j) (q_watch (xs μp t) (μp 2) (μp 1 4) (w + j + 1) n (xK μp) (xN μp) (xA μp)) (q_tmv (fun p => q_next (xs μp t) (μp 2) (μp 1 4) (nI (w + j)) p) s) = q_tkp (it' j) (q_watch (xs μa t) (μa 2) (μa 1 4) (w + j + 1) n (xK μa) (xN μa) (xA μa)) (q_tmv (fun p => q_next (xs μa t) (μa 2) (μa 1 4) (nI (w + j)) p) s)
  rw [e1, h 2 (by omega), h 1 (by omega), hit j (by omega), q_watch_congr (K' := xK μa) (N' := xN μa) (A' := xA μa) (fun f hf => by show (μp (4 + f) 0).toNatClampNeg = (μa (4 + f) 0).toNatClampNeg; rw [h (4 + f) (by omega)]) (fun f hf => by show (μp (4 + f) 1).toNatClampNeg = (μa (4 + f) 1).toNatClampNeg; rw [h (4 + f) (by omega)]) (fun f hf => by show (μp (4 + f) 2).toNatClampNeg = (μa (4 + f) 2).toNatClampNeg; rw [h (4 + f) (by omega)])]
theorem c_wt_r8 {C : mC} {w : Nat} {μ : zMu} (hc : m_cx C w μ) : ∀ v, r8 (c_wt C v) := fun v => r8_wt (v := v) hc
theorem x_fits_cg {F G : Nat → Bool} {m : Nat} (h : ∀ v, v < m → F v = G v) : x_fits F m = x_fits G m := q_orf_congr m (fun v hv => by rw [h v hv])
/-- a row that is told: both have the same -/
theorem pSh.on {μ : zMu} {i : Nat} (h : pSh μ i) (hn : μ (53 + 2 * i) 1 ≠ -1) : ∃ so k, so < 3 ∧ k ≤ 40 ∧ μ (53 + 2 * i) 1 = nI so ∧ μ 74 i = 1 ∧ μ 75 i = nI so ∧ μ (53 + 2 * i) 2 = nI k ∧ μ 76 i = nI k ∧ ∀ j, j < k → μ 77 (40 * i + j) = μ (54 + 2 * i) j := by
  rcases h with ⟨a, _⟩ | h
  · exact absurd a hn
  · exact h
theorem pSh.no {μ : zMu} {i : Nat} (h : pSh μ i) (hn : μ (53 + 2 * i) 1 = -1) : μ 74 i = 0 := by
  rcases h with ⟨_, a, _⟩ | ⟨so, k, a1, _, a2, _⟩
  · exact a
  · rw [a2] at hn; exact absurd hn (nI_m1 (by omega))
theorem pSh.k {μ : zMu} {i : Nat} (h : pSh μ i) : ∃ k, k ≤ 40 ∧ μ (53 + 2 * i) 2 = nI k := by
  rcases h with ⟨_, _, a⟩ | ⟨so, k, _, a1, _, _, _, a2, _⟩
  · exact a
  · exact ⟨k, a1, a2⟩
/-! the two with another pose, rule, kind, number -/
theorem p_pose {μ : zMu} {cnt t n w p T : Nat} (g1 : pTx μ cnt) (g2 : pRu μ cnt t) (g3 : pFi μ n) (g4 : pDu (μ 1) (μ 65) w p T) (g5 : pLn (μ 2) (μ 66)) (v : Int32) : x_ok (zup μ 1 4 v) cnt t n w ∧ m_cx (x_C (zup (zup μ 1 4 v) 65 1 v) t n) w (zup (zup μ 1 4 v) 65 1 v) := by
  have e1 : pTx (zup μ 1 4 v) cnt := g1.fr rfl rfl (fun k a b => zup_ne (by omega)) rfl rfl
  have e2 : pRu (zup μ 1 4 v) cnt t := g2.fr rfl rfl
  have e3 : pFi (zup μ 1 4 v) n := g3.fr rfl rfl (fun k a b => zup_ne (by omega)) rfl rfl
  have f1 : pTx (zup (zup μ 1 4 v) 65 1 v) cnt := e1.fr rfl rfl (fun k a b => zup_ne (by omega)) rfl rfl
  have f2 : pRu (zup (zup μ 1 4 v) 65 1 v) cnt t := e2.fr rfl rfl
  have f3 : pFi (zup (zup μ 1 4 v) 65 1 v) n := e3.fr rfl rfl (fun k a b => zup_ne (by omega)) rfl rfl
  have f4 : pDu ((zup (zup μ 1 4 v) 65 1 v) 1) ((zup (zup μ 1 4 v) 65 1 v) 65) w p T := ⟨g4.1, rfl, g4.2.2⟩
  refine ⟨?_, p_cx f1 f2 f3 f4 g5⟩
  obtain ⟨a1, a2, a3⟩ := pT_all (e1.2.2.2.2 t e2.2.2)
  exact ⟨⟨e1.1, e1.2.2.2.1, e2.1, e2.2.2, a1⟩, ⟨e3.1, e3.2.1, fun f hf => by
    obtain ⟨kd, nu, a, fo, c1, c2, c3, c4⟩ := e3.2.2.2 f hf
    exact ⟨kd, nu, a, c1.1, c1.2.1, c2.1, c2.2.1, c3.1, c3.2.1⟩⟩, g4.1.1, g4.1.2.1, a3.2⟩
theorem p_rule {μ : zMu} {cnt t n w p T v : Nat} (g1 : pTx μ cnt) (g2 : pRu μ cnt t) (g3 : pFi μ n) (g4 : pDu (μ 1) (μ 65) w p T) (g5 : pLn (μ 2) (μ 66)) (hv : v < cnt) : x_ok (zup μ 1 7 (nI v)) cnt v n w ∧ m_cx (x_C (zup (zup μ 1 7 (nI v)) 61 4 (nI v)) v n) w (zup (zup μ 1 7 (nI v)) 61 4 (nI v)) := by
  have f1 : pTx (zup (zup μ 1 7 (nI v)) 61 4 (nI v)) cnt := g1.fr rfl rfl (fun k a b => by rw [zup_ne (by omega), zup_ne (by omega)]) rfl rfl
  have f2 : pRu (zup (zup μ 1 7 (nI v)) 61 4 (nI v)) cnt v := ⟨rfl, rfl, hv⟩
  have f3 : pFi (zup (zup μ 1 7 (nI v)) 61 4 (nI v)) n := g3.fr rfl rfl (fun k a b => by rw [zup_ne (by omega), zup_ne (by omega)]) rfl rfl
  refine ⟨?_, p_cx f1 f2 f3 (show pDu _ _ w p T from g4) g5⟩
  have e1 : pTx (zup μ 1 7 (nI v)) cnt := g1.fr rfl rfl (fun k a b => zup_ne (by omega)) rfl rfl
  have e3 : pFi (zup μ 1 7 (nI v)) n := g3.fr rfl rfl (fun k a b => zup_ne (by omega)) rfl rfl
  obtain ⟨a1, a2, a3⟩ := pT_all (e1.2.2.2.2 v hv)
  exact ⟨⟨e1.1, e1.2.2.2.1, rfl, hv, a1⟩, ⟨e3.1, e3.2.1, fun f hf => by
    obtain ⟨kd, nu, a, fo, c1, c2, c3, c4⟩ := e3.2.2.2 f hf
    exact ⟨kd, nu, a, c1.1, c1.2.1, c2.1, c2.2.1, c3.1, c3.2.1⟩⟩, g4.1.1, g4.1.2.1, a3.2⟩
theorem p_fin {μ : zMu} {cnt t n w p T f j : Nat} {k jj : Nat} {x : Int32} (g1 : pTx μ cnt) (g2 : pRu μ cnt t) (g3 : pFi μ n) (g4 : pDu (μ 1) (μ 65) w p T) (g5 : pLn (μ 2) (μ 66)) (hf : f < n) (hk : k = 67 ∨ k = 68) (hF : pFi (zup (zup μ (4 + f) j x) k jj x) n) : x_ok (zup μ (4 + f) j x) cnt t n w ∧ m_cx (x_C (zup (zup μ (4 + f) j x) k jj x) t n) w (zup (zup μ (4 + f) j x) k jj x) := by
  have h5 := g3.1
  have f1 : pTx (zup (zup μ (4 + f) j x) k jj x) cnt := g1.fr (by rw [zup_ne (by omega), zup_ne (by omega)]) (by rw [zup_ne (by omega), zup_ne (by omega)]) (fun q a b => by rw [zup_ne (by omega), zup_ne (by omega)]) (by rw [zup_ne (by omega), zup_ne (by omega)]) (by rw [zup_ne (by omega), zup_ne (by omega)])
  have f2 : pRu (zup (zup μ (4 + f) j x) k jj x) cnt t := g2.fr (by rw [zup_ne (by omega), zup_ne (by omega)]) (by rw [zup_ne (by omega), zup_ne (by omega)])
  have q1 : (zup (zup μ (4 + f) j x) k jj x) 1 = μ 1 := by rw [zup_ne (by omega), zup_ne (by omega)]
  have q2 : (zup (zup μ (4 + f) j x) k jj x) 2 = μ 2 := by rw [zup_ne (by omega), zup_ne (by omega)]
  have q65 : (zup (zup μ (4 + f) j x) k jj x) 65 = μ 65 := by rw [zup_ne (by omega), zup_ne (by omega)]
  have q66 : (zup (zup μ (4 + f) j x) k jj x) 66 = μ 66 := by rw [zup_ne (by omega), zup_ne (by omega)]
  have f4 : pDu ((zup (zup μ (4 + f) j x) k jj x) 1) ((zup (zup μ (4 + f) j x) k jj x) 65) w p T := by rw [q1, q65]; exact g4
  have f5 : pLn ((zup (zup μ (4 + f) j x) k jj x) 2) ((zup (zup μ (4 + f) j x) k jj x) 66) := by rw [q2, q66]; exact g5
  refine ⟨?_, p_cx f1 f2 hF f4 f5⟩
  have hx := p_ok f1 f2 hF f4
  have e1 : pTx (zup μ (4 + f) j x) cnt := g1.fr (by rw [zup_ne (by omega)]) (by rw [zup_ne (by omega)]) (fun q a b => by rw [zup_ne (by omega)]) (by rw [zup_ne (by omega)]) (by rw [zup_ne (by omega)])
  obtain ⟨a1, a2, a3⟩ := pT_all (e1.2.2.2.2 t g2.2.2)
  refine ⟨⟨by rw [zup_ne (by omega)]; exact g1.1, g1.2.2.2.1, by rw [zup_ne (by omega)]; exact g2.1, g2.2.2, a1⟩, ⟨g3.1, by rw [zup_ne (by omega)]; exact g3.2.1, fun f' hf' => ?_⟩, by rw [zup_ne (by omega)]; exact g4.1.1, g4.1.2.1, a3.2⟩
  have := hx.2.1.2.2 f' hf'
  rw [zup_ne (k' := 4 + f') (k := k) (by omega)] at this
  exact this
set_option maxRecDepth 20000 in
theorem P_tells {s what : Int32} {μ : zMu} {τ : Int64} (h : pR μ) : Zc 7 yX10_tells cX10_tells 5 (some .int) [.ref 0, .int s, .int what] μ τ (zPa 48 yX11_tells cX11_tells 6 [.int s, .int what] μ) := by
  obtain ⟨cnt, t, n, w, p, T, sz, g1, g2, g3, g4, g5, g6, g7, g8, g9⟩ := id h
  have hx := p_ok g1 g2 g3 g4
  have hc := p_cx g1 g2 g3 g4 g5
  have hc6 := g1.2.2.2.1
  have htc := g2.2.2
  have hw9 := g4.1.2.1
  by_cases hok : vp_in s 4 ∧ vp_in what 5
  · refine s_X_tells hx (fun i hi => (g8 i hi).k) g9 (fun v hv => (p_pose g1 g2 g3 g4 g5 (nI v)).1) (fun v hv => (p_rule g1 g2 g3 g4 g5 hv).1) (fun hb => absurd hok hb) (fun a ha e hno => .s ?_) (fun a k ha e hon hk hk40 hb => .s ?_) (fun a k ha e e2 hon hk h30 μ1 o1 tl1 => .o o1 (by simp) ?_) (fun a k ha e e2 hon hk h30 μ1 o1 tl1 => .o o1 (by simp) ?_) (fun a k c ha e hc3 e2 hon hk h30 μ1 o1 tl1 => .o o1 (by simp) ?_)
    · subst e
      exact s_mtellsN ha hok.2 ((g8 a ha).no hno) ⟨rfl, h.s0⟩
    · subst e
      obtain ⟨so, k2, b1, b2, b3, b4, b5, b6, b7, b8⟩ := (g8 a ha).on hon
      obtain rfl : k = k2 := (nI_eq (by omega) (by omega)).mp (hk.symm.trans b6)
      exact s_mtellsG ha b2 hok.2 (by rw [b4]; decide) b7 hb ⟨rfl, h.s0⟩
    · subst e; subst e2
      have hs8 := g8 a ha
      obtain ⟨so, k2, b1, b2, b3, b4, b5, b6, b7, b8⟩ := hs8.on hon
      obtain rfl : k = k2 := (nI_eq (by omega) (by omega)).mp (hk.symm.trans b6)
      have hth1 : ¬ μ1 74 a = 0 := by rw [sc_fr o1 (by simp [zSC]) (by omega), b4]; decide
      have hsz1 : μ1 76 a = nI k := by rw [sc_fr o1 (by simp [zSC]) (by omega)]; exact b7
      have hit1 : ∀ j, j < 40 → μ1 77 (40 * a + j) = (fun j => μ 77 (40 * a + j)) j := fun j _ => by rw [sc_fr o1 (by simp [zSC]) (by omega)]
      have hits : ∀ j, j < k → (fun j => μ 77 (40 * a + j)) j = μ (54 + 2 * a) j := fun j hj => b8 j hj
      have hcv : ∀ v, v ≤ 9 → m_cx (x_C (zup (zup μ 1 4 (nI v)) 65 1 (nI v)) t n) w (zup μ1 65 1 (nI v)) := fun v _ => (p_pose g1 g2 g3 g4 g5 (nI v)).2.x (fun q hq => by
        by_cases e : q = 65
        · subst e; rw [zup_eq, zup_eq, zup_ne (by decide), sc_fr o1 (by simp [zSC]) (by omega)]
        · rw [zup_ne e, zup_ne e, zup_ne (by omega), sc_fr o1 (by simp [zSC]) (by omega)]) (fun q a1 a2 => by rw [zup_ne (by omega), zup_ne (by omega), zup_ne (by omega), o1 q (by simp; omega)])
      refine s_mtells3 (Cv := fun v => x_C (zup (zup μ 1 4 (nI v)) 65 1 (nI v)) t n) hcv ha hsz1 h30 hit1 hw9 hth1 (fun μ2 τ2 o2 => ⟨?_, h.sc o1 (by simp [zSC]) tl1 o2 (by simp)⟩)
      refine congrArg (fun z => some (Value.int z)) (x_fits_cg (fun v hv => ?_))
      rw [t_fit (c_wt_r8 (hcv v (by omega))) (by omega), tst_off (μa := zup μ 1 4 (nI v)) (it' := μ (54 + 2 * a)) (by omega) g3.1 (fun q hq => zup_ne (by omega)) hits]
      unfold x_fit
      rw [zup_ne (k' := 54 + 2 * a) (by omega)]
    · subst e; subst e2
      have hs8 := g8 a ha
      obtain ⟨so, k2, b1, b2, b3, b4, b5, b6, b7, b8⟩ := hs8.on hon
      obtain rfl : k = k2 := (nI_eq (by omega) (by omega)).mp (hk.symm.trans b6)
      have hth1 : ¬ μ1 74 a = 0 := by rw [sc_fr o1 (by simp [zSC]) (by omega), b4]; decide
      have hsz1 : μ1 76 a = nI k := by rw [sc_fr o1 (by simp [zSC]) (by omega)]; exact b7
      have hit1 : ∀ j, j < 40 → μ1 77 (40 * a + j) = (fun j => μ 77 (40 * a + j)) j := fun j _ => by rw [sc_fr o1 (by simp [zSC]) (by omega)]
      have hits : ∀ j, j < k → (fun j => μ 77 (40 * a + j)) j = μ (54 + 2 * a) j := fun j hj => b8 j hj
      have hcv : ∀ v, v < cnt → m_cx (x_C (zup (zup μ 1 7 (nI v)) 61 4 (nI v)) v n) w (zup μ1 61 4 (nI v)) := fun v hv => (p_rule g1 g2 g3 g4 g5 hv).2.x (fun q hq => by
        by_cases e : q = 61
        · subst e; rw [zup_eq, zup_eq, zup_ne (by decide), sc_fr o1 (by simp [zSC]) (by omega)]
        · rw [zup_ne e, zup_ne e, zup_ne (by omega), sc_fr o1 (by simp [zSC]) (by omega)]) (fun q a1 a2 => by rw [zup_ne (by omega), zup_ne (by omega), zup_ne (by omega), o1 q (by simp; omega)])
      have h1c := g1.2.2.1
      obtain ⟨c0, rfl⟩ : ∃ c0, cnt = c0 + 1 := ⟨cnt - 1, by omega⟩
      refine s_mtells4 (Cv := fun v => x_C (zup (zup μ 1 7 (nI v)) 61 4 (nI v)) v n) (by rw [sc_fr o1 (by simp [zSC]) (by omega)]; exact g1.2.1) (by omega) (fun v hv => hcv v (by omega)) ha hsz1 h30 hit1 hw9 hth1 (fun μ2 τ2 o2 => ⟨?_, h.sc o1 (by simp [zSC]) tl1 o2 (by simp)⟩)
      refine congrArg (fun z => some (Value.int z)) (x_fits_cg (fun v hv => ?_))
      rw [t_fit (c_wt_r8 (hcv v (by omega))) (by omega), tst_off (μa := zup μ 1 7 (nI v)) (it' := μ (54 + 2 * a)) (by omega) g3.1 (fun q hq => zup_ne (by omega)) hits]
      unfold x_fit
      rw [zup_ne (k' := 54 + 2 * a) (by omega)]
    · subst e; subst e2
      have hs8 := g8 a ha
      obtain ⟨so, k2, b1, b2, b3, b4, b5, b6, b7, b8⟩ := hs8.on hon
      obtain rfl : k = k2 := (nI_eq (by omega) (by omega)).mp (hk.symm.trans b6)
      have hth1 : ¬ μ1 74 a = 0 := by rw [sc_fr o1 (by simp [zSC]) (by omega), b4]; decide
      have hsz1 : μ1 76 a = nI k := by rw [sc_fr o1 (by simp [zSC]) (by omega)]; exact b7
      have hit1 : ∀ j, j < 40 → μ1 77 (40 * a + j) = (fun j => μ 77 (40 * a + j)) j := fun j _ => by rw [sc_fr o1 (by simp [zSC]) (by omega)]
      have hits : ∀ j, j < k → (fun j => μ 77 (40 * a + j)) j = μ (54 + 2 * a) j := fun j hj => b8 j hj
      have hc1 := hc.xo o1 (by simp [zSC])
      have hto := tst_off (μp := μ) (μa := μ) (t := t) (n := n) (w := w) (k := k) (it := fun j => μ 77 (40 * a + j)) (it' := μ (54 + 2 * a)) (by omega) g3.1 (fun _ _ => rfl) hits
      rw [← hto]
      match c, hc3 with
      | 0, _ =>
        refine s_mtells0 (C := x_C μ t n) hc1 ha hsz1 h30 hit1 hw9 hth1 (fun μ2 τ2 o2 => ⟨?_, h.sc o1 (by simp [zSC]) tl1 o2 (by simp)⟩)
        rw [t_tel (c_wt_r8 hc) (by omega)]
        rfl
      | 1, _ =>
        refine s_mtells1 (C := x_C μ t n) hc1 ha hsz1 h30 hit1 hw9 hth1 (fun μ2 τ2 o2 => ⟨?_, h.sc o1 (by simp [zSC]) tl1 o2 (by simp)⟩)
        rw [t_now (c_wt_r8 hc)]
        rfl
      | 2, _ =>
        refine s_mtells2 (C := x_C μ t n) hc1 ha hsz1 h30 hit1 hw9 hth1 (fun μ2 τ2 o2 => ⟨?_, h.sc o1 (by simp [zSC]) tl1 o2 (by simp)⟩)
        rw [t_tel (c_wt_r8 hc) (by omega)]
        rfl
      | c + 3, hc3 => omega
  · exact s_X_tellsB hok (.s (s_mtellsB hok ⟨rfl, h.s0⟩))
set_option maxRecDepth 20000 in
theorem P_eyes {s x what : Int32} {μ : zMu} {τ : Int64} (h : pR μ) : Zc 7 yX10_eyes cX10_eyes 6 (some .int) [.ref 0, .int s, .int x, .int what] μ τ (zPa 48 yX11_eyes cX11_eyes 5 [.int s, .int x, .int what] μ) := by
  obtain ⟨cnt, t, n, w, p, T, sz, g1, g2, g3, g4, g5, g6, g7, g8, g9⟩ := id h
  have hx := p_ok g1 g2 g3 g4
  have hc := p_cx g1 g2 g3 g4 g5
  have hc6 := g1.2.2.2.1
  have htc := g2.2.2
  have hw9 := g4.1.2.1
  have h5 := g3.1
  have hF6 : ∀ f v, f < n → v < 6 → pFi (zup (zup μ (4 + f) 0 (nI v)) 67 f (nI v)) n := fun f v hf hv => by
    refine ⟨g3.1, by rw [zup_ne (by omega), zup_ne (by omega)]; exact g3.2.1, by rw [zup_ne (by omega), zup_ne (by omega)]; exact g3.2.2.1, fun f' hf' => ?_⟩
    obtain ⟨kd, nu, a, fo, c1, c2, c3, c4⟩ := g3.2.2.2 f' hf'
    rw [zup_ne (k' := 4 + f') (k := 67) (by omega), zup_ne (k' := 68) (by omega), zup_ne (k' := 68) (by omega)]
    by_cases e : f' = f
    · subst e
      rw [zup_eq, zup_eq]
      exact ⟨v, nu, a, fo, ⟨by simp [upd], hv, by simp [upd]⟩, ⟨by simp [upd]; exact c2.1, c2.2⟩, ⟨by simp [upd]; exact c3.1, c3.2⟩, ⟨by simp [upd]; exact c4.1, c4.2⟩⟩
    · rw [zup_ne (k' := 4 + f') (by omega), zup_eq, zup_ne (k' := 67) (by omega)]
      exact ⟨kd, nu, a, fo, ⟨c1.1, c1.2.1, by simp [upd, e]; exact c1.2.2⟩, c2, c3, c4⟩
  have hF4 : ∀ f v, f < n → v < 10 → pFi (zup (zup μ (4 + f) 1 (nI v)) 68 (3 * f) (nI v)) n := fun f v hf hv => by
    refine ⟨g3.1, by rw [zup_ne (by omega), zup_ne (by omega)]; exact g3.2.1, by rw [zup_ne (by omega), zup_ne (by omega)]; exact g3.2.2.1, fun f' hf' => ?_⟩
    obtain ⟨kd, nu, a, fo, c1, c2, c3, c4⟩ := g3.2.2.2 f' hf'
    rw [zup_ne (k' := 4 + f') (k := 68) (by omega), zup_ne (k' := 67) (by omega), zup_ne (k' := 67) (by omega)]
    have u1 : ¬ 3 * f' + 1 = 3 * f := by omega
    have u2 : ¬ 3 * f' + 2 = 3 * f := by omega
    by_cases e : f' = f
    · subst e
      rw [zup_eq, zup_eq, zup_ne (k' := 68) (by omega)]
      exact ⟨kd, v, a, fo, ⟨by simp [upd]; exact c1.1, c1.2⟩, ⟨by simp [upd], hv, by simp [upd]⟩, ⟨by simp [upd]; exact c3.1, c3.2.1, by simp [upd]; exact c3.2.2⟩, ⟨by simp [upd]; exact c4.1, c4.2.1, by simp [upd]; exact c4.2.2⟩⟩
    · have u0 : ¬ 3 * f' = 3 * f := by omega
      rw [zup_ne (k' := 4 + f') (by omega), zup_eq, zup_ne (k' := 68) (by omega)]
      exact ⟨kd, nu, a, fo, c1, ⟨c2.1, c2.2.1, by simp only [upd, if_neg u0]; exact c2.2.2⟩, ⟨c3.1, c3.2.1, by simp only [upd, if_neg u1]; exact c3.2.2⟩, ⟨c4.1, c4.2.1, by simp only [upd, if_neg u2]; exact c4.2.2⟩⟩
  refine s_X_eyes hx (fun i hi => (g8 i hi).k) g9 (fun f hf v hv => (p_fin g1 g2 g3 g4 g5 hf (Or.inl rfl) (hF6 f v hf hv)).1) (fun f hf v hv => (p_fin g1 g2 g3 g4 g5 hf (Or.inr rfl) (hF4 f v hf hv)).1) (fun hb => .s (s_meyesB n g3.1 g3.2.2.1 hb ⟨rfl, h.s0⟩)) (fun a f ha e hf e2 hw hno => .s ?_) (fun a f k ha e hf e2 hw hon hk hk40 hb => .s ?_) (fun a f k ha e hf e2 e3 hon hk h30 μ1 o1 tl1 => .o o1 (by simp) ?_) (fun a f k ha e hf e2 e3 hon hk h30 μ1 o1 tl1 => .o o1 (by simp) ?_)
  · subst e; subst e2
    exact s_meyesN n g3.1 g3.2.2.1 hf ha hw ((g8 a ha).no hno) ⟨rfl, h.s0⟩
  · subst e; subst e2
    obtain ⟨so, k2, b1, b2, b3, b4, b5, b6, b7, b8⟩ := (g8 a ha).on hon
    obtain rfl : k = k2 := (nI_eq (by omega) (by omega)).mp (hk.symm.trans b6)
    exact s_meyesG n g3.1 g3.2.2.1 hf ha b2 hw (by rw [b4]; decide) b7 hb ⟨rfl, h.s0⟩
  · subst e; subst e2; subst e3
    have hFv := hF6
    have hs8 := g8 a ha
    obtain ⟨so, k2, b1, b2, b3, b4, b5, b6, b7, b8⟩ := hs8.on hon
    obtain rfl : k = k2 := (nI_eq (by omega) (by omega)).mp (hk.symm.trans b6)
    have hth1 : ¬ μ1 74 a = 0 := by rw [sc_fr o1 (by simp [zSC]) (by omega), b4]; decide
    have hsz1 : μ1 76 a = nI k := by rw [sc_fr o1 (by simp [zSC]) (by omega)]; exact b7
    have hit1 : ∀ j, j < 40 → μ1 77 (40 * a + j) = (fun j => μ 77 (40 * a + j)) j := fun j _ => by rw [sc_fr o1 (by simp [zSC]) (by omega)]
    have hits : ∀ j, j < k → (fun j => μ 77 (40 * a + j)) j = μ (54 + 2 * a) j := fun j hj => b8 j hj
    have hcv : ∀ v, v ≤ 5 → m_cx (x_C (zup (zup μ (4 + f) 0 (nI v)) 67 f (nI v)) t n) w (zup μ1 67 f (nI v)) := fun v hv => (p_fin g1 g2 g3 g4 g5 hf (by omega) (hFv f v hf (by omega))).2.x (fun q hq => by
      by_cases e : q = 67
      · subst e; rw [zup_eq, zup_eq, zup_ne (by omega), sc_fr o1 (by simp [zSC]) (by omega)]
      · rw [zup_ne e, zup_ne e, zup_ne (by omega), sc_fr o1 (by simp [zSC]) (by omega)]) (fun q a1 a2 => by rw [zup_ne (by omega), zup_ne (by omega), zup_ne (by omega), o1 q (by simp; omega)])
    refine s_meyes0 (Cv := fun v => x_C (zup (zup μ (4 + f) 0 (nI v)) 67 f (nI v)) t n) n g3.1 (by rw [sc_fr o1 (by simp [zSC]) (by omega)]; exact g3.2.2.1) hf hcv ha hsz1 h30 hit1 hw9 hth1 (fun μ2 τ2 o2 => ⟨?_, h.sc o1 (by simp [zSC]) tl1 o2 (by simp)⟩)
    refine congrArg (fun z => some (Value.int z)) (x_fits_cg (fun v hv => ?_))
    rw [t_fit (c_wt_r8 (hcv v (by omega))) (by omega), tst_off (μa := zup μ (4 + f) 0 (nI v)) (it' := μ (54 + 2 * a)) (by omega) g3.1 (fun q hq => zup_ne (by omega)) hits]
    unfold x_fit
    rw [zup_ne (k' := 54 + 2 * a) (by omega)]
  · subst e; subst e2; subst e3
    have hFv := hF4
    have hs8 := g8 a ha
    obtain ⟨so, k2, b1, b2, b3, b4, b5, b6, b7, b8⟩ := hs8.on hon
    obtain rfl : k = k2 := (nI_eq (by omega) (by omega)).mp (hk.symm.trans b6)
    have hth1 : ¬ μ1 74 a = 0 := by rw [sc_fr o1 (by simp [zSC]) (by omega), b4]; decide
    have hsz1 : μ1 76 a = nI k := by rw [sc_fr o1 (by simp [zSC]) (by omega)]; exact b7
    have hit1 : ∀ j, j < 40 → μ1 77 (40 * a + j) = (fun j => μ 77 (40 * a + j)) j := fun j _ => by rw [sc_fr o1 (by simp [zSC]) (by omega)]
    have hits : ∀ j, j < k → (fun j => μ 77 (40 * a + j)) j = μ (54 + 2 * a) j := fun j hj => b8 j hj
    have hcv : ∀ v, v ≤ 9 → m_cx (x_C (zup (zup μ (4 + f) 1 (nI v)) 68 (3 * f) (nI v)) t n) w (zup μ1 68 (3 * f) (nI v)) := fun v hv => (p_fin g1 g2 g3 g4 g5 hf (by omega) (hFv f v hf (by omega))).2.x (fun q hq => by
      by_cases e : q = 68
      · subst e; rw [zup_eq, zup_eq, zup_ne (by omega), sc_fr o1 (by simp [zSC]) (by omega)]
      · rw [zup_ne e, zup_ne e, zup_ne (by omega), sc_fr o1 (by simp [zSC]) (by omega)]) (fun q a1 a2 => by rw [zup_ne (by omega), zup_ne (by omega), zup_ne (by omega), o1 q (by simp; omega)])
    refine s_meyes1 (Cv := fun v => x_C (zup (zup μ (4 + f) 1 (nI v)) 68 (3 * f) (nI v)) t n) n g3.1 (by rw [sc_fr o1 (by simp [zSC]) (by omega)]; exact g3.2.2.1) hf hcv ha hsz1 h30 hit1 hw9 hth1 (fun μ2 τ2 o2 => ⟨?_, h.sc o1 (by simp [zSC]) tl1 o2 (by simp)⟩)
    refine congrArg (fun z => some (Value.int z)) (x_fits_cg (fun v hv => ?_))
    rw [t_fit (c_wt_r8 (hcv v (by omega))) (by omega), tst_off (μa := zup μ (4 + f) 1 (nI v)) (it' := μ (54 + 2 * a)) (by omega) g3.1 (fun q hq => zup_ne (by omega)) hits]
    unfold x_fit
    rw [zup_ne (k' := 54 + 2 * a) (by omega)]
