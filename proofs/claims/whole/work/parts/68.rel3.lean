/-! calls that change the two -/
theorem zO1 {μ : zMu} {k j : Nat} {x : Int32} : zOff [k] μ (zup μ k j x) := zOff.rf.up (by simp)
theorem pT.f2 {μ μ' : zMu} {t : Nat} (h : pT μ t) (h1 : μ' (21 + 3 * t) = μ (21 + 3 * t)) (h2 : μ' (22 + 3 * t) = μ (22 + 3 * t)) (h3 : μ' (23 + 3 * t) = μ (23 + 3 * t)) (h4 : ∀ i, i < 160 → μ' 62 (160 * t + i) = μ 62 (160 * t + i)) (h5 : μ' 63 t = μ 63 t) : pT μ' t := by
  obtain ⟨n, c1, c2, c3, a1, a2, a3, a4, a5, a6, a7⟩ := h
  have hb : ∀ i, i < n → m_b μ t i = m_b μ' t i := fun i hi => (h4 i (by omega)).symm
  refine ⟨n, c1, c2, c3, a1, by rw [h5]; exact a2, fun i hi => by rw [← hb i hi]; exact a3 i hi, by rw [← y_r0_cg hb]; exact a4, ?_, ?_, a7⟩
  · rw [h3, h1]; exact a5
  · rw [h2]; exact a6
/-- all but the finders, the duke, the lanes, the rule: kept, if these positions are -/
theorem pR.g {μ μ2 : zMu} {E : List Nat} {cnt n sz n2 t2 w2 p2 T2 : Nat} (o : zOff E μ μ2) (hE : ∀ k ∈ E, k = 1 ∨ k = 2 ∨ (4 ≤ k ∧ k < 9) ∨ k = 61 ∨ k = 65 ∨ k = 66 ∨ k = 67 ∨ k = 68) (hs : ∀ s, s ≠ 4 → s ≠ 11 → s < 12 ∨ 30 < s → μ2 61 s = μ 61 s) (g1 : pTx μ cnt) (g6 : pTa μ sz) (g7 : pIm μ cnt n) (g8 : ∀ i, i < 4 → pSh μ i) (g9 : x_tl μ) (hk : ∀ f, f < n → μ2 67 f = μ 67 f) (hn2 : n ≤ n2) (f2 : pRu μ2 cnt t2) (f3 : pFi μ2 n2) (f4 : pDu (μ2 1) (μ2 65) w2 p2 T2) (f5 : pLn (μ2 2) (μ2 66)) : pR μ2 := by
  have ho : ∀ k, ¬ (k = 1 ∨ k = 2 ∨ (4 ≤ k ∧ k < 9) ∨ k = 61 ∨ k = 65 ∨ k = 66 ∨ k = 67 ∨ k = 68) → μ2 k = μ k := fun k hk => o k (fun e => hk (hE k e))
  refine ⟨cnt, t2, n2, w2, p2, T2, sz, g1.fr (by rw [ho 17 (by omega)]) (hs 3 (by omega) (by omega) (by omega)) (fun k a b => ho k (by omega)) (ho 62 (by omega)) (ho 63 (by omega)), f2, f3, f4, f5, g6.fr (by rw [ho 39 (by omega)]) (hs 6 (by omega) (by omega) (by omega)) (ho 40 (by omega)) (ho 64 (by omega)), ((g7.fr (by rw [ho 0 (by omega)]) (hs 34 (by omega) (by omega) (by omega)) (hs 35 (by omega) (by omega) (by omega)) (fun k a b => ho k (by omega)) hk (ho 71 (by omega)) (ho 72 (by omega)) (ho 73 (by omega)))).mn hn2 f3.1, fun i hi => (g8 i hi).fr (ho _ (by omega)) (ho _ (by omega)) (by rw [ho 74 (by omega)]) (by rw [ho 75 (by omega)]) (by rw [ho 76 (by omega)]) (fun j _ => by rw [ho 77 (by omega)]), g9.fr (ho 48 (by omega))⟩
theorem zN {μ μ2 : zMu} {E : List Nat} (o : zOff E μ μ2) (hE : ∀ k ∈ E, k < 78) (h : pR μ2) : zNx μ μ2 := ⟨h, o 90 (fun e => absurd (hE 90 e) (by decide)), o 91 (fun e => absurd (hE 91 e) (by decide))⟩
theorem up_eq (g : Nat → Int32) (j : Nat) (x : Int32) : upd g j x j = x := if_pos rfl
theorem up_ne (g : Nat → Int32) {j i : Nat} (x : Int32) (h : i ≠ j) : upd g j x i = g i := if_neg h
set_option maxRecDepth 20000 in
theorem P_force {x : Int32} {μ : zMu} {τ : Int64} (h : pR μ) : Zc 1 yX10_force cX10_force 3 (some .int) [.ref 0, .int x] μ τ (zPa 1 yX11_force cX11_force 3 [.int x] μ) := by
  obtain ⟨cnt, t, n, w, p, T, sz, g1, g2, g3, g4, g5, g6, g7, g8, g9⟩ := id h
  refine s_X_force g1.1 g1.2.2.2.1 (fun hb => .s (s_mforceB g1.2.1 g1.2.2.2.1 hb ⟨rfl, h.s0⟩)) (fun hx => .o (S := [1]) zO1 (by simp) ?_)
  obtain ⟨v, hv, rfl⟩ := vp_in_of hx (by have := g1.2.2.2.1; omega)
  have o : zOff [1, 61] μ (zup (zup μ 1 7 (nI v)) 61 4 (nI v)) := (zOff.rf.up (by simp)).up (by simp)
  refine s_mforce (cnt := cnt) g1.2.1 g1.2.2.2.1 hx ⟨?_, zN o (by simp) ?_⟩
  · show some (Value.int (μ 61 4)) = some (Value.int (μ 1 7)); rw [g2.1, g2.2.1]
  · exact pR.g o (by simp) (fun s a b c => by rw [zup_eq, up_ne _ _ a, zup_ne (by decide)]) g1 g6 g7 g8 g9 (fun _ _ => rfl) (Nat.le_refl _) ⟨rfl, rfl, hv⟩ (g3.fr rfl rfl (fun k a b => by rw [zup_ne (by omega), zup_ne (by omega)]) rfl rfl) (show pDu _ _ w p T from g4) g5
set_option maxRecDepth 20000 in
theorem P_set {what of v : Int32} {μ : zMu} {τ : Int64} (h : pR μ) : Zc 2 yX10_set cX10_set 5 (some .int) [.ref 0, .int what, .int of, .int v] μ τ (zPa 46 yX11_set cX11_set 5 [.int what, .int of, .int v] μ) := by
  obtain ⟨cnt, t, n, w, p, T, sz, g1, g2, g3, g4, g5, g6, g7, g8, g9⟩ := id h
  have h5 := g3.1
  refine s_X_set n g3.1 g3.2.1 (fun hb => .s (s_msetB n g3.1 g3.2.2.1 hb ⟨rfl, h.s0⟩)) (fun c hc e hv => .o (S := [1]) zO1 (by simp) ?_) (fun c hc4 hc6 f e hv hf e2 => .o (S := [4 + f]) zO1 (by simp; omega) ?_)
  · subst e
    match c, hc with
    | 0, _ =>
      obtain ⟨x, hx, rfl⟩ := vp_in_of (show vp_in v 1000 from hv) (by decide)
      have o : zOff [1, 65] μ (zup (zup μ 1 3 (nI x)) 65 0 (nI x)) := (zOff.rf.up (by simp)).up (by simp)
      refine s_mset0 hv ⟨?_, zN o (by simp) ?_⟩
      · show some (Value.int (μ 65 0)) = some (Value.int (μ 1 3)); rw [g4.1.1, g4.1.2.2]
      · exact pR.g o (by simp) (fun _ _ _ _ => rfl) g1 g6 g7 g8 g9 (fun _ _ => rfl) (Nat.le_refl _) (g2.fr rfl rfl) (g3.fr rfl rfl (fun k a b => by rw [zup_ne (by omega), zup_ne (by omega)]) rfl rfl) (show pDu _ _ x p T from ⟨⟨rfl, by omega, rfl⟩, g4.2⟩) g5
    | 1, _ =>
      obtain ⟨x, hx, rfl⟩ := vp_in_of (show vp_in v 10 from hv) (by decide)
      have o : zOff [1, 65] μ (zup (zup μ 1 4 (nI x)) 65 1 (nI x)) := (zOff.rf.up (by simp)).up (by simp)
      refine s_mset1 hv ⟨?_, zN o (by simp) ?_⟩
      · show some (Value.int (μ 65 1)) = some (Value.int (μ 1 4)); rw [g4.2.1]
      · exact pR.g o (by simp) (fun _ _ _ _ => rfl) g1 g6 g7 g8 g9 (fun _ _ => rfl) (Nat.le_refl _) (g2.fr rfl rfl) (g3.fr rfl rfl (fun k a b => by rw [zup_ne (by omega), zup_ne (by omega)]) rfl rfl) (show pDu _ _ w p T from ⟨g4.1, rfl, g4.2.2⟩) g5
    | 2, _ =>
      obtain ⟨x, hx, rfl⟩ := vp_in_of (show vp_in v 8 from hv) (by decide)
      have o : zOff [1, 65] μ (zup (zup μ 1 5 (nI x)) 65 2 (nI x)) := (zOff.rf.up (by simp)).up (by simp)
      refine s_mset2 hv ⟨?_, zN o (by simp) ?_⟩
      · show some (Value.int (μ 65 2)) = some (Value.int (μ 1 5)); rw [g4.2.2.1.1, g4.2.2.1.2.2]
      · exact pR.g o (by simp) (fun _ _ _ _ => rfl) g1 g6 g7 g8 g9 (fun _ _ => rfl) (Nat.le_refl _) (g2.fr rfl rfl) (g3.fr rfl rfl (fun k a b => by rw [zup_ne (by omega), zup_ne (by omega)]) rfl rfl) (show pDu _ _ w x T from ⟨g4.1, g4.2.1, ⟨rfl, hx, rfl⟩, g4.2.2.2⟩) g5
    | 3, _ =>
      obtain ⟨x, hx, rfl⟩ := vp_in_of (show vp_in v 256 from hv) (by decide)
      have o : zOff [1, 65] μ (zup (zup μ 1 6 (nI x)) 65 3 (nI x)) := (zOff.rf.up (by simp)).up (by simp)
      refine s_mset3 hv ⟨?_, zN o (by simp) ?_⟩
      · show some (Value.int (μ 65 3)) = some (Value.int (μ 1 6)); rw [g4.2.2.2.1, g4.2.2.2.2.2]
      · exact pR.g o (by simp) (fun _ _ _ _ => rfl) g1 g6 g7 g8 g9 (fun _ _ => rfl) (Nat.le_refl _) (g2.fr rfl rfl) (g3.fr rfl rfl (fun k a b => by rw [zup_ne (by omega), zup_ne (by omega)]) rfl rfl) (show pDu _ _ w p x from ⟨g4.1, g4.2.1, g4.2.2.1, ⟨rfl, hx, rfl⟩⟩) g5
    | c + 4, hc => omega
  · subst e; subst e2
    match c, hc4, hc6 with
    | 4, _, _ =>
      obtain ⟨x, hx, rfl⟩ := vp_in_of (show vp_in v 10 from hv) (by decide)
      have o : zOff [4 + f, 68] μ (zup (zup μ (4 + f) 1 (nI x)) 68 (3 * f + 0) (nI x)) := (zOff.rf.up (by simp)).up (by simp)
      obtain ⟨kd, nu, a, fo, c1, c2, c3, c4⟩ := g3.2.2.2 f hf
      refine s_mset4 n g3.1 (by rw [zup_ne (by omega)]; exact g3.2.2.1) hf hv ⟨?_, zN o (by simp; omega) ?_⟩
      · show some (Value.int (zup μ (4 + f) 1 (nI x) 68 (3 * f + 0))) = some (Value.int (μ (4 + f) 1))
        rw [zup_ne (by omega), show μ 68 (3 * f + 0) = nI nu from c2.2.2]; rw [c2.1]
      · have e61 : ∀ s, zup (zup μ (4 + f) 1 (nI x)) 68 (3 * f + 0) (nI x) 61 s = μ 61 s := fun s => by rw [zup_ne (by omega), zup_ne (by omega)]
        refine pR.g o (by simp; omega) (fun s _ _ _ => e61 s) g1 g6 g7 g8 g9 (fun _ _ => by rw [zup_ne (by omega), zup_ne (by omega)]) (Nat.le_refl _) (g2.fr (by rw [zup_ne (by omega), zup_ne (by omega)]) (e61 _)) ⟨g3.1, by rw [zup_ne (by omega), zup_ne (by omega)]; exact g3.2.1, by rw [e61]; exact g3.2.2.1, fun f' hf' => ?_⟩ (by rw [zup_ne (by omega), zup_ne (by omega), zup_ne (by omega), zup_ne (by omega)]; exact g4) (by rw [zup_ne (by omega), zup_ne (by omega), zup_ne (by omega), zup_ne (by omega)]; exact g5)
        rw [zup_ne (k' := 4 + f') (k := 68) (by omega), zup_ne (k' := 67) (by omega), zup_ne (k' := 67) (by omega), zup_eq, zup_ne (k' := 68) (by omega)]
        by_cases ef : f' = f
        · subst ef
          rw [zup_eq]
          exact ⟨kd, x, a, fo, ⟨by rw [up_ne _ _ (by decide)]; exact c1.1, c1.2⟩, ⟨up_eq _ _ _, hx, up_eq _ _ _⟩, ⟨by rw [up_ne _ _ (by decide)]; exact c3.1, c3.2.1, by rw [up_ne _ _ (by omega)]; exact c3.2.2⟩, ⟨by rw [up_ne _ _ (by decide)]; exact c4.1, c4.2.1, by rw [up_ne _ _ (by omega)]; exact c4.2.2⟩⟩
        · rw [zup_ne (k' := 4 + f') (by omega)]
          obtain ⟨kd, nu, a, fo, c1, c2, c3, c4⟩ := g3.2.2.2 f' hf'
          exact ⟨kd, nu, a, fo, c1, ⟨c2.1, c2.2.1, by rw [up_ne _ _ (by omega)]; exact c2.2.2⟩, ⟨c3.1, c3.2.1, by rw [up_ne _ _ (by omega)]; exact c3.2.2⟩, ⟨c4.1, c4.2.1, by rw [up_ne _ _ (by omega)]; exact c4.2.2⟩⟩
    | 5, _, _ =>
      obtain ⟨x, hx, rfl⟩ := vp_in_of (show vp_in v 8 from hv) (by decide)
      have o : zOff [4 + f, 68] μ (zup (zup μ (4 + f) 2 (nI x)) 68 (3 * f + 1) (nI x)) := (zOff.rf.up (by simp)).up (by simp)
      obtain ⟨kd, nu, a, fo, c1, c2, c3, c4⟩ := g3.2.2.2 f hf
      refine s_mset5 n g3.1 (by rw [zup_ne (by omega)]; exact g3.2.2.1) hf hv ⟨?_, zN o (by simp; omega) ?_⟩
      · show some (Value.int (zup μ (4 + f) 2 (nI x) 68 (3 * f + 1))) = some (Value.int (μ (4 + f) 2))
        rw [zup_ne (by omega), show μ 68 (3 * f + 1) = nI a from c3.2.2]; rw [c3.1]
      · have e61 : ∀ s, zup (zup μ (4 + f) 2 (nI x)) 68 (3 * f + 1) (nI x) 61 s = μ 61 s := fun s => by rw [zup_ne (by omega), zup_ne (by omega)]
        refine pR.g o (by simp; omega) (fun s _ _ _ => e61 s) g1 g6 g7 g8 g9 (fun _ _ => by rw [zup_ne (by omega), zup_ne (by omega)]) (Nat.le_refl _) (g2.fr (by rw [zup_ne (by omega), zup_ne (by omega)]) (e61 _)) ⟨g3.1, by rw [zup_ne (by omega), zup_ne (by omega)]; exact g3.2.1, by rw [e61]; exact g3.2.2.1, fun f' hf' => ?_⟩ (by rw [zup_ne (by omega), zup_ne (by omega), zup_ne (by omega), zup_ne (by omega)]; exact g4) (by rw [zup_ne (by omega), zup_ne (by omega), zup_ne (by omega), zup_ne (by omega)]; exact g5)
        rw [zup_ne (k' := 4 + f') (k := 68) (by omega), zup_ne (k' := 67) (by omega), zup_ne (k' := 67) (by omega), zup_eq, zup_ne (k' := 68) (by omega)]
        by_cases ef : f' = f
        · subst ef
          rw [zup_eq]
          exact ⟨kd, nu, x, fo, ⟨by rw [up_ne _ _ (by decide)]; exact c1.1, c1.2⟩, ⟨by rw [up_ne _ _ (by decide)]; exact c2.1, c2.2.1, by rw [up_ne _ _ (by omega)]; exact c2.2.2⟩, ⟨up_eq _ _ _, hx, up_eq _ _ _⟩, ⟨by rw [up_ne _ _ (by decide)]; exact c4.1, c4.2.1, by rw [up_ne _ _ (by omega)]; exact c4.2.2⟩⟩
        · rw [zup_ne (k' := 4 + f') (by omega)]
          obtain ⟨kd, nu, a, fo, c1, c2, c3, c4⟩ := g3.2.2.2 f' hf'
          exact ⟨kd, nu, a, fo, c1, ⟨c2.1, c2.2.1, by rw [up_ne _ _ (by omega)]; exact c2.2.2⟩, ⟨c3.1, c3.2.1, by rw [up_ne _ _ (by omega)]; exact c3.2.2⟩, ⟨c4.1, c4.2.1, by rw [up_ne _ _ (by omega)]; exact c4.2.2⟩⟩
    | 0, a, _ => omega
    | 1, a, _ => omega
    | 2, a, _ => omega
    | 3, a, _ => omega
    | c + 6, _, b => omega
set_option maxRecDepth 20000 in
theorem P_go {x on : Int32} {μ : zMu} {τ : Int64} (h : pR μ) : Zc 1 yX10_go cX10_go 5 (some .int) [.ref 0, .int x, .int on] μ τ (zPa 2 yX11_go cX11_go 4 [.int x, .int on] μ) := by
  obtain ⟨cnt, t, n, w, p, T, sz, g1, g2, g3, g4, g5, g6, g7, g8, g9⟩ := id h
  have hx := p_ok g1 g2 g3 g4
  have h5 := g3.1
  refine s_X_go hx.2.1 (fun hb => .s (s_mgoB n g3.1 g3.2.2.1 hb ⟨rfl, h.s0⟩)) (fun f q a hf hq ha e1 e2 ka hno => .s ?_) (fun f q a hf hq ha e1 e2 ka hye => .o (S := [4 + f]) zO1 (by simp; omega) ?_)
  · subst e1; subst e2
    obtain ⟨kd, nu, a2, fo, c1, c2, c3, c4⟩ := g3.2.2.2 f hf
    obtain rfl : a = a2 := (nI_eq (by omega) (by omega)).mp (ka.symm.trans c3.1)
    exact s_mgoS n g3.1 g3.2.2.1 hf hq c3.2.2 ha (by rw [(g5.1 a ha).2]; exact hno) ⟨rfl, h.s0⟩
  · subst e1; subst e2
    obtain ⟨kd, nu, a2, fo, c1, c2, c3, c4⟩ := g3.2.2.2 f hf
    obtain rfl : a = a2 := (nI_eq (by omega) (by omega)).mp (ka.symm.trans c3.1)
    have o : zOff [4 + f, 68] μ (zup (zup μ (4 + f) 2 (nI q)) 68 (3 * f + 1) (nI q)) := (zOff.rf.up (by simp)).up (by simp)
    refine s_mgo n g3.1 (by rw [zup_ne (by omega)]; exact g3.2.2.1) hf hq (by rw [zup_ne (by omega)]; exact c3.2.2) ha (by rw [zup_ne (by omega), (g5.1 a ha).2]; exact hye) ⟨rfl, zN o (by simp; omega) ?_⟩
    have e61 : ∀ s, zup (zup μ (4 + f) 2 (nI q)) 68 (3 * f + 1) (nI q) 61 s = μ 61 s := fun s => by rw [zup_ne (by omega), zup_ne (by omega)]
    refine pR.g o (by simp; omega) (fun s _ _ _ => e61 s) g1 g6 g7 g8 g9 (fun _ _ => by rw [zup_ne (by omega), zup_ne (by omega)]) (Nat.le_refl _) (g2.fr (by rw [zup_ne (by omega), zup_ne (by omega)]) (e61 _)) ⟨g3.1, by rw [zup_ne (by omega), zup_ne (by omega)]; exact g3.2.1, by rw [e61]; exact g3.2.2.1, fun f' hf' => ?_⟩ (by rw [zup_ne (by omega), zup_ne (by omega), zup_ne (by omega), zup_ne (by omega)]; exact g4) (by rw [zup_ne (by omega), zup_ne (by omega), zup_ne (by omega), zup_ne (by omega)]; exact g5)
    rw [zup_ne (k' := 4 + f') (k := 68) (by omega), zup_ne (k' := 67) (by omega), zup_ne (k' := 67) (by omega), zup_eq, zup_ne (k' := 68) (by omega)]
    by_cases ef : f' = f
    · subst ef
      rw [zup_eq]
      exact ⟨kd, nu, q, fo, ⟨by rw [up_ne _ _ (by decide)]; exact c1.1, c1.2⟩, ⟨by rw [up_ne _ _ (by decide)]; exact c2.1, c2.2.1, by rw [up_ne _ _ (by omega)]; exact c2.2.2⟩, ⟨up_eq _ _ _, hq, up_eq _ _ _⟩, ⟨by rw [up_ne _ _ (by decide)]; exact c4.1, c4.2.1, by rw [up_ne _ _ (by omega)]; exact c4.2.2⟩⟩
    · rw [zup_ne (k' := 4 + f') (by omega)]
      obtain ⟨kd, nu, a, fo, c1, c2, c3, c4⟩ := g3.2.2.2 f' hf'
      exact ⟨kd, nu, a, fo, c1, ⟨c2.1, c2.2.1, by rw [up_ne _ _ (by omega)]; exact c2.2.2⟩, ⟨c3.1, c3.2.1, by rw [up_ne _ _ (by omega)]; exact c3.2.2⟩, ⟨c4.1, c4.2.1, by rw [up_ne _ _ (by omega)]; exact c4.2.2⟩⟩
theorem pLn.on {g h : Nat → Int32} {a b : Nat} (hl : pLn g h) (ha : a < 8) (hb : b < 8) (hab : b ≠ a) : pLn (upd (upd g a (g a ||| q_bit b)) b (g b ||| q_bit a)) (upd (upd h a (h a ||| q_bit b)) b (h b ||| q_bit a)) := by
  have hv : ∀ q, upd (upd g a (g a ||| q_bit b)) b (g b ||| q_bit a) q = if q = b then g b ||| q_bit a else if q = a then g a ||| q_bit b else g q := fun q => rfl
  have hh : ∀ q, upd (upd h a (h a ||| q_bit b)) b (h b ||| q_bit a) q = if q = b then h b ||| q_bit a else if q = a then h a ||| q_bit b else h q := fun q => rfl
  have hq : ∀ p q, p < 8 → q < 8 → q_has (upd (upd g a (g a ||| q_bit b)) b (g b ||| q_bit a) p) q = (q_has (g p) q || (decide (p = b) && decide (q = a)) || (decide (p = a) && decide (q = b))) := fun p q hp hq => by
    rw [hv p]
    by_cases e1 : p = b
    · subst e1
      rw [if_pos rfl, q_has_or (hl.1 p hp).1 (r8_bit a ha) hq, q_has_bit q hq a ha]
      simp [hab]
    · rw [if_neg e1]
      by_cases e2 : p = a
      · subst e2
        rw [if_pos rfl, q_has_or (hl.1 p hp).1 (r8_bit b hb) hq, q_has_bit q hq b hb]
        simp [e1]
      · rw [if_neg e2]; simp [e1, e2]
  refine ⟨fun q hq8 => ⟨?_, ?_⟩, fun p q hp hq8 => ?_⟩
  · rw [hv q]
    split
    · exact r8_or (hl.1 b hb).1 (r8_bit a ha)
    · split
      · exact r8_or (hl.1 a ha).1 (r8_bit b hb)
      · exact (hl.1 q hq8).1
  · rw [hv q, hh q, (hl.1 a ha).2, (hl.1 b hb).2, (hl.1 q hq8).2]
  · rw [hq p q hp hq8, hq q p hq8 hp, hl.2 p q hp hq8]
    cases q_has (g q) p <;> simp [Bool.and_comm, Bool.or_comm]
theorem pLn.off {g h : Nat → Int32} {a b : Nat} (hl : pLn g h) (ha : a < 8) (hb : b < 8) (hab : b ≠ a) : pLn (upd (upd g a (g a &&& (q_bit b ^^^ (-1)))) b (g b &&& (q_bit a ^^^ (-1)))) (upd (upd h a (h a &&& (q_bit b ^^^ (-1)))) b (h b &&& (q_bit a ^^^ (-1)))) := by
  have hv : ∀ q, upd (upd g a (g a &&& (q_bit b ^^^ (-1)))) b (g b &&& (q_bit a ^^^ (-1))) q = if q = b then g b &&& (q_bit a ^^^ (-1)) else if q = a then g a &&& (q_bit b ^^^ (-1)) else g q := fun q => rfl
  have hh : ∀ q, upd (upd h a (h a &&& (q_bit b ^^^ (-1)))) b (h b &&& (q_bit a ^^^ (-1))) q = if q = b then h b &&& (q_bit a ^^^ (-1)) else if q = a then h a &&& (q_bit b ^^^ (-1)) else h q := fun q => rfl
  have hq : ∀ p q, p < 8 → q < 8 → q_has (upd (upd g a (g a &&& (q_bit b ^^^ (-1)))) b (g b &&& (q_bit a ^^^ (-1))) p) q = (q_has (g p) q && !(decide (p = b) && decide (q = a)) && !(decide (p = a) && decide (q = b))) := fun p q hp hq => by
    rw [hv p]
    by_cases e1 : p = b
    · subst e1
      rw [if_pos rfl, q_has_andn (hl.1 p hp).1 (r8_bit a ha) hq, q_has_bit q hq a ha]
      simp [hab]
    · rw [if_neg e1]
      by_cases e2 : p = a
      · subst e2
        rw [if_pos rfl, q_has_andn (hl.1 p hp).1 (r8_bit b hb) hq, q_has_bit q hq b hb]
        simp [e1]
      · rw [if_neg e2]; simp [e1, e2]
  refine ⟨fun q hq8 => ⟨?_, ?_⟩, fun p q hp hq8 => ?_⟩
  · rw [hv q]
    split
    · exact r8_and (hl.1 b hb).1
    · split
      · exact r8_and (hl.1 a ha).1
      · exact (hl.1 q hq8).1
  · rw [hv q, hh q, (hl.1 a ha).2, (hl.1 b hb).2, (hl.1 q hq8).2]
  · rw [hq p q hp hq8, hq q p hq8 hp, hl.2 p q hp hq8]
    cases q_has (g q) p <;> simp [Bool.and_comm, Bool.or_comm]
theorem zup2_row (μ : zMu) (k a b : Nat) (x y : Int32) : zup (zup μ k a x) k b y k = upd (upd (μ k) a x) b y := by rw [zup_eq, zup_eq]
set_option maxRecDepth 20000 in
theorem P_lane {one other on : Int32} {μ : zMu} {τ : Int64} (h : pR μ) : Zc 1 yX10_lane cX10_lane 5 (some .int) [.ref 0, .int one, .int other, .int on] μ τ (zPa 2 yX11_lane cX11_lane 5 [.int one, .int other, .int on] μ) := by
  obtain ⟨cnt, t, n, w, p, T, sz, g1, g2, g3, g4, g5, g6, g7, g8, g9⟩ := id h
  refine s_X_lane (fun hb => .s (s_mlaneB hb ⟨rfl, h.s0⟩)) (fun a b ha hb hab e1 e2 e3 => .o (S := [2]) ((zOff.rf.up (by simp)).up (by simp)) (by simp) ?_) (fun a b ha hb hab e1 e2 e3 => .o (S := [2]) ((zOff.rf.up (by simp)).up (by simp)) (by simp) ?_)
  · subst e1; subst e2; subst e3
    have o : zOff [2, 66] μ (zup (zup (zup (zup μ 2 a (μ 2 a ||| (1 <<< (nI b &&& 31)))) 2 b (μ 2 b ||| (1 <<< (nI a &&& 31)))) 66 a (μ 66 a ||| (1 <<< (nI b &&& 31)))) 66 b (μ 66 b ||| (1 <<< (nI a &&& 31)))) := (((zOff.rf.up (by simp)).up (by simp)).up (by simp)).up (by simp)
    refine s_mlane1 ha hb hab ⟨?_, zN o (by simp) ?_⟩
    · show some (Value.int ((μ 66 a >>> (nI b &&& 31)) &&& 1)) = _
      rw [(g5.1 a ha).2]
    · refine pR.g o (by simp) (fun _ _ _ _ => rfl) g1 g6 g7 g8 g9 (fun _ _ => rfl) (Nat.le_refl _) (g2.fr rfl rfl) (g3.fr rfl rfl (fun k a b => by rw [zup_ne (by omega), zup_ne (by omega), zup_ne (by omega), zup_ne (by omega)]) rfl rfl) (show pDu _ _ w p T from g4) ?_
      rw [zup2_row, zup_ne (by decide), zup_ne (by decide), zup2_row, zup_ne (by decide), zup_ne (by decide)]
      exact g5.on ha hb hab
  · subst e1; subst e2; subst e3
    have o : zOff [2, 66] μ (zup (zup (zup (zup μ 2 a (μ 2 a &&& ((1 <<< (nI b &&& 31)) ^^^ (-1)))) 2 b (μ 2 b &&& ((1 <<< (nI a &&& 31)) ^^^ (-1)))) 66 a (μ 66 a &&& ((1 <<< (nI b &&& 31)) ^^^ (-1)))) 66 b (μ 66 b &&& ((1 <<< (nI a &&& 31)) ^^^ (-1)))) := (((zOff.rf.up (by simp)).up (by simp)).up (by simp)).up (by simp)
    refine s_mlane0 ha hb hab ⟨?_, zN o (by simp) ?_⟩
    · show some (Value.int ((μ 66 a >>> (nI b &&& 31)) &&& 1)) = _
      rw [(g5.1 a ha).2]
    · refine pR.g o (by simp) (fun _ _ _ _ => rfl) g1 g6 g7 g8 g9 (fun _ _ => rfl) (Nat.le_refl _) (g2.fr rfl rfl) (g3.fr rfl rfl (fun k a b => by rw [zup_ne (by omega), zup_ne (by omega), zup_ne (by omega), zup_ne (by omega)]) rfl rfl) (show pDu _ _ w p T from g4) ?_
      rw [zup2_row, zup_ne (by decide), zup_ne (by decide), zup2_row, zup_ne (by decide), zup_ne (by decide)]
      exact g5.off ha hb hab
