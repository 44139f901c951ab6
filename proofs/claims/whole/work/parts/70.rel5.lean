theorem pDu.cp {g h g' h' : Nat → Int32} {w p T : Nat} (hd : pDu g h w p T) (h1 : ∀ j, 2 ≤ j → j < 8 → g' j = g j) (h2 : ∀ j, j < 4 → h' j = h j) : pDu g' h' w p T := by
  unfold pDu
  rw [h1 3 (by omega) (by omega), h1 4 (by omega) (by omega), h1 5 (by omega) (by omega), h1 6 (by omega) (by omega), h2 0 (by omega), h2 1 (by omega), h2 2 (by omega), h2 3 (by omega)]
  exact hd
theorem pLn.cp {g h g' h' : Nat → Int32} (hd : pLn g h) (h1 : ∀ j, j < 8 → g' j = g j) (h2 : ∀ j, j < 8 → h' j = h j) : pLn g' h' :=
  ⟨fun q hq => by rw [h1 q hq, h2 q hq]; exact hd.1 q hq, fun p q hp hq => by rw [h1 p hp, h1 q hq]; exact hd.2 p q hp hq⟩
theorem pF.cp {g k r g' k' r' : Nat → Int32} {f : Nat} (hd : pF g k r f) (hf : f < 5) (h1 : ∀ j, j < 4 → g' j = g j) (h2 : k' f = k f) (h3 : ∀ j, j < 15 → r' j = r j) : pF g' k' r' f := by
  unfold pF
  rw [h1 0 (by omega), h1 1 (by omega), h1 2 (by omega), h1 3 (by omega), h2, h3 (3 * f) (by omega), h3 (3 * f + 1) (by omega), h3 (3 * f + 2) (by omega)]
  exact hd
theorem pR.sh {μ μ2 : zMu} (h : pR μ) (ho : ∀ k, k < 19 ∨ (20 < k ∧ k < 43) ∨ (61 < k ∧ k < 69) ∨ (70 < k ∧ k < 74) ∨ 77 < k → μ2 k = μ k) (hs : ∀ s, s < 12 ∨ 30 < s → μ2 61 s = μ 61 s) (h8 : ∀ i, i < 4 → pSh μ2 i) (h9 : x_tl μ2) : zNx μ μ2 := by
  obtain ⟨cnt, t, n, w, p, T, sz, g1, g2, g3, g4, g5, g6, g7, g8, _⟩ := h
  refine ⟨⟨cnt, t, n, w, p, T, sz, g1.fr (by rw [ho 17 (by omega)]) (hs 3 (by omega)) (fun k a b => ho k (by omega)) (ho 62 (by omega)) (ho 63 (by omega)), g2.fr (by rw [ho 1 (by omega)]) (hs 4 (by omega)), g3.fr (by rw [ho 1 (by omega)]) (hs 11 (by omega)) (fun k a b => ho k (by omega)) (ho 67 (by omega)) (ho 68 (by omega)), by rw [ho 1 (by omega), ho 65 (by omega)]; exact g4, by rw [ho 2 (by omega), ho 66 (by omega)]; exact g5, g6.fr (by rw [ho 39 (by omega)]) (hs 6 (by omega)) (ho 40 (by omega)) (ho 64 (by omega)), g7.fr (by rw [ho 0 (by omega)]) (hs 34 (by omega)) (hs 35 (by omega)) (fun k a b => ho k (by omega)) (fun f _ => by rw [ho 67 (by omega)]) (ho 71 (by omega)) (ho 72 (by omega)) (ho 73 (by omega)), h8, h9⟩, ho 90 (by omega), ho 91 (by omega)⟩
set_option maxRecDepth 20000 in
theorem P_image {μ : zMu} {τ : Int64} (h : pR μ) : Zc 2 yX10_image cX10_image 1 (some .int) [.ref 0] μ τ (zPa 0 yX11_image cX11_image 2 [] μ) := by
  obtain ⟨cnt, t, n, w, p, T, sz, g1, g2, g3, g4, g5, g6, g7, g8, g9⟩ := id h
  have h5 := g3.1
  refine s_X_image (fun μa oa b1 b2 b3 => ?_)
  have o1 : zOff [0, 9, 10, 12, 13, 14, 15, 16] μ (zup μa 0 9 1) := (oa.sub (by simp)).up (by simp)
  refine .o o1 (by simp) ?_
  refine s_mimage (fun μ2 o2 c1 c2 c3 c4 c5 c6 => ⟨?_, ?_⟩)
  · show some (Value.int (zup μa 0 9 1 61 11)) = _
    rw [o1 61 (by simp), g3.2.1, g3.2.2.1]
  · have ho : ∀ k, ¬ (k = 0 ∨ (9 ≤ k ∧ k < 17) ∨ k = 61 ∨ k = 71 ∨ k = 72 ∨ k = 73) → μ2 k = μ k := fun k hk => by rw [o2 k (by simp; omega), o1 k (by simp; omega)]
    have hs : ∀ s, s ≠ 34 → s ≠ 35 → μ2 61 s = μ 61 s := fun s a b => by rw [c6 s a b, o1 61 (by simp)]
    have hlo : ∀ k, k < 61 → μ2 k = zup μa 0 9 1 k := fun k hk => o2 k (by simp; omega)
    refine ⟨⟨cnt, t, n, w, p, T, sz, g1.fr (by rw [ho 17 (by omega)]) (hs 3 (by omega) (by omega)) (fun k a b => ho k (by omega)) (ho 62 (by omega)) (ho 63 (by omega)), g2.fr (by rw [ho 1 (by omega)]) (hs 4 (by omega) (by omega)), g3.fr (by rw [ho 1 (by omega)]) (hs 11 (by omega) (by omega)) (fun k a b => ho k (by omega)) (ho 67 (by omega)) (ho 68 (by omega)), by rw [ho 1 (by omega), ho 65 (by omega)]; exact g4, by rw [ho 2 (by omega), ho 66 (by omega)]; exact g5, g6.fr (by rw [ho 39 (by omega)]) (hs 6 (by omega) (by omega)) (ho 40 (by omega)) (ho 64 (by omega)), ?_, fun i hi => (g8 i hi).fr (ho _ (by omega)) (ho _ (by omega)) (by rw [ho 74 (by omega)]) (by rw [ho 75 (by omega)]) (by rw [ho 76 (by omega)]) (fun j _ => by rw [ho 77 (by omega)]), g9.fr (ho 48 (by omega))⟩, ho 90 (by omega), ho 91 (by omega)⟩
    refine Or.inr ⟨?_, n, w, p, T, t, Nat.le_refl _, h5, ?_, ?_, g4.cp (fun j a b => ?_) (fun j a => ?_), ⟨?_, ?_, g2.2.2⟩, g5.cp (fun j a => ?_) (fun j a => ?_), fun f hf => (g3.2.2.2 f hf).cp (by omega) (fun j a => ?_) ?_ (fun j a => ?_)⟩
    · rw [hlo 0 (by omega), zup_eq, up_eq]; decide
    · rw [hlo 9 (by omega), zup_ne (by decide), b3 2 (by omega) (by omega)]; exact g3.2.1
    · rw [c4, o1 61 (by simp)]; exact g3.2.2.1
    · rw [hlo 9 (by omega), zup_ne (by decide), b3 j a b]
    · rw [c1 j a, o1 65 (by simp)]
    · rw [hlo 9 (by omega), zup_ne (by decide), b3 7 (by omega) (by omega)]; exact g2.1
    · rw [c5, o1 61 (by simp)]; exact g2.2.1
    · rw [hlo 10 (by omega), zup_ne (by decide), b1 j a]
    · rw [c2 j a, o1 66 (by simp)]
    · rw [hlo (12 + f) (by omega), zup_ne (by omega), b2 f (by omega) j a]
    · rw [ho 67 (by omega)]
    · rw [c3 j a, o1 68 (by simp)]
set_option maxRecDepth 20000 in
theorem P_back {μ : zMu} {τ : Int64} (h : pR μ) : Zc 2 yX10_back cX10_back 1 (some .int) [.ref 0] μ τ (zPa 0 yX11_back cX11_back 2 [] μ) := by
  obtain ⟨cnt, t, n, w, p, T, sz, g1, g2, g3, g4, g5, g6, g7, g8, g9⟩ := id h
  have h5 := g3.1
  rcases id g7 with ⟨a1, a2⟩ | ⟨a1, n', w', p', T', t', d0, d1, d2, d3, d4, ⟨d5, d6, d7⟩, d8, d9⟩
  · exact s_X_back (fun _ => .s (s_mbackS a2 ⟨rfl, h.s0⟩)) (fun _ _ _ _ _ hne => absurd a1 hne)
  · refine s_X_back (fun e => absurd e a1) (fun μ1 o1 b1 b2 b3 _ => .o o1 (by simp) ?_)
    refine s_mback (by rw [o1 61 (by simp), d3]; exact nI_m1 (by omega)) (fun μ2 o2 c1 c2 c3 c4 c5 c6 => ⟨?_, ?_⟩)
    · show some (Value.int (μ1 61 34)) = _
      rw [o1 61 (by simp), d3, d2]
    · have ho : ∀ k, ¬ (k = 1 ∨ k = 2 ∨ (4 ≤ k ∧ k < 9) ∨ k = 61 ∨ k = 65 ∨ k = 66 ∨ k = 68) → μ2 k = μ k := fun k hk => by rw [o2 k (by simp; omega), o1 k (by simp; omega)]
      have hs : ∀ s, s ≠ 11 → s ≠ 4 → μ2 61 s = μ 61 s := fun s a b => by rw [c6 s a b, o1 61 (by simp)]
      have hlo : ∀ k, k < 61 → μ2 k = μ1 k := fun k hk => o2 k (by simp; omega)
      refine ⟨⟨cnt, t', n', w', p', T', sz, g1.fr (by rw [ho 17 (by omega)]) (hs 3 (by omega) (by omega)) (fun k a b => ho k (by omega)) (ho 62 (by omega)) (ho 63 (by omega)), ⟨?_, ?_, d7⟩, ⟨by omega, ?_, ?_, fun f hf => (d9 f hf).cp (by omega) (fun j a => ?_) ?_ (fun j a => ?_)⟩, d4.cp (fun j a b => ?_) (fun j a => ?_), d8.cp (fun j a => ?_) (fun j a => ?_), g6.fr (by rw [ho 39 (by omega)]) (hs 6 (by omega) (by omega)) (ho 40 (by omega)) (ho 64 (by omega)), ?_, fun i hi => (g8 i hi).fr (ho _ (by omega)) (ho _ (by omega)) (by rw [ho 74 (by omega)]) (by rw [ho 75 (by omega)]) (by rw [ho 76 (by omega)]) (fun j _ => by rw [ho 77 (by omega)]), g9.fr (ho 48 (by omega))⟩, ho 90 (by omega), ho 91 (by omega)⟩
      · rw [hlo 1 (by omega), b3 7 (by omega) (by omega)]; exact d5
      · rw [c5, o1 61 (by simp)]; exact d6
      · rw [hlo 1 (by omega), b3 2 (by omega) (by omega)]; exact d2
      · rw [c4, o1 61 (by simp)]; exact d3
      · rw [hlo (4 + f) (by omega), b2 f (by omega) j a]
      · rw [ho 67 (by omega)]
      · rw [c3 j a, o1 73 (by simp)]
      · rw [hlo 1 (by omega), b3 j a b]
      · rw [c1 j a, o1 71 (by simp)]
      · rw [hlo 2 (by omega), b1 j a]
      · rw [c2 j a, o1 72 (by simp)]
      · have g7' : pIm μ cnt n' := Or.inr ⟨a1, n', w', p', T', t', Nat.le_refl _, by omega, d2, d3, d4, ⟨d5, d6, d7⟩, d8, d9⟩
        exact g7'.fr (by rw [ho 0 (by omega)]) (hs 34 (by omega) (by omega)) (hs 35 (by omega) (by omega)) (fun k a b => ho k (by omega)) (fun f _ => by rw [ho 67 (by omega)]) (ho 71 (by omega)) (ho 72 (by omega)) (ho 73 (by omega))
set_option maxRecDepth 20000 in
theorem P_sheet {s so m : Int32} {μ : zMu} {τ : Int64} (h : pR μ) : Zc 2 yX10_sheet cX10_sheet 4 (some .int) [.ref 0, .int s, .int so, .int m] μ τ (zPa 2 yX11_sheet cX11_sheet 5 [.int s, .int so, .int m] μ) := by
  obtain ⟨cnt, t, n, w, p, T, sz, g1, g2, g3, g4, g5, g6, g7, g8, g9⟩ := id h
  refine s_X_sheet (fun hb => .s (s_msheetB hb ⟨rfl, h.s0⟩)) (fun i hi e e2 μ1 o1 b1 b2 b3 => .o o1 (by simp; omega) ?_) (fun i hi e h1 h2 hb => .s ?_) (fun i hi e h1 h2 hb => .s ?_) (fun i k hi hk e h1 h2 e3 μ1 o1 b1 b2 b3 => .o o1 (by simp; omega) ?_)
  · subst e; subst e2
    refine s_msheetM hi ⟨rfl, ?_⟩
    have o2 : zOff [53 + 2 * i, 54 + 2 * i, 74, 75, 76] μ (zup (zup (zup μ1 74 i 0) 75 i (-1)) 76 i m) := (((o1.sub (by simp)).up (by simp)).up (by simp)).up (by simp)
    have e74 : (zup (zup (zup μ1 74 i 0) 75 i (-1)) 76 i m) 74 = upd (μ 74) i 0 := by rw [zup_ne (by decide), zup_ne (by decide), zup_eq, o1 74 (by simp; omega)]
    have e75 : (zup (zup (zup μ1 74 i 0) 75 i (-1)) 76 i m) 75 = upd (μ 75) i (-1) := by rw [zup_ne (by decide), zup_eq, zup_ne (by decide), o1 75 (by simp; omega)]
    have e76 : (zup (zup (zup μ1 74 i 0) 75 i (-1)) 76 i m) 76 = upd (μ 76) i m := by rw [zup_eq, zup_ne (by decide), zup_ne (by decide), o1 76 (by simp; omega)]
    have elo : ∀ k, k < 61 → (zup (zup (zup μ1 74 i 0) 75 i (-1)) 76 i m) k = μ1 k := fun k hk => by rw [zup_ne (by omega), zup_ne (by omega), zup_ne (by omega)]
    refine h.sh (fun k hk => o2 k (by simp; omega)) (fun s _ => by rw [o2 61 (by simp; omega)]) (fun i' hi' => ?_) (g9.fr (o2 48 (by simp; omega)))
    by_cases ei : i' = i
    · subst ei
      refine Or.inl ⟨by rw [elo _ (by omega)]; exact b1, by rw [e74, up_eq], 0, by omega, by rw [elo _ (by omega)]; exact b2⟩
    · exact (g8 i' hi').fr (o2 _ (by simp; omega)) (o2 _ (by simp; omega)) (by rw [e74, up_ne _ _ ei]) (by rw [e75, up_ne _ _ ei]) (by rw [e76, up_ne _ _ ei]) (fun j _ => by rw [o2 77 (by simp; omega)])
  · subst e
    exact s_msheetG hi h1 h2 hb ⟨rfl, h.s0⟩
  · subst e
    exact s_msheetN hi h1 h2 hb ⟨rfl, h.s0⟩
  · subst e; subst e3
    refine s_msheet hi hk h1 h2 (fun μ2 o2 c1 c2 => ⟨rfl, ?_⟩)
    have oa : zOff [53 + 2 * i, 54 + 2 * i, 74, 75, 76] μ (zup (zup (zup μ1 74 i 1) 75 i so) 76 i (nI k)) := (((o1.sub (by simp)).up (by simp)).up (by simp)).up (by simp)
    have o3 : ∀ q, q ≠ 53 + 2 * i → q ≠ 54 + 2 * i → ¬ (74 ≤ q ∧ q < 78) → μ2 q = μ q := fun q a b c => by rw [o2 q (by simp; omega), oa q (by simp; omega)]
    have e74 : μ2 74 = upd (μ 74) i 1 := by rw [o2 74 (by simp), zup_ne (by decide), zup_ne (by decide), zup_eq, o1 74 (by simp; omega)]
    have e75 : μ2 75 = upd (μ 75) i so := by rw [o2 75 (by simp), zup_ne (by decide), zup_eq, zup_ne (by decide), o1 75 (by simp; omega)]
    have e76 : μ2 76 = upd (μ 76) i (nI k) := by rw [o2 76 (by simp), zup_eq, zup_ne (by decide), zup_ne (by decide), o1 76 (by simp; omega)]
    have elo : ∀ q, q < 61 → μ2 q = μ1 q := fun q hq => by rw [o2 q (by simp; omega), zup_ne (by omega), zup_ne (by omega), zup_ne (by omega)]
    have e77 : μ1 77 = μ 77 := o1 77 (by simp; omega)
    obtain ⟨so', hso, rfl⟩ := vp_in_of (x := so) (n := 3) (vp_in_iff.mpr ⟨h1, h2⟩) (by decide)
    refine h.sh (fun q hq => o3 q (by omega) (by omega) (by omega)) (fun s _ => by rw [o3 61 (by omega) (by omega) (by omega)]) (fun i' hi' => ?_) (g9.fr (o3 48 (by omega) (by omega) (by omega)))
    by_cases ei : i' = i
    · subst ei
      exact Or.inr ⟨so', k, hso, hk, by rw [elo _ (by omega)]; exact b1, by rw [e74, up_eq], by rw [e75, up_eq], by rw [elo _ (by omega)]; exact b2, by rw [e76, up_eq], fun j hj => by rw [c1 j hj, elo _ (by omega), b3 j (by omega)]⟩
    · exact (g8 i' hi').fr (o3 _ (by omega) (by omega) (by omega)) (o3 _ (by omega) (by omega) (by omega)) (by rw [e74, up_ne _ _ ei]) (by rw [e75, up_ne _ _ ei]) (by rw [e76, up_ne _ _ ei]) (fun j hj => by rw [c2 _ (by omega), e77])
set_option maxRecDepth 20000 in
theorem P_cell {s x v : Int32} {μ : zMu} {τ : Int64} (h : pR μ) : Zc 2 yX10_cell cX10_cell 5 (some .int) [.ref 0, .int s, .int x, .int v] μ τ (zPa 2 yX11_cell cX11_cell 4 [.int s, .int x, .int v] μ) := by
  obtain ⟨cnt, t, n, w, p, T, sz, g1, g2, g3, g4, g5, g6, g7, g8, g9⟩ := id h
  refine s_X_cell (fun i hi => (g8 i hi).k) (fun hb => .s (s_mcellB hb ⟨rfl, h.s0⟩)) (fun i hi e hno => .s ?_) (fun i k hi e hon hk hout => .s ?_) (fun i k j hi hk40 e hon hk hj e2 => .o (S := [54 + 2 * i]) zO1 (by simp; omega) ?_)
  · subst e
    exact s_mcellN hi ((g8 i hi).no hno) ⟨rfl, h.s0⟩
  · subst e
    obtain ⟨so2, k2, b1, b2, b3, b4, b5, b6, b7, b8⟩ := (g8 i hi).on hon
    have hkk : k2 ≤ k := by
      rcases Nat.lt_or_ge k (2 ^ 31) with hlt | hge
      · exact Nat.le_of_eq ((nI_eq hlt (by omega)).mp (hk.symm.trans b6)).symm
      · omega
    have hout2 : ¬ vp_in x k2 := fun e => hout (by
      rw [vp_in_iff] at e ⊢
      omega)
    exact s_mcellO hi b4 b7 b2 hout2 ⟨rfl, h.s0⟩
  · subst e; subst e2
    obtain ⟨so2, k2, b1, b2, b3, b4, b5, b6, b7, b8⟩ := (g8 i hi).on hon
    obtain rfl : k = k2 := (nI_eq (by omega) (by omega)).mp (hk.symm.trans b6)
    have o2 : zOff [54 + 2 * i, 77] μ (zup (zup μ (54 + 2 * i) j (q_cut (μ (53 + 2 * i) 1) v)) 77 (40 * i + j) (q_cut (nI so2) v)) := (zOff.rf.up (by simp)).up (by simp)
    refine s_mcell (so := nI so2) hi (by rw [zup_ne (by omega)]; exact b4) (by rw [zup_ne (by omega)]; exact b5) (by rw [zup_ne (by omega)]; exact b7) b2 hj ⟨rfl, ?_⟩
    refine h.sh (fun q hq => o2 q (by simp; omega)) (fun s _ => by rw [o2 61 (by simp; omega)]) (fun i' hi' => ?_) (g9.fr (o2 48 (by simp; omega)))
    have e77 : ∀ q, (zup (zup μ (54 + 2 * i) j (q_cut (μ (53 + 2 * i) 1) v)) 77 (40 * i + j) (q_cut (nI so2) v)) 77 q = if q = 40 * i + j then q_cut (nI so2) v else μ 77 q := fun q => by
      rw [zup_eq, zup_ne (by omega)]; rfl
    by_cases ei : i' = i
    · subst ei
      have e54 : (zup (zup μ (54 + 2 * i') j (q_cut (μ (53 + 2 * i') 1) v)) 77 (40 * i' + j) (q_cut (nI so2) v)) (54 + 2 * i') = upd (μ (54 + 2 * i')) j (q_cut (μ (53 + 2 * i') 1) v) := by rw [zup_ne (by omega), zup_eq]
      refine Or.inr ⟨so2, k, b1, b2, by rw [o2 (53 + 2 * i') (by simp; omega)]; exact b3, by rw [o2 74 (by simp; omega)]; exact b4, by rw [o2 75 (by simp; omega)]; exact b5, by rw [o2 (53 + 2 * i') (by simp; omega)]; exact b6, by rw [o2 76 (by simp; omega)]; exact b7, fun q hq => ?_⟩
      rw [e77, e54]
      by_cases eq : q = j
      · subst eq; rw [if_pos rfl, up_eq, b3]
      · rw [if_neg (by omega), up_ne _ _ eq]; exact b8 q hq
    · exact (g8 i' hi').fr (o2 _ (by simp; omega)) (o2 _ (by simp; omega)) (by rw [o2 74 (by simp; omega)]) (by rw [o2 75 (by simp; omega)]) (by rw [o2 76 (by simp; omega)]) (fun q hq => by rw [e77, if_neg (by omega)])
set_option maxRecDepth 20000 in
theorem P_copy {s i o j m : Int32} {μ : zMu} {τ : Int64} (h : pR μ) : Zc 1 yX10_copy cX10_copy 8 (some .int) [.ref 0, .int s, .int i, .int o, .int j, .int m] μ τ (zPa 2 yX11_copy cX11_copy 9 [.int s, .int i, .int o, .int j, .int m] μ) := by
  obtain ⟨cnt, t, n, w, p, T, sz, g1, g2, g3, g4, g5, g6, g7, g8, g9⟩ := id h
  refine s_X_copy (fun i hi => (g8 i hi).k) (fun hb => .s (s_mcopyB hb ⟨rfl, h.s0⟩)) (fun a b ha hb e1 e2 hno => .s ?_) (fun a b ha hb e1 e2 h1 h2 hun => .s ?_) (fun a b ka kb ha hb e1 e2 h1 h2 hun k1 k2 k3 k4 hout => .s ?_) (fun a b ka kb ii jj nn ha hb e1 e2 h1 h2 hun k1 k2 k3 k4 e3 e4 e5 hi hj => .o (S := [54 + 2 * b]) (zOff.rf.ar (by simp)) (by simp; omega) ?_)
  · subst e1; subst e2
    exact s_mcopyN ha hb (hno.imp (fun e => (g8 a ha).no e) (fun e => (g8 b hb).no e)) ⟨rfl, h.s0⟩
  · subst e1; subst e2
    obtain ⟨so1, ka, a1, a2, a3, a4, a5, a6, a7, a8⟩ := (g8 a ha).on h1
    obtain ⟨so2, kb, b1, b2, b3, b4, b5, b6, b7, b8⟩ := (g8 b hb).on h2
    exact s_mcopyU ha hb a4 b4 (by rw [a5, b5, ← a3, ← b3]; exact hun) ⟨rfl, h.s0⟩
  · subst e1; subst e2
    obtain ⟨so1, ka2, a1, a2, a3, a4, a5, a6, a7, a8⟩ := (g8 a ha).on h1
    obtain ⟨so2, kb2, b1, b2, b3, b4, b5, b6, b7, b8⟩ := (g8 b hb).on h2
    obtain rfl : ka = ka2 := (nI_eq (by omega) (by omega)).mp (k1.symm.trans a6)
    obtain rfl : kb = kb2 := (nI_eq (by omega) (by omega)).mp (k2.symm.trans b6)
    exact s_mcopyO ha hb a4 b4 (by rw [a5, b5, ← a3, ← b3]; exact hun) a7 b7 a2 b2 hout ⟨rfl, h.s0⟩
  · subst e1; subst e2; subst e3; subst e4; subst e5
    obtain ⟨so1, ka2, a1, a2, a3, a4, a5, a6, a7, a8⟩ := (g8 a ha).on h1
    obtain ⟨so2, kb2, b1, b2, b3, b4, b5, b6, b7, b8⟩ := (g8 b hb).on h2
    obtain rfl : ka = ka2 := (nI_eq (by omega) (by omega)).mp (k1.symm.trans a6)
    obtain rfl : kb = kb2 := (nI_eq (by omega) (by omega)).mp (k2.symm.trans b6)
    have o1 : zOff [54 + 2 * b] μ (zar μ (54 + 2 * b) (va_cpy (μ (54 + 2 * a)) (μ (54 + 2 * b)) ii jj nn)) := zOff.rf.ar (by simp)
    have e54 : (zar μ (54 + 2 * b) (va_cpy (μ (54 + 2 * a)) (μ (54 + 2 * b)) ii jj nn)) (54 + 2 * b) = va_cpy (μ (54 + 2 * a)) (μ (54 + 2 * b)) ii jj nn := if_pos rfl
    generalize zar μ (54 + 2 * b) (va_cpy (μ (54 + 2 * a)) (μ (54 + 2 * b)) ii jj nn) = μ1 at o1 e54
    refine s_mcopy ha hb (by rw [o1 74 (by simp; omega)]; exact a4) (by rw [o1 74 (by simp; omega)]; exact b4) (by rw [o1 75 (by simp; omega), a5, b5, ← a3, ← b3]; exact hun) (by rw [o1 76 (by simp; omega)]; exact a7) (by rw [o1 76 (by simp; omega)]; exact b7) a2 b2 hi hj (fun μ2 o2 c1 c2 => ⟨rfl, ?_⟩)
    have o3 : ∀ q, q ≠ 54 + 2 * b → q ≠ 77 → μ2 q = μ q := fun q x y => by rw [o2 q (by simp; omega), o1 q (by simp; omega)]
    have e77 : μ1 77 = μ 77 := o1 77 (by simp; omega)
    refine h.sh (fun q hq => o3 q (by omega) (by omega)) (fun s _ => by rw [o3 61 (by omega) (by omega)]) (fun i' hi' => ?_) (g9.fr (o3 48 (by omega) (by omega)))
    by_cases ei : i' = b
    · subst ei
      refine Or.inr ⟨so2, kb, b1, b2, by rw [o3 _ (by omega) (by omega)]; exact b3, by rw [o3 _ (by omega) (by omega)]; exact b4, by rw [o3 _ (by omega) (by omega)]; exact b5, by rw [o3 _ (by omega) (by omega)]; exact b6, by rw [o3 _ (by omega) (by omega)]; exact b7, fun q hq => ?_⟩
      rw [o2 (54 + 2 * i') (by simp; omega), e54]
      unfold va_cpy
      by_cases hq2 : jj ≤ q ∧ q < jj + nn
      · rw [if_pos hq2, show 40 * i' + q = 40 * i' + jj + (q - jj) by omega, c1 (q - jj) (by omega), e77, show 40 * a + ii + (q - jj) = 40 * a + (ii + (q - jj)) by omega]
        exact a8 _ (by omega)
      · rw [if_neg hq2, c2 _ (by omega), e77]
        exact b8 q hq
    · exact (g8 i' hi').fr (o3 _ (by omega) (by omega)) (o3 _ (by omega) (by omega)) (by rw [o3 74 (by omega) (by omega)]) (by rw [o3 75 (by omega) (by omega)]) (by rw [o3 76 (by omega) (by omega)]) (fun q hq => by rw [c2 _ (by omega), e77])
set_option maxRecDepth 20000 in
theorem P_film {s z m : Int32} {μ : zMu} {τ : Int64} (h : pR μ) : Zc 5 yX10_film cX10_film 6 (some .int) [.ref 0, .int s, .int z, .int m] μ τ (zPa 45 yX11_film cX11_film 8 [.int s, .int z, .int m] μ) := by
  obtain ⟨cnt, t, n, w, p, T, sz, g1, g2, g3, g4, g5, g6, g7, g8, g9⟩ := id h
  have hx := p_ok g1 g2 g3 g4
  have hc := p_cx g1 g2 g3 g4 g5
  refine s_X_film hx g4.2.2.1.1 g4.2.2.1.2.1 (fun hb => .s (s_mfilmB hb ⟨rfl, h.s0⟩)) (fun a m0 ha hm e1 e2 μ1 o1 b1 b2 b3 => .o o1 (by simp; omega) ?_)
  subst e1; subst e2
  refine s_mfilm (C := x_C μ t n) ha hm g4.1.2.1 (hc.x (fun q hq => o1 q (by simp; omega)) (fun q x y => o1 q (by simp; omega))) (by rw [o1 65 (by simp; omega)]; exact g4.2.2.1.2.2) g4.2.2.1.2.1 (fun μ2 τ2 o2 c1 c2 c3 c4 c5 => ⟨rfl, ?_⟩)
  have o3 : ∀ q, ¬ (q = 19 ∨ q = 20 ∨ q = 51 ∨ q = 53 + 2 * a ∨ q = 54 + 2 * a ∨ q = 61 ∨ (74 ≤ q ∧ q < 78)) → μ2 q = μ q := fun q hq => by rw [o2.fr (by omega) (by simp; omega), o1 q (by simp; omega)]
  have elo : ∀ q, q < 61 → μ2 q = μ1 q := fun q hq => o2.fr (by omega) (by simp; omega)
  refine h.sh (fun q hq => o3 q (by omega)) (fun s hs => ?_) (fun i' hi' => ?_) (g9.fr (o3 48 (by omega)))
  · rw [o2.2 s (hs.elim Or.inl (fun e => Or.inr ⟨by omega, fun q => by omega, fun q => by omega⟩)), o1 61 (by simp; omega)]
  · by_cases ei : i' = a
    · subst ei
      exact Or.inr ⟨0, m0, by omega, by omega, by rw [elo _ (by omega)]; exact b1, by rw [c1, up_eq], by rw [c2, up_eq]; rfl, by rw [elo _ (by omega)]; exact b2, by rw [c3, up_eq], fun q hq => by rw [c4 q hq, elo _ (by omega), b3 q hq]; rfl⟩
    · exact (g8 i' hi').fr (o3 _ (by omega)) (o3 _ (by omega)) (by rw [c1, up_ne _ _ ei, o1 74 (by simp; omega)]) (by rw [c2, up_ne _ _ ei, o1 75 (by simp; omega)]) (by rw [c3, up_ne _ _ ei, o1 76 (by simp; omega)]) (fun q hq => by rw [c5 _ (by omega), o1 77 (by simp; omega)])
theorem min9 : ∀ fo, fo ≤ 999 → q_min9 (nI fo + 1) = (if nI fo = 999 then 999 else nI fo + 1) ∧ ∃ fo', fo' ≤ 999 ∧ q_min9 (nI fo + 1) = nI fo' := by
  intro fo h
  unfold q_min9
  by_cases e : fo = 999
  · subst e
    exact ⟨by decide, 999, Nat.le_refl _, by decide⟩
  · have h1 : nI fo + 1 = nI (fo + 1) := nI_1 fo
    have h2 : ¬ (999 : Int32) < nI fo + 1 := by rw [h1]; exact nI_nlt (b := fo + 1) (a := 999) (by omega) (by omega)
    have h3 : ¬ nI fo = 999 := fun q => e ((nI_eq (b := 999) (by omega) (by omega)).mp q)
    rw [if_neg h2, if_neg h3]
    exact ⟨rfl, fo + 1, by omega, h1⟩
set_option maxRecDepth 20000 in
theorem P_week {z : Int32} {μ : zMu} {τ : Int64} (h : pR μ) : Zc 4 yX10_week cX10_week 4 (some .int) [.ref 0, .int z] μ τ (zPa 45 yX11_week cX11_week 5 [.int z] μ) := by
  obtain ⟨cnt, t, n, w, p, T, sz, g1, g2, g3, g4, g5, g6, g7, g8, g9⟩ := id h
  have hx := p_ok g1 g2 g3 g4
  have hc := p_cx g1 g2 g3 g4 g5
  have h5 := g3.1
  have hT := g4.2.2.2
  have hp := g4.2.2.1.2.1
  refine s_X_week hx g4.2.2.1.1 hp (fun e => .s (s_mweekS (by rw [g4.1.2.2, e]; rfl) ⟨rfl, h.s0⟩)) (fun hw hsr μ1 k1 b1 b2 b3 => ⟨⟨_, rfl⟩, k1.1 90 (zSW_lt (by omega)) (by omega), k1.1 91 (zSW_lt (by omega)) (by omega), ?_⟩) (fun hw f hf hsr μ1 k1 b1 b2 => ⟨⟨_, rfl⟩, by rw [zup_ne (by omega), zup_ne (by omega)]; exact k1.1 90 (zSW_lt (by omega)) (by omega), by rw [zup_ne (by omega), zup_ne (by omega)]; exact k1.1 91 (zSW_lt (by omega)) (by omega), ?_⟩)
  · have e65 : μ1 65 = μ 65 := k1.1 65 (zSW_lt (by omega)) (by omega)
    refine s_mweek (C := x_C μ t n) (hc.x (fun q hq => k1.1 q (zSW_lt (by omega)) (by omega)) (fun q x y => k1.1 q (zSW_lt (by omega)) (by omega))) hw (by rw [e65]; exact g4.2.2.1.2.2) hp (by rw [e65]; exact ⟨T, hT.2.1, hT.2.2⟩) (fun hs2 μ2 τ2 k2 c0 c2 c3 => ⟨rfl, ?_⟩) (fun f2 hf2 hs2 => absurd (hs2.symm.trans hsr) (nI_m1 (by have hf3 : f2 < n := hf2; omega)))
    have ho : ∀ q, ¬ (q = 1 ∨ q = 61 ∨ q = 65) → q ∉ zSW → μ2 q = μ q := fun q hq hz => by rw [k2.1.fr (by omega) (by simp; omega), k1.1 q hz (by omega)]
    have hs : ∀ s, s < 12 ∨ 30 < s → μ2 61 s = μ 61 s := fun s hs => by rw [k2.1.2 s (hs.elim Or.inl (fun e => Or.inr ⟨by omega, fun q => by omega, fun q => by omega⟩)), k1.1 61 (zSW_lt (by omega)) (by omega)]
    have e1 : μ2 1 = μ1 1 := k2.1.fr (by omega) (by simp)
    rw [e65] at c3
    have hr : r8 (q_spread (c_mv (x_C μ t n) w) (μ 65 3) &&& (c_wt (x_C μ t n) (w + 1) ^^^ (-1))) := r8_and (r8_spread (fun q hq => r8_mv _ w hq) _)
    obtain ⟨T2, hT2, eT2⟩ := hr
    have e6 : μ 1 6 = μ 65 3 := hT.1.trans hT.2.2.symm
    rw [e6] at b3
    have b3' : μ1 1 6 = nI T2 := b3.trans eT2
    refine ⟨⟨cnt, t, n, w + 1, c_dp (x_C μ t n) z w p, T2, sz, g1.fr (by rw [ho 17 (by omega) (zSW_lt (by omega))]) (hs 3 (by omega)) (fun k x y => ho k (by omega) (zSW_lt (by omega))) (ho 62 (by omega) (zSW_lt (by omega))) (ho 63 (by omega) (zSW_lt (by omega))), g2.fr (by rw [e1, k1.2 7 (by omega) (by omega) (by omega)]) (hs 4 (by omega)), g3.fr (by rw [e1, k1.2 2 (by omega) (by omega) (by omega)]) (hs 11 (by omega)) (fun k x y => ho k (by omega) (zSW_lt (by omega))) (ho 67 (by omega) (zSW_lt (by omega))) (ho 68 (by omega) (zSW_lt (by omega))), ⟨⟨by rw [e1]; exact b1, by omega, c0⟩, ?_, ⟨by rw [e1]; exact b2, c_dp_lt hp, c2⟩, ⟨by rw [e1]; exact b3', hT2, c3.trans eT2⟩⟩, by rw [ho 2 (by omega) (zSW_lt (by omega)), ho 66 (by omega) (zSW_lt (by omega))]; exact g5, g6.fr (by rw [ho 39 (by omega) (zSW_lt (by omega))]) (hs 6 (by omega)) (ho 40 (by omega) (zSW_lt (by omega))) (ho 64 (by omega) (zSW_lt (by omega))), g7.fr (by rw [ho 0 (by omega) (zSW_lt (by omega))]) (hs 34 (by omega)) (hs 35 (by omega)) (fun k x y => ho k (by omega) (zSW_lt (by omega))) (fun f _ => by rw [ho 67 (by omega) (zSW_lt (by omega))]) (ho 71 (by omega) (zSW_lt (by omega))) (ho 72 (by omega) (zSW_lt (by omega))) (ho 73 (by omega) (zSW_lt (by omega))), fun i hi => (g8 i hi).fr (ho _ (by omega) (zSW_lt (by omega))) (ho _ (by omega) (zSW_lt (by omega))) (by rw [ho 74 (by omega) (zSW_lt (by omega))]) (by rw [ho 75 (by omega) (zSW_lt (by omega))]) (by rw [ho 76 (by omega) (zSW_lt (by omega))]) (fun j _ => by rw [ho 77 (by omega) (zSW_lt (by omega))]), ?_⟩, ho 90 (by omega) (zSW_lt (by omega)), ho 91 (by omega) (zSW_lt (by omega))⟩
    · rw [k2.2 1 (by omega) (by omega) (by omega), e65, e1, k1.2 4 (by omega) (by omega) (by omega)]; exact g4.2.1
    · exact g9.fr (ho 48 (by omega) (zSW_lt (by omega)))
  · obtain ⟨kd, nu, a, fo, d1, d2, d3, d4⟩ := g3.2.2.2 f hf
    have hm9 := min9 fo d4.2.1
    rw [d4.1]
    have ef : ∀ q, q ≠ 4 + f → q ≠ 1 → zup (zup μ1 (4 + f) 3 (q_min9 (nI fo + 1))) 1 6 (q_bit (q_dp (xs μ t) (μ 2) (μ 1 4) z w p)) q = μ1 q := fun q x y => by rw [zup_ne y, zup_ne x]
    have e65 : μ1 65 = μ 65 := k1.1 65 (zSW_lt (by omega)) (by omega)
    have hhi : ∀ q, 61 ≤ q → zup (zup μ1 (4 + f) 3 (q_min9 (nI fo + 1))) 1 6 (q_bit (q_dp (xs μ t) (μ 2) (μ 1 4) z w p)) q = μ q := fun q hq => by rw [ef q (by omega) (by omega), k1.1 q (zSW_lt (by omega)) (by omega)]
    have e1a : zup (zup μ1 (4 + f) 3 (q_min9 (nI fo + 1))) 1 6 (q_bit (q_dp (xs μ t) (μ 2) (μ 1 4) z w p)) 1 = upd (μ1 1) 6 (q_bit (q_dp (xs μ t) (μ 2) (μ 1 4) z w p)) := by rw [zup_eq, zup_ne (by omega)]
    have e4a : zup (zup μ1 (4 + f) 3 (q_min9 (nI fo + 1))) 1 6 (q_bit (q_dp (xs μ t) (μ 2) (μ 1 4) z w p)) (4 + f) = upd (μ (4 + f)) 3 (q_min9 (nI fo + 1)) := by rw [zup_ne (by omega), zup_eq, k1.1 (4 + f) (zSW_lt (by omega)) (by omega)]
    generalize zup (zup μ1 (4 + f) 3 (q_min9 (nI fo + 1))) 1 6 (q_bit (q_dp (xs μ t) (μ 2) (μ 1 4) z w p)) = μf at ef hhi e1a e4a
    refine s_mweek (C := x_C μ t n) (hc.x hhi (fun q x y => by rw [ef q (by omega) (by omega), k1.1 q (zSW_lt (by omega)) (by omega)])) hw (by rw [hhi 65 (by omega)]; exact g4.2.2.1.2.2) hp (by rw [hhi 65 (by omega)]; exact ⟨T, hT.2.1, hT.2.2⟩) (fun hs2 => absurd (hsr.symm.trans hs2) (nI_m1 (by omega))) (fun f2 hf2 hs2 μ2 τ2 k2 c0 c2 => ?_)
    obtain rfl : f = f2 := (nI_eq (by omega) (by have hf3 : f2 < n := hf2; omega)).mp (hsr.symm.trans hs2)
    refine ⟨rfl, ?_⟩
    have e68 : μf 68 (3 * f + 2) = nI fo := by rw [hhi 68 (by omega)]; exact d4.2.2
    rw [e68, ← hm9.1]
    obtain ⟨fo', hfo', efo'⟩ := hm9.2
    have hlo : ∀ q, q < 61 → zup (zup μ2 68 (3 * f + 2) (q_min9 (nI fo + 1))) 65 3 (q_bit (c_dp (x_C μ t n) z w p)) q = μf q := fun q hq => by rw [zup_ne (by omega), zup_ne (by omega), k2.1.fr (by omega) (by simp; omega)]
    have ho : ∀ q, ¬ (q = 1 ∨ q = 4 + f ∨ q = 61 ∨ q = 65 ∨ q = 68) → q ∉ zSW → zup (zup μ2 68 (3 * f + 2) (q_min9 (nI fo + 1))) 65 3 (q_bit (c_dp (x_C μ t n) z w p)) q = μ q := fun q hq hz => by
      rw [zup_ne (by omega), zup_ne (by omega), k2.1.fr (by omega) (by simp; omega), ef q (by omega) (by omega), k1.1 q hz (by omega)]
    have hs : ∀ s, s < 12 ∨ 30 < s → zup (zup μ2 68 (3 * f + 2) (q_min9 (nI fo + 1))) 65 3 (q_bit (c_dp (x_C μ t n) z w p)) 61 s = μ 61 s := fun s hs => by
      rw [zup_ne (by omega), zup_ne (by omega), k2.1.2 s (hs.elim Or.inl (fun e => Or.inr ⟨by omega, fun q => by omega, fun q => by omega⟩)), hhi 61 (by omega)]
    have z65 : zup (zup μ2 68 (3 * f + 2) (q_min9 (nI fo + 1))) 65 3 (q_bit (c_dp (x_C μ t n) z w p)) 65 = upd (μ2 65) 3 (q_bit (c_dp (x_C μ t n) z w p)) := by rw [zup_eq, zup_ne (by omega)]
    have z68 : zup (zup μ2 68 (3 * f + 2) (q_min9 (nI fo + 1))) 65 3 (q_bit (c_dp (x_C μ t n) z w p)) 68 = upd (μ 68) (3 * f + 2) (q_min9 (nI fo + 1)) := by rw [zup_ne (by omega), zup_eq, k2.1.fr (by omega) (by simp), hhi 68 (by omega)]
    have z1 : zup (zup μ2 68 (3 * f + 2) (q_min9 (nI fo + 1))) 65 3 (q_bit (c_dp (x_C μ t n) z w p)) 1 = upd (μ1 1) 6 (q_bit (c_dp (x_C μ t n) z w p)) := by rw [hlo 1 (by omega), e1a]; rfl
    have z4 : zup (zup μ2 68 (3 * f + 2) (q_min9 (nI fo + 1))) 65 3 (q_bit (c_dp (x_C μ t n) z w p)) (4 + f) = upd (μ (4 + f)) 3 (q_min9 (nI fo + 1)) := by rw [hlo (4 + f) (by omega), e4a]
    generalize zup (zup μ2 68 (3 * f + 2) (q_min9 (nI fo + 1))) 65 3 (q_bit (c_dp (x_C μ t n) z w p)) = μ3 at hlo ho hs z65 z68 z1 z4
    obtain ⟨T2, hT2, eT2⟩ := r8_bit (c_dp (x_C μ t n) z w p) (c_dp_lt hp)
    refine ⟨⟨cnt, t, n, w + 1, c_dp (x_C μ t n) z w p, T2, sz, g1.fr (by rw [ho 17 (by omega) (zSW_lt (by omega))]) (hs 3 (by omega)) (fun k x y => ho k (by omega) (zSW_lt (by omega))) (ho 62 (by omega) (zSW_lt (by omega))) (ho 63 (by omega) (zSW_lt (by omega))), g2.fr (by rw [z1, up_ne _ _ (by decide), k1.2 7 (by omega) (by omega) (by omega)]) (hs 4 (by omega)), ⟨h5, by rw [z1, up_ne _ _ (by decide), k1.2 2 (by omega) (by omega) (by omega)]; exact g3.2.1, by rw [hs 11 (by omega)]; exact g3.2.2.1, fun f' hf' => ?_⟩, ⟨⟨by rw [z1, up_ne _ _ (by decide)]; exact b1, by omega, by rw [z65, up_ne _ _ (by decide)]; exact c0⟩, ?_, ⟨by rw [z1, up_ne _ _ (by decide)]; exact b2, c_dp_lt hp, by rw [z65, up_ne _ _ (by decide)]; exact c2⟩, ⟨by rw [z1, up_eq]; exact eT2, hT2, by rw [z65, up_eq]; exact eT2⟩⟩, by rw [ho 2 (by omega) (zSW_lt (by omega)), ho 66 (by omega) (zSW_lt (by omega))]; exact g5, g6.fr (by rw [ho 39 (by omega) (zSW_lt (by omega))]) (hs 6 (by omega)) (ho 40 (by omega) (zSW_lt (by omega))) (ho 64 (by omega) (zSW_lt (by omega))), g7.fr (by rw [ho 0 (by omega) (zSW_lt (by omega))]) (hs 34 (by omega)) (hs 35 (by omega)) (fun k x y => ho k (by omega) (zSW_lt (by omega))) (fun f _ => by rw [ho 67 (by omega) (zSW_lt (by omega))]) (ho 71 (by omega) (zSW_lt (by omega))) (ho 72 (by omega) (zSW_lt (by omega))) (ho 73 (by omega) (zSW_lt (by omega))), fun i hi => (g8 i hi).fr (ho _ (by omega) (zSW_lt (by omega))) (ho _ (by omega) (zSW_lt (by omega))) (by rw [ho 74 (by omega) (zSW_lt (by omega))]) (by rw [ho 75 (by omega) (zSW_lt (by omega))]) (by rw [ho 76 (by omega) (zSW_lt (by omega))]) (fun j _ => by rw [ho 77 (by omega) (zSW_lt (by omega))]), g9.fr (ho 48 (by omega) (zSW_lt (by omega)))⟩, ho 90 (by omega) (zSW_lt (by omega)), ho 91 (by omega) (zSW_lt (by omega))⟩
    · rw [ho 67 (by omega) (zSW_lt (by omega)), z68]
      by_cases ef' : f' = f
      · subst ef'
        rw [z4]
        exact ⟨kd, nu, a, fo', ⟨by rw [up_ne _ _ (by decide)]; exact d1.1, d1.2⟩, ⟨by rw [up_ne _ _ (by decide)]; exact d2.1, d2.2.1, by rw [up_ne _ _ (by omega)]; exact d2.2.2⟩, ⟨by rw [up_ne _ _ (by decide)]; exact d3.1, d3.2.1, by rw [up_ne _ _ (by omega)]; exact d3.2.2⟩, ⟨by rw [up_eq]; exact efo', hfo', by rw [up_eq]; exact efo'⟩⟩
      · obtain ⟨kd, nu, a, fo, d1, d2, d3, d4⟩ := g3.2.2.2 f' hf'
        rw [ho (4 + f') (by omega) (zSW_lt (by omega))]
        exact ⟨kd, nu, a, fo, d1, ⟨d2.1, d2.2.1, by rw [up_ne _ _ (by omega)]; exact d2.2.2⟩, ⟨d3.1, d3.2.1, by rw [up_ne _ _ (by omega)]; exact d3.2.2⟩, ⟨d4.1, d4.2.1, by rw [up_ne _ _ (by omega)]; exact d4.2.2⟩⟩
    · rw [z65, up_ne _ _ (by decide), k2.2 1 (by omega) (by omega) (by omega), hhi 65 (by omega), z1, up_ne _ _ (by decide), k1.2 4 (by omega) (by omega) (by omega)]; exact g4.2.1
