def m_say (μ : zMu) (t : Nat) : zSy := fun c nm => if c < 3 then (match d_read (m_b μ t) nm (μ 63 t).toNatClampNeg with
  | .inl _ => false
  | .inr r => decide (q_p3 r c ≠ 0)) else xs μ t c nm
def m_tx (μ : zMu) (t : Nat) : Prop := ∃ n, n ≤ 160 ∧ μ 63 t = nI n ∧ k_by (m_b μ t) n ∧ ∀ nm, ∃ r, d_read (m_b μ t) nm n = .inr r
/-- only the reference's scratch, and the rows of a list -/
def nK (S : List Nat) (s : Nat) : Prop := s < 12 ∨ (26 < s ∧ (s = 29 → 129 ∉ S) ∧ (s = 30 → 130 ∉ S))
theorem nK.mono {S S' : List Nat} {s : Nat} (h : nK S' s) (hs : ∀ k ∈ S, k ∈ S') : nK S s := h.imp id (fun e => ⟨e.1, fun q m => e.2.1 q (hs _ m), fun q m => e.2.2 q (hs _ m)⟩)
theorem nK.c {S : List Nat} {s k : Nat} (h : nK S s) (h1 : k ≠ 129) (h2 : k ≠ 130) : nK (k :: S) s := h.imp id (fun e => ⟨e.1, fun q m => (List.mem_cons.mp m).elim (fun e2 => h1 e2.symm) (e.2.1 q), fun q m => (List.mem_cons.mp m).elim (fun e2 => h2 e2.symm) (e.2.2 q)⟩)
theorem nK.ar {S : List Nat} {s : Nat} (h : nK S s) : s < 12 ∨ 26 < s := h.imp id (fun e => e.1)
def nOff (S : List Nat) (μ μ' : zMu) : Prop := zOff (61 :: S) μ μ' ∧ ∀ s, nK S s → μ' 61 s = μ 61 s
theorem nOff.refl (S : List Nat) (μ : zMu) : nOff S μ μ := ⟨fun _ _ => rfl, fun _ _ => rfl⟩
theorem nOff.tr {S : List Nat} {a b c : zMu} (h : nOff S a b) (h' : nOff S b c) : nOff S a c := ⟨h.1.tr h'.1, fun s hs => (h'.2 s hs).trans (h.2 s hs)⟩
theorem nOff.up {S : List Nat} {a b : zMu} {j : Nat} {x : Int32} (h : nOff S a b) (hj : 12 ≤ j ∧ j ≤ 26) : nOff S a (zup b 61 j x) := by
  refine ⟨fun k hk => ?_, fun s hs => ?_⟩
  · have hk' : k ≠ 61 := by simp at hk; omega
    rw [zup_ne hk']
    exact h.1 k hk
  · rw [zup_eq]
    have hq := hs.ar
    have e : upd (b 61) j x s = b 61 s := if_neg (by omega)
    rw [e]
    exact h.2 s hs
theorem nOff.up2 {S : List Nat} {a b : zMu} {j : Nat} {x : Int32} (h : nOff S a b) (hj : (j = 29 ∧ 129 ∈ S) ∨ (j = 30 ∧ 130 ∈ S)) : nOff S a (zup b 61 j x) := by
  refine ⟨fun k hk => ?_, fun s hs => ?_⟩
  · rw [zup_ne (fun e => by subst e; simp at hk)]
    exact h.1 k hk
  · rw [zup_eq]
    have e : upd (b 61) j x s = b 61 s := if_neg (fun e => by
      subst e
      rcases hs with q | ⟨_, q1, q2⟩
      · omega
      · rcases hj with ⟨e, m⟩ | ⟨e, m⟩
        · exact q1 e m
        · exact q2 e m)
    rw [e]
    exact h.2 s hs
theorem nOff.R {S : List Nat} {a b c : zMu} (h : nOff S a b) (h' : mR b c) : nOff S a c := ⟨fun k hk => (h'.1 k (by simp at hk ⊢; omega)).trans (h.1 k hk), fun s hs => (h'.2 s (by have := hs.ar; omega)).trans (h.2 s hs)⟩
theorem nOff.sub {S S' : List Nat} {a b : zMu} (h : nOff S a b) (hs : ∀ k ∈ S, k ∈ S') : nOff S' a b := ⟨h.1.sub (fun k hk => by
  rcases List.mem_cons.mp hk with e | e
  · exact e ▸ List.mem_cons_self ..
  · exact List.mem_cons_of_mem _ (hs k e)), fun s q => h.2 s (q.mono hs)⟩
theorem m_say_off {μ μ' : zMu} {t : Nat} {S : List Nat} (h : zOff S μ μ') (h62 : 62 ∉ S) (h63 : 63 ∉ S) (h22 : 22 + 3 * t ∉ S) (h23 : 23 + 3 * t ∉ S) : m_say μ' t = m_say μ t := by
  funext c nm
  have e1 : m_b μ' t = m_b μ t := by unfold m_b; rw [h 62 h62]
  have e2 : xs μ' t c nm = xs μ t c nm := by unfold xs xsay; rw [h _ h22, h _ h23]
  unfold m_say
  rw [e1, e2, h 63 h63]
theorem m_tx_off {μ μ' : zMu} {t : Nat} {S : List Nat} (h : zOff S μ μ') (h62 : 62 ∉ S) (h63 : 63 ∉ S) (hx : m_tx μ t) : m_tx μ' t := by
  have e1 : m_b μ' t = m_b μ t := by unfold m_b; rw [h 62 h62]
  unfold m_tx
  rw [e1, h 63 h63]
  exact hx
/-! the count of bits -/
theorem m_low : ∀ a, a < 256 → a ≠ 0 → (nI a &&& (nI a - 1)) = nI (a &&& (a - 1)) ∧ (a &&& (a - 1)) < a ∧ pop8 a = pop8 (a &&& (a - 1)) + 1 := by decide +kernel
theorem pop8_0 : pop8 0 = 0 := by decide
set_option maxRecDepth 20000 in
theorem l_bits {Q : zQ} {μ : zMu} {τ : Int64} {x0 : Int32} {R : Nat} (h : Q (some (.int (nI R))) μ τ) : ∀ m a k, a < m → a < 256 → k + pop8 a = R → Zw 0 RX11 cX11_bitsOf 3 (some .int) Q 4 [.int x0, .int (nI k), .int (nI a)] [] μ τ
  | 0, a, k, hm, _, _ => absurd hm (by omega)
  | m + 1, a, k, hm, ha, hk => by
    refine Zw_iload_2 dX11_bitsOf_4 ?_
    refine Zw_nif_eq (a) 20 dX11_bitsOf_5 (by decide) rfl (by omega) (fun c5 => ?_) (fun c5 => ?_)
    · refine Zw_iload_1 dX11_bitsOf_20 ?_
      refine Zw_ireturn dX11_bitsOf_21 (by first | rfl | assumption) ?_
      rw [c5, pop8_0] at hk
      rw [show k = R by omega]
      exact h
    · refine Zw_iinc_1 dX11_bitsOf_8 rfl (zincn _) ?_
      refine Zw_iload_2 dX11_bitsOf_11 ?_
      refine Zw_iload_2 dX11_bitsOf_12 ?_
      refine Zw_iconst (v := 1) dX11_bitsOf_13 (by decide) ?_
      refine Zw_isub dX11_bitsOf_14 ?_
      refine Zw_iand dX11_bitsOf_15 ?_
      refine Zw_istore_2 dX11_bitsOf_16 rfl ?_
      refine Zw_goto 4 dX11_bitsOf_17 (by decide) ?_
      have hl := m_low a ha c5
      rw [hl.1]
      exact l_bits h m _ (k + 1) (by omega) (by omega) (by omega)
set_option maxRecDepth 20000 in
theorem s_bits {x : Int32} {Q : zQ} {μ : zMu} {τ : Int64} (hx : r8 x) (h : Q (some (.int (q_bc x))) μ τ) : Zc 0 yX11_bitsOf cX11_bitsOf 3 (some .int) [.int x] μ τ Q := by
  refine Zc.mk 2 [.int x, .null, .null] rfl (by decide) (Nat.le_of_ble_eq_true rfl) ?_
  obtain ⟨a, ha, rfl⟩ := hx
  refine Zw_iconst (v := 0) dX11_bitsOf_0 (by decide) ?_
  refine Zw_istore_1 dX11_bitsOf_1 rfl ?_
  refine Zw_iload_0 dX11_bitsOf_2 ?_
  refine Zw_istore_2 dX11_bitsOf_3 rfl ?_
  rw [q_bc_pop a ha] at h
  refine Zw_drop (L' := [.int (nI a), .int (nI 0), .int (nI a)]) ⟨Or.inr rfl, Or.inr rfl, Or.inr rfl, trivial⟩ (Nat.le_of_ble_eq_true rfl) ?_
  exact l_bits h 256 a 0 (by omega) ha (by omega)
set_option maxRecDepth 20000 in
theorem s_m_says0 {t p : Nat} {to nu : Int32} {Q : zQ} {μ : zMu} {τ : Int64} (h4 : μ 61 4 = nI t) (ht : t < 6) (hx : m_tx μ t) (hp : p < 8) (hl : r8 (μ 66 p)) (h1 : m_say μ t 0 (q_env (nI p) to (μ 65 0) nu (q_bc (μ 66 p)) (μ 65 1)) = true → ∀ μ2 τ2, nOff [] μ μ2 → Q (some (.int 1)) μ2 τ2) (h0 : m_say μ t 0 (q_env (nI p) to (μ 65 0) nu (q_bc (μ 66 p)) (μ 65 1)) = false → ∀ μ2 τ2, nOff [] μ μ2 → Q (some (.int 0)) μ2 τ2) : Zc 42 yX11_says cX11_says 5 (some .boolean) [.ref 61, .int 0, .int (nI p), .int to, .int nu] μ τ Q := by
  refine Zc.mk 0 [.ref 61, .int 0, .int (nI p), .int to, .int nu] rfl (by decide) (Nat.le_of_ble_eq_true rfl) ?_
  obtain ⟨n, hn, hn63, hby, hall⟩ := hx
  refine Zw_aload_0 dX11_says_0 ?_
  refine Zw_iload_2 dX11_says_1 ?_
  refine Zw_put lp_X11_181 dX11_says_2 (by first | decide | assumption | omega) (by first | rfl | assumption) (by rfl) (by first | rfl | assumption) (by first | rfl | assumption) ?_
  refine Zw_aload_0 dX11_says_5 ?_
  refine Zw_iload_3 dX11_says_6 ?_
  refine Zw_put lp_X11_184 dX11_says_7 (by first | decide | assumption | omega) (by first | rfl | assumption) (by rfl) (by first | rfl | assumption) (by first | rfl | assumption) ?_
  refine Zw_aload_0 dX11_says_10 ?_
  refine Zw_aload_0 dX11_says_11 ?_
  refine Zw_getr 65 lf_X11_23 dX11_says_12 (by first | decide | assumption | omega) (by first | rfl | assumption) (by rfl) ?_
  refine Zw_iconst (v := 0) dX11_says_15 (by decide) ?_
  refine Zw_ialdn (0) dX11_says_16 (by first | decide | assumption | omega) (by first | rfl | assumption) rfl (by omega) (by decide) ?_
  refine Zw_put lp_X11_187 dX11_says_17 (by first | decide | assumption | omega) (by first | rfl | assumption) (by rfl) (by first | rfl | assumption) (by first | rfl | assumption) ?_
  refine Zw_aload_0 dX11_says_20 ?_
  refine Zw_iload_4 dX11_says_21 ?_
  refine Zw_put lp_X11_190 dX11_says_23 (by first | decide | assumption | omega) (by first | rfl | assumption) (by rfl) (by first | rfl | assumption) (by first | rfl | assumption) ?_
  refine Zw_aload_0 dX11_says_26 ?_
  refine Zw_aload_0 dX11_says_27 ?_
  refine Zw_getr 66 lf_X11_26 dX11_says_28 (by first | decide | assumption | omega) (by first | rfl | assumption) (by rfl) ?_
  refine Zw_iload_2 dX11_says_31 ?_
  refine Zw_ialdn (p) dX11_says_32 (by first | decide | assumption | omega) (by first | rfl | assumption) rfl (by omega) (by decide) ?_
  refine Zw_S1 (k := 0) lm_X11_329 dX11_says_33 (by decide) (Nat.le_of_ble_eq_true rfl) ?_
  refine s_bits hl ?_
  refine Zw_put lp_X11_193 dX11_says_36 (by first | decide | assumption | omega) (by first | rfl | assumption) (by rfl) (by first | rfl | assumption) (by first | rfl | assumption) ?_
  refine Zw_aload_0 dX11_says_39 ?_
  refine Zw_aload_0 dX11_says_40 ?_
  refine Zw_getr 65 lf_X11_23 dX11_says_41 (by first | decide | assumption | omega) (by first | rfl | assumption) (by rfl) ?_
  refine Zw_iconst (v := 1) dX11_says_44 (by decide) ?_
  refine Zw_ialdn (1) dX11_says_45 (by first | decide | assumption | omega) (by first | rfl | assumption) rfl (by omega) (by decide) ?_
  refine Zw_put lp_X11_196 dX11_says_46 (by first | decide | assumption | omega) (by first | rfl | assumption) (by rfl) (by first | rfl | assumption) (by first | rfl | assumption) ?_
  refine Zw_aload_0 dX11_says_49 ?_
  refine Zw_aload_0 dX11_says_50 ?_
  refine Zw_getv (nI t) lf_X11_107 dX11_says_51 (by first | decide | assumption | omega) (by first | rfl | assumption) (by rfl) h4 ?_
  refine Zw_iload_1 dX11_says_54 ?_
  refine Zw_V2 (k := 41) lm_X11_326 dX11_says_55 (by decide) (by first | decide | assumption | omega) (by first | rfl | assumption) (by rfl) (Nat.le_of_ble_eq_true rfl) ?_
  have hO : nOff [] μ (zup (zup (zup (zup (zup (zup μ 61 12 (nI p)) 61 13 to) 61 14 (μ 65 0)) 61 15 nu) 61 16 (q_bc (μ 66 p))) 61 17 (μ 65 1)) := (((((nOff.refl [] μ).up (by omega)).up (by omega)).up (by omega)).up (by omega) |>.up (by omega)).up (by omega)
  refine s_read0 (n := n) (b := m_b μ t) (nm := (q_env (nI p) to (μ 65 0) nu (q_bc (μ 66 p)) (μ 65 1))) ht hn63 hn rfl hby (fun j hj => by match j, hj with | 0, _ => rfl | 1, _ => rfl | 2, _ => rfl | 3, _ => rfl | 4, _ => rfl | 5, _ => rfl | j + 6, hj => exact absurd hj (by omega)) (fun f v μ2 τ2 e1 _ _ _ => by obtain ⟨r, hr⟩ := hall (q_env (nI p) to (μ 65 0) nu (q_bc (μ 66 p)) (μ 65 1)); rw [hr] at e1; cases e1) (fun r μ2 τ2 e1 o1 _ => ?_)
  have hs : m_say μ t 0 (q_env (nI p) to (μ 65 0) nu (q_bc (μ 66 p)) (μ 65 1)) = decide (q_p3 r 0 ≠ 0) := by unfold m_say; rw [if_pos (by decide), hn63, nI_clamp (by omega), e1]
  refine Zw_if_eq 65 dX11_says_58 (by decide) (fun c58 => ?_) (fun c58 => ?_)
  · refine Zw_iconst (v := 0) dX11_says_65 (by decide) ?_
    refine Zw_ireturn dX11_says_66 (by first | rfl | assumption) ?_
    exact h0 (by rw [hs]; exact decide_eq_false (fun q => q c58)) μ2 τ2 (hO.R o1)
  · refine Zw_iconst (v := 1) dX11_says_61 (by decide) ?_
    refine Zw_goto 66 dX11_says_62 (by decide) ?_
    refine Zw_ireturn dX11_says_66 (by first | rfl | assumption) ?_
    exact h1 (by rw [hs]; exact decide_eq_true c58) μ2 τ2 (hO.R o1)
set_option maxRecDepth 20000 in
theorem s_m_says1 {t p : Nat} {to nu : Int32} {Q : zQ} {μ : zMu} {τ : Int64} (h4 : μ 61 4 = nI t) (ht : t < 6) (hx : m_tx μ t) (hp : p < 8) (hl : r8 (μ 66 p)) (h1 : m_say μ t 1 (q_env (nI p) to (μ 65 0) nu (q_bc (μ 66 p)) (μ 65 1)) = true → ∀ μ2 τ2, nOff [] μ μ2 → Q (some (.int 1)) μ2 τ2) (h0 : m_say μ t 1 (q_env (nI p) to (μ 65 0) nu (q_bc (μ 66 p)) (μ 65 1)) = false → ∀ μ2 τ2, nOff [] μ μ2 → Q (some (.int 0)) μ2 τ2) : Zc 42 yX11_says cX11_says 5 (some .boolean) [.ref 61, .int 1, .int (nI p), .int to, .int nu] μ τ Q := by
  refine Zc.mk 0 [.ref 61, .int 1, .int (nI p), .int to, .int nu] rfl (by decide) (Nat.le_of_ble_eq_true rfl) ?_
  obtain ⟨n, hn, hn63, hby, hall⟩ := hx
  refine Zw_aload_0 dX11_says_0 ?_
  refine Zw_iload_2 dX11_says_1 ?_
  refine Zw_put lp_X11_181 dX11_says_2 (by first | decide | assumption | omega) (by first | rfl | assumption) (by rfl) (by first | rfl | assumption) (by first | rfl | assumption) ?_
  refine Zw_aload_0 dX11_says_5 ?_
  refine Zw_iload_3 dX11_says_6 ?_
  refine Zw_put lp_X11_184 dX11_says_7 (by first | decide | assumption | omega) (by first | rfl | assumption) (by rfl) (by first | rfl | assumption) (by first | rfl | assumption) ?_
  refine Zw_aload_0 dX11_says_10 ?_
  refine Zw_aload_0 dX11_says_11 ?_
  refine Zw_getr 65 lf_X11_23 dX11_says_12 (by first | decide | assumption | omega) (by first | rfl | assumption) (by rfl) ?_
  refine Zw_iconst (v := 0) dX11_says_15 (by decide) ?_
  refine Zw_ialdn (0) dX11_says_16 (by first | decide | assumption | omega) (by first | rfl | assumption) rfl (by omega) (by decide) ?_
  refine Zw_put lp_X11_187 dX11_says_17 (by first | decide | assumption | omega) (by first | rfl | assumption) (by rfl) (by first | rfl | assumption) (by first | rfl | assumption) ?_
  refine Zw_aload_0 dX11_says_20 ?_
  refine Zw_iload_4 dX11_says_21 ?_
  refine Zw_put lp_X11_190 dX11_says_23 (by first | decide | assumption | omega) (by first | rfl | assumption) (by rfl) (by first | rfl | assumption) (by first | rfl | assumption) ?_
  refine Zw_aload_0 dX11_says_26 ?_
  refine Zw_aload_0 dX11_says_27 ?_
  refine Zw_getr 66 lf_X11_26 dX11_says_28 (by first | decide | assumption | omega) (by first | rfl | assumption) (by rfl) ?_
  refine Zw_iload_2 dX11_says_31 ?_
  refine Zw_ialdn (p) dX11_says_32 (by first | decide | assumption | omega) (by first | rfl | assumption) rfl (by omega) (by decide) ?_
  refine Zw_S1 (k := 0) lm_X11_329 dX11_says_33 (by decide) (Nat.le_of_ble_eq_true rfl) ?_
  refine s_bits hl ?_
  refine Zw_put lp_X11_193 dX11_says_36 (by first | decide | assumption | omega) (by first | rfl | assumption) (by rfl) (by first | rfl | assumption) (by first | rfl | assumption) ?_
  refine Zw_aload_0 dX11_says_39 ?_
  refine Zw_aload_0 dX11_says_40 ?_
  refine Zw_getr 65 lf_X11_23 dX11_says_41 (by first | decide | assumption | omega) (by first | rfl | assumption) (by rfl) ?_
  refine Zw_iconst (v := 1) dX11_says_44 (by decide) ?_
  refine Zw_ialdn (1) dX11_says_45 (by first | decide | assumption | omega) (by first | rfl | assumption) rfl (by omega) (by decide) ?_
  refine Zw_put lp_X11_196 dX11_says_46 (by first | decide | assumption | omega) (by first | rfl | assumption) (by rfl) (by first | rfl | assumption) (by first | rfl | assumption) ?_
  refine Zw_aload_0 dX11_says_49 ?_
  refine Zw_aload_0 dX11_says_50 ?_
  refine Zw_getv (nI t) lf_X11_107 dX11_says_51 (by first | decide | assumption | omega) (by first | rfl | assumption) (by rfl) h4 ?_
  refine Zw_iload_1 dX11_says_54 ?_
  refine Zw_V2 (k := 41) lm_X11_326 dX11_says_55 (by decide) (by first | decide | assumption | omega) (by first | rfl | assumption) (by rfl) (Nat.le_of_ble_eq_true rfl) ?_
  have hO : nOff [] μ (zup (zup (zup (zup (zup (zup μ 61 12 (nI p)) 61 13 to) 61 14 (μ 65 0)) 61 15 nu) 61 16 (q_bc (μ 66 p))) 61 17 (μ 65 1)) := (((((nOff.refl [] μ).up (by omega)).up (by omega)).up (by omega)).up (by omega) |>.up (by omega)).up (by omega)
  refine s_read1 (n := n) (b := m_b μ t) (nm := (q_env (nI p) to (μ 65 0) nu (q_bc (μ 66 p)) (μ 65 1))) ht hn63 hn rfl hby (fun j hj => by match j, hj with | 0, _ => rfl | 1, _ => rfl | 2, _ => rfl | 3, _ => rfl | 4, _ => rfl | 5, _ => rfl | j + 6, hj => exact absurd hj (by omega)) (fun f v μ2 τ2 e1 _ _ _ => by obtain ⟨r, hr⟩ := hall (q_env (nI p) to (μ 65 0) nu (q_bc (μ 66 p)) (μ 65 1)); rw [hr] at e1; cases e1) (fun r μ2 τ2 e1 o1 _ => ?_)
  have hs : m_say μ t 1 (q_env (nI p) to (μ 65 0) nu (q_bc (μ 66 p)) (μ 65 1)) = decide (q_p3 r 1 ≠ 0) := by unfold m_say; rw [if_pos (by decide), hn63, nI_clamp (by omega), e1]
  refine Zw_if_eq 65 dX11_says_58 (by decide) (fun c58 => ?_) (fun c58 => ?_)
  · refine Zw_iconst (v := 0) dX11_says_65 (by decide) ?_
    refine Zw_ireturn dX11_says_66 (by first | rfl | assumption) ?_
    exact h0 (by rw [hs]; exact decide_eq_false (fun q => q c58)) μ2 τ2 (hO.R o1)
  · refine Zw_iconst (v := 1) dX11_says_61 (by decide) ?_
    refine Zw_goto 66 dX11_says_62 (by decide) ?_
    refine Zw_ireturn dX11_says_66 (by first | rfl | assumption) ?_
    exact h1 (by rw [hs]; exact decide_eq_true c58) μ2 τ2 (hO.R o1)
set_option maxRecDepth 20000 in
theorem s_m_says2 {t p : Nat} {to nu : Int32} {Q : zQ} {μ : zMu} {τ : Int64} (h4 : μ 61 4 = nI t) (ht : t < 6) (hx : m_tx μ t) (hp : p < 8) (hl : r8 (μ 66 p)) (h1 : m_say μ t 2 (q_env (nI p) to (μ 65 0) nu (q_bc (μ 66 p)) (μ 65 1)) = true → ∀ μ2 τ2, nOff [] μ μ2 → Q (some (.int 1)) μ2 τ2) (h0 : m_say μ t 2 (q_env (nI p) to (μ 65 0) nu (q_bc (μ 66 p)) (μ 65 1)) = false → ∀ μ2 τ2, nOff [] μ μ2 → Q (some (.int 0)) μ2 τ2) : Zc 42 yX11_says cX11_says 5 (some .boolean) [.ref 61, .int 2, .int (nI p), .int to, .int nu] μ τ Q := by
  refine Zc.mk 0 [.ref 61, .int 2, .int (nI p), .int to, .int nu] rfl (by decide) (Nat.le_of_ble_eq_true rfl) ?_
  obtain ⟨n, hn, hn63, hby, hall⟩ := hx
  refine Zw_aload_0 dX11_says_0 ?_
  refine Zw_iload_2 dX11_says_1 ?_
  refine Zw_put lp_X11_181 dX11_says_2 (by first | decide | assumption | omega) (by first | rfl | assumption) (by rfl) (by first | rfl | assumption) (by first | rfl | assumption) ?_
  refine Zw_aload_0 dX11_says_5 ?_
  refine Zw_iload_3 dX11_says_6 ?_
  refine Zw_put lp_X11_184 dX11_says_7 (by first | decide | assumption | omega) (by first | rfl | assumption) (by rfl) (by first | rfl | assumption) (by first | rfl | assumption) ?_
  refine Zw_aload_0 dX11_says_10 ?_
  refine Zw_aload_0 dX11_says_11 ?_
  refine Zw_getr 65 lf_X11_23 dX11_says_12 (by first | decide | assumption | omega) (by first | rfl | assumption) (by rfl) ?_
  refine Zw_iconst (v := 0) dX11_says_15 (by decide) ?_
  refine Zw_ialdn (0) dX11_says_16 (by first | decide | assumption | omega) (by first | rfl | assumption) rfl (by omega) (by decide) ?_
  refine Zw_put lp_X11_187 dX11_says_17 (by first | decide | assumption | omega) (by first | rfl | assumption) (by rfl) (by first | rfl | assumption) (by first | rfl | assumption) ?_
  refine Zw_aload_0 dX11_says_20 ?_
  refine Zw_iload_4 dX11_says_21 ?_
  refine Zw_put lp_X11_190 dX11_says_23 (by first | decide | assumption | omega) (by first | rfl | assumption) (by rfl) (by first | rfl | assumption) (by first | rfl | assumption) ?_
  refine Zw_aload_0 dX11_says_26 ?_
  refine Zw_aload_0 dX11_says_27 ?_
  refine Zw_getr 66 lf_X11_26 dX11_says_28 (by first | decide | assumption | omega) (by first | rfl | assumption) (by rfl) ?_
  refine Zw_iload_2 dX11_says_31 ?_
  refine Zw_ialdn (p) dX11_says_32 (by first | decide | assumption | omega) (by first | rfl | assumption) rfl (by omega) (by decide) ?_
  refine Zw_S1 (k := 0) lm_X11_329 dX11_says_33 (by decide) (Nat.le_of_ble_eq_true rfl) ?_
  refine s_bits hl ?_
  refine Zw_put lp_X11_193 dX11_says_36 (by first | decide | assumption | omega) (by first | rfl | assumption) (by rfl) (by first | rfl | assumption) (by first | rfl | assumption) ?_
  refine Zw_aload_0 dX11_says_39 ?_
  refine Zw_aload_0 dX11_says_40 ?_
  refine Zw_getr 65 lf_X11_23 dX11_says_41 (by first | decide | assumption | omega) (by first | rfl | assumption) (by rfl) ?_
  refine Zw_iconst (v := 1) dX11_says_44 (by decide) ?_
  refine Zw_ialdn (1) dX11_says_45 (by first | decide | assumption | omega) (by first | rfl | assumption) rfl (by omega) (by decide) ?_
  refine Zw_put lp_X11_196 dX11_says_46 (by first | decide | assumption | omega) (by first | rfl | assumption) (by rfl) (by first | rfl | assumption) (by first | rfl | assumption) ?_
  refine Zw_aload_0 dX11_says_49 ?_
  refine Zw_aload_0 dX11_says_50 ?_
  refine Zw_getv (nI t) lf_X11_107 dX11_says_51 (by first | decide | assumption | omega) (by first | rfl | assumption) (by rfl) h4 ?_
  refine Zw_iload_1 dX11_says_54 ?_
  refine Zw_V2 (k := 41) lm_X11_326 dX11_says_55 (by decide) (by first | decide | assumption | omega) (by first | rfl | assumption) (by rfl) (Nat.le_of_ble_eq_true rfl) ?_
  have hO : nOff [] μ (zup (zup (zup (zup (zup (zup μ 61 12 (nI p)) 61 13 to) 61 14 (μ 65 0)) 61 15 nu) 61 16 (q_bc (μ 66 p))) 61 17 (μ 65 1)) := (((((nOff.refl [] μ).up (by omega)).up (by omega)).up (by omega)).up (by omega) |>.up (by omega)).up (by omega)
  refine s_read2 (n := n) (b := m_b μ t) (nm := (q_env (nI p) to (μ 65 0) nu (q_bc (μ 66 p)) (μ 65 1))) ht hn63 hn rfl hby (fun j hj => by match j, hj with | 0, _ => rfl | 1, _ => rfl | 2, _ => rfl | 3, _ => rfl | 4, _ => rfl | 5, _ => rfl | j + 6, hj => exact absurd hj (by omega)) (fun f v μ2 τ2 e1 _ _ _ => by obtain ⟨r, hr⟩ := hall (q_env (nI p) to (μ 65 0) nu (q_bc (μ 66 p)) (μ 65 1)); rw [hr] at e1; cases e1) (fun r μ2 τ2 e1 o1 _ => ?_)
  have hs : m_say μ t 2 (q_env (nI p) to (μ 65 0) nu (q_bc (μ 66 p)) (μ 65 1)) = decide (q_p3 r 2 ≠ 0) := by unfold m_say; rw [if_pos (by decide), hn63, nI_clamp (by omega), e1]
  refine Zw_if_eq 65 dX11_says_58 (by decide) (fun c58 => ?_) (fun c58 => ?_)
  · refine Zw_iconst (v := 0) dX11_says_65 (by decide) ?_
    refine Zw_ireturn dX11_says_66 (by first | rfl | assumption) ?_
    exact h0 (by rw [hs]; exact decide_eq_false (fun q => q c58)) μ2 τ2 (hO.R o1)
  · refine Zw_iconst (v := 1) dX11_says_61 (by decide) ?_
    refine Zw_goto 66 dX11_says_62 (by decide) ?_
    refine Zw_ireturn dX11_says_66 (by first | rfl | assumption) ?_
    exact h1 (by rw [hs]; exact decide_eq_true c58) μ2 τ2 (hO.R o1)
