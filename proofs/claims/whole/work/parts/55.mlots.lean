/-! bits -/
theorem q_has_tb : ∀ p, p < 8 → ∀ v, v < 256 → q_has (nI v) p = v.testBit p := by decide +kernel
theorem q_has_or {x y : Int32} {p : Nat} (hx : r8 x) (hy : r8 y) (hp : p < 8) : q_has (x ||| y) p = (q_has x p || q_has y p) := by
  obtain ⟨a, ha, rfl⟩ := hx
  obtain ⟨b, hb, rfl⟩ := hy
  rw [nI_or, q_has_tb p hp _ (Nat.or_lt_two_pow (n := 8) ha hb), q_has_tb p hp a ha, q_has_tb p hp b hb, Nat.testBit_or]
theorem q_has_bit : ∀ p, p < 8 → ∀ q, q < 8 → q_has (q_bit q) p = decide (p = q) := by decide +kernel
theorem q_has_orf {F : Nat → Int32} {p : Nat} (hp : p < 8) : ∀ n, (∀ i, i < n → r8 (F i)) → (q_has (q_orf F n) p = true ↔ ∃ i, i < n ∧ q_has (F i) p = true)
  | 0, _ => by
    constructor
    · intro h
      have h : q_has 0 p = true := h
      rw [q_has0 p hp] at h
      cases h
    · rintro ⟨i, hi, _⟩; omega
  | n + 1, hF => by
    show q_has (q_orf F n ||| F n) p = true ↔ _
    rw [q_has_or (r8_orf n (fun i hi => hF i (by omega))) (hF n (by omega)) hp, Bool.or_eq_true, q_has_orf hp n (fun i hi => hF i (by omega))]
    constructor
    · rintro (⟨i, hi, e⟩ | e)
      · exact ⟨i, by omega, e⟩
      · exact ⟨n, by omega, e⟩
    · rintro ⟨i, hi, e⟩
      rcases Nat.lt_or_ge i n with h | h
      · exact Or.inl ⟨i, h, e⟩
      · obtain rfl : i = n := by omega
        exact Or.inr e
theorem r8_ext {x y : Int32} (hx : r8 x) (hy : r8 y) (h : ∀ p, p < 8 → q_has x p = q_has y p) : x = y := by
  obtain ⟨a, ha, rfl⟩ := hx
  obtain ⟨b, hb, rfl⟩ := hy
  have : a = b := by
    apply Nat.eq_of_testBit_eq
    intro i
    rcases Nat.lt_or_ge i 8 with hi | hi
    · rw [← q_has_tb i hi a ha, ← q_has_tb i hi b hb]; exact h i hi
    · rw [Nat.testBit_lt_two_pow (Nat.lt_of_lt_of_le ha (Nat.pow_le_pow_right (n := 2) (by omega) hi)), Nat.testBit_lt_two_pow (Nat.lt_of_lt_of_le hb (Nat.pow_le_pow_right (n := 2) (by omega) hi))]
  rw [this]
theorem q_scan_ne {g : Nat → Bool} : ∀ m i, i + m < 2 ^ 31 → (q_scan g m i ≠ -1 ↔ ∃ f, i ≤ f ∧ f < i + m ∧ g f = true)
  | 0, i, _ => ⟨fun h => absurd rfl h, fun ⟨f, h1, h2, _⟩ => by omega⟩
  | m + 1, i, hm => by
    rw [q_scan_s]
    by_cases hg : g i = true
    · rw [if_pos hg]
      exact ⟨fun _ => ⟨i, by omega, by omega, hg⟩, fun _ => nI_m1 (by omega)⟩
    · rw [if_neg hg, q_scan_ne m (i + 1) (by omega)]
      constructor
      · rintro ⟨f, h1, h2, h3⟩; exact ⟨f, by omega, by omega, h3⟩
      · rintro ⟨f, h1, h2, h3⟩
        rcases Nat.eq_or_lt_of_le h1 with e | e
        · subst e; exact absurd h3 hg
        · exact ⟨f, e, by omega, h3⟩
theorem q_wt_has {sy : zSy} {ln : Nat → Int32} {ps : Int32} {w n : Nat} {K N A : Nat → Nat} {p : Nat} (hp : p < 8) (hn : n ≤ 5) (hA : ∀ f, f < n → A f < 8) : q_has (q_watch sy ln ps w n K N A) p = q_isSeen sy ln ps n K N A w p := by
  unfold q_isSeen q_watch q_seer
  apply Bool.eq_iff_iff.mpr
  rw [q_has_orf hp n (fun i hi => by split; exact r8_bit _ (hA i hi); exact r8_0), decide_eq_true_iff, q_scan_ne n 0 (by omega)]
  constructor
  · rintro ⟨f, hf, e⟩
    by_cases hs : q_sees sy ln ps w (K f) (N f) (A f) = true
    · rw [if_pos hs, q_has_bit p hp (A f) (hA f hf), decide_eq_true_iff] at e
      exact ⟨f, by omega, by omega, by rw [← e] at hs; rw [← e, hs]; simp⟩
    · rw [if_neg hs, q_has0 p hp] at e; cases e
  · rintro ⟨f, _, hf, e⟩
    rw [Bool.and_eq_true, decide_eq_true_iff] at e
    refine ⟨f, by omega, ?_⟩
    rw [e.1, if_pos e.2, q_has_bit p hp p hp]
    simp
def c_seen (C : mC) (w p : Nat) : Bool := q_isSeen C.1 C.2.1 C.2.2.1 (cN C) (cK C) (cU C) (cA C) w p
theorem c_wt_has {C : mC} {w v : Nat} {μ : zMu} (hc : m_cx C w μ) {p : Nat} (hp : p < 8) : q_has (c_wt C v) p = c_seen C v p := q_wt_has hp hc.n5.1 (fun f hf => (hc.fd hf).2.2.2.2.2)
theorem r8_wt {C : mC} {w v : Nat} {μ : zMu} (hc : m_cx C w μ) : r8 (c_wt C v) := r8_orf _ (fun f hf => by split; exact r8_bit _ (hc.fd hf).2.2.2.2.2; exact r8_0)
def c_dp (C : mC) (z : Int32) (w p : Nat) : Nat := q_dp C.1 C.2.1 C.2.2.1 z w p
theorem c_dp_lt {C : mC} {z : Int32} {w p : Nat} (hp : p < 8) : c_dp C z w p < 8 := q_dp_lt hp
/-- going by lot: where, and whether seen -/
def m_gb (C : mC) : Nat → Int32 → Nat → Nat → Bool → Nat × Bool
  | 0, _, _, p, b => (p, b)
  | m + 1, z, w, p, b => m_gb C m (q_zn z) (w + 1) (c_dp C z w p) (b || c_seen C (w + 1) (c_dp C z w p))
theorem m_gb_s (C : mC) (m : Nat) (z : Int32) (w p : Nat) (b : Bool) : m_gb C (m + 1) z w p b = m_gb C m (q_zn z) (w + 1) (c_dp C z w p) (b || c_seen C (w + 1) (c_dp C z w p)) := rfl
theorem m_gb_1 (C : mC) : ∀ m z w p b, (m_gb C m z w p b).1 = q_dgo C.1 C.2.1 C.2.2.1 m z w p
  | 0, _, _, _, _ => rfl
  | m + 1, z, w, p, b => by rw [m_gb_s, q_dgo_s]; exact m_gb_1 C m _ _ _ _
theorem m_gb_2 (C : mC) : ∀ m z w p b, (m_gb C m z w p b).2 = (b || q_dsee C.1 C.2.1 C.2.2.1 (cN C) (cK C) (cU C) (cA C) m z w p)
  | 0, _, _, _, b => by show b = (b || false); simp
  | m + 1, z, w, p, b => by
    rw [m_gb_s, q_dsee_s, m_gb_2 C m]
    show ((b || c_seen C (w + 1) (c_dp C z w p)) || _) = (b || (if c_seen C (w + 1) (c_dp C z w p) = true then true else q_dsee C.1 C.2.1 C.2.2.1 (cN C) (cK C) (cU C) (cA C) m (q_zn z) (w + 1) (c_dp C z w p)))
    cases b <;> cases c_seen C (w + 1) (c_dp C z w p) <;> simp
theorem nW.fld {S : List Nat} {a b : zMu} {j : Nat} {x : Int32} (h : nW S a b) (hj : (j = 29 ∧ 129 ∈ 65 :: S) ∨ (j = 30 ∧ 130 ∈ 65 :: S)) : nW S a (zup b 61 j x) := ⟨h.1.up2 hj, fun i hi => by rw [zup_ne (by decide)]; exact h.2 i hi⟩
set_option maxRecDepth 20000 in
theorem l_gb {Q : zQ} {μ0 : zMu} {C : mC} {w m0 : Nat} {z0 : Int32} {R : Nat × Bool} (hc0 : m_cx C w μ0) (hw9 : w ≤ 999) (hm40 : m0 ≤ 40) (h : ∀ μ2 τ2, nOff [130] μ0 μ2 → μ2 61 30 = (if R.2 = true then 1 else 0) → Q (some (.int (nI R.1))) μ2 τ2) : ∀ m i z v p b μ τ, m0 - i < m → i ≤ m0 → p < 8 → v = w + i → nW [130] μ0 μ → μ 65 0 = nI v → μ 61 30 = (if b = true then 1 else 0) → m_gb C (m0 - i) z v p b = R → Zw 45 RX11 cX11_goesBy 7 (some .int) Q 26 [.ref 61, .int z0, .int (nI m0), .int (nI w), .int (nI p), .int z, .int (nI i)] [] μ τ
  | 0, i, _, _, _, _, _, _, hm, _, _, _, _, _, _, _ => absurd hm (by omega)
  | m + 1, i, z, v, p, b, μ, τ, hm, hi, hp, hvi, hO, hwk, hb, hV => by
    obtain ⟨_, _, hw0, hw2⟩ := hc0.n5
    have hc : m_cx C v μ := hO.c (x := 0) (by simp) hc0 hwk (by omega)
    refine Zw_iload_6 dX11_goesBy_26 ?_
    refine Zw_iload_2 dX11_goesBy_28 ?_
    refine Zw_nicmp_ge (i) (m0) 99 dX11_goesBy_29 (by decide) rfl rfl (by omega) (by omega) (fun c29 => ?_) (fun c29 => ?_)
    · refine Zw_aload_0 dX11_goesBy_99 ?_
      refine Zw_getr 65 lf_X11_23 dX11_goesBy_100 (by first | decide | assumption | omega) (by first | rfl | assumption) (by rfl) ?_
      refine Zw_iconst (v := 0) dX11_goesBy_103 (by decide) ?_
      refine Zw_iload_3 dX11_goesBy_104 ?_
      refine Zw_iastn (0) dX11_goesBy_105 (by first | decide | assumption | omega) (by first | rfl | assumption) rfl (by omega) (by decide) ?_
      refine Zw_iload_4 dX11_goesBy_106 ?_
      refine Zw_ireturn dX11_goesBy_108 (by first | rfl | assumption) ?_
      obtain rfl : i = m0 := by omega
      rw [show i - i = 0 by omega] at hV
      subst hV
      exact h _ _ (hO.back hw0.symm) (by rw [zup_ne (by decide)]; exact hb)
    · refine Zw_iload_5 dX11_goesBy_32 ?_
      refine Zw_ldcw dX11_goesBy_34 zw1 ?_
      refine Zw_imul dX11_goesBy_37 ?_
      refine Zw_sipush (v := 12345) dX11_goesBy_38 (by decide) ?_
      refine Zw_iadd dX11_goesBy_41 ?_
      refine Zw_istore_5 dX11_goesBy_42 rfl ?_
      refine Zw_aload_0 dX11_goesBy_44 ?_
      refine Zw_iload_4 dX11_goesBy_45 ?_
      refine Zw_iload_5 dX11_goesBy_47 ?_
      refine Zw_V2 (k := 44) lm_X11_348 dX11_goesBy_49 (by decide) (by first | decide | assumption | omega) (by first | rfl | assumption) (by rfl) (Nat.le_of_ble_eq_true rfl) ?_
      refine s_steps hc hp (fun μ1 τ1 o1 => ?_)
      refine Zw_istore_4 dX11_goesBy_52 rfl ?_
      refine Zw_aload_0 dX11_goesBy_54 ?_
      refine Zw_getr 65 lf_X11_23 dX11_goesBy_55 (by first | decide | assumption | omega) (by first | rfl | assumption) (by rfl) ?_
      refine Zw_iconst (v := 0) dX11_goesBy_58 (by decide) ?_
      refine Zw_dup2 dX11_goesBy_59 rfl rfl ?_
      refine Zw_ialdnv (0) (nI v) dX11_goesBy_60 (by first | decide | assumption | omega) (by first | rfl | assumption) rfl (by omega) (by decide) (by rw [o1.1 65 (by simp)]; exact hwk) ?_
      refine Zw_iconst (v := 1) dX11_goesBy_61 (by decide) ?_
      refine Zw_nadd (v) (1) dX11_goesBy_62 rfl rfl ?_
      refine Zw_iastn (0) dX11_goesBy_63 (by first | decide | assumption | omega) (by first | rfl | assumption) rfl (by omega) (by decide) ?_
      have hO2 : nW [130] μ0 (zup μ1 65 0 (nI (v + 1))) := (hO.tr o1).up
      refine Zw_aload_0 dX11_goesBy_64 ?_
      refine Zw_aload_0 dX11_goesBy_65 ?_
      refine Zw_getv (μ 61 30) lf_X11_400 dX11_goesBy_66 (by first | decide | assumption | omega) (by first | rfl | assumption) (by rfl) (by rw [zup_ne (by decide)]; exact o1.2 30 (Or.inr ⟨by omega, fun _ => by simp, fun _ => by simp⟩)) ?_
      refine Zw_if_ne 85 dX11_goesBy_69 (by decide) (fun c69 => ?_) (fun c69 => ?_)
      · refine Zw_iconst (v := 1) dX11_goesBy_85 (by decide) ?_
        refine Zw_goto 90 dX11_goesBy_86 (by decide) ?_
        refine Zw_put lp_X11_400 dX11_goesBy_90 (by first | decide | assumption | omega) (by first | rfl | assumption) (by rfl) (by first | rfl | assumption) (by first | rfl | assumption) ?_
        refine Zw_iinc_6 dX11_goesBy_93 rfl (zincn _) ?_
        refine Zw_goto 26 dX11_goesBy_96 (by decide) ?_
        have hcs := c_wt_has (v := v + 1) hc0 (p := c_dp C z v p) (c_dp_lt hp)
        rw [show m0 - i = (m0 - (i + 1)) + 1 by omega, m_gb_s] at hV
        have hb1 : (b || c_seen C (v + 1) (c_dp C z v p)) = true := by cases b; (exact absurd hb (fun e => c69 (by rw [e]; rfl))); rfl
        rw [hb1] at hV
        refine l_gb hc0 hw9 hm40 h m (i + 1) (q_zn z) (v + 1) (c_dp C z v p) true _ _ (by omega) (by omega) (c_dp_lt hp) (by omega) (nW.fld hO2 (Or.inr ⟨rfl, by simp⟩)) ?_ ?_ hV
        · rw [zup_ne (by decide)]; rw [zup_at, if_pos ⟨rfl, rfl⟩]
        · rw [zup_at, if_pos ⟨rfl, rfl⟩]; rfl
      · refine Zw_aload_0 dX11_goesBy_72 ?_
        refine Zw_V0 (k := 44) lm_X11_344 dX11_goesBy_73 (by decide) (by first | decide | assumption | omega) (by first | rfl | assumption) (by rfl) (Nat.le_of_ble_eq_true rfl) ?_
        refine s_c_seen (C := C) (w := v + 1) ((hc.off o1 (by simp)).wk rfl (by omega)) (fun μ2 τ2 o2 => ?_)
        refine Zw_iload_4 dX11_goesBy_76 ?_
        refine Zw_ishr dX11_goesBy_78 ?_
        refine Zw_iconst (v := 1) dX11_goesBy_79 (by decide) ?_
        refine Zw_iand dX11_goesBy_80 ?_
        refine Zw_iconst (v := 1) dX11_goesBy_81 (by decide) ?_
        refine Zw_icmp_ne 89 dX11_goesBy_82 (by decide) (fun c82 => ?_) (fun c82 => ?_)
        · refine Zw_iconst (v := 0) dX11_goesBy_89 (by decide) ?_
          refine Zw_put lp_X11_400 dX11_goesBy_90 (by first | decide | assumption | omega) (by first | rfl | assumption) (by rfl) (by first | rfl | assumption) (by first | rfl | assumption) ?_
          refine Zw_iinc_6 dX11_goesBy_93 rfl (zincn _) ?_
          refine Zw_goto 26 dX11_goesBy_96 (by decide) ?_
          have hcs := c_wt_has (v := v + 1) hc0 (p := c_dp C z v p) (c_dp_lt hp)
          rw [show m0 - i = (m0 - (i + 1)) + 1 by omega, m_gb_s] at hV
          have hb1 : (b || c_seen C (v + 1) (c_dp C z v p)) = false := by
            have h1 : b = false := by cases b; rfl; exact absurd (by rw [hb]; decide) (fun e : ¬ _ = (0 : Int32) => e c69)
            rw [h1, ← hcs]
            cases hq : q_has (c_wt C (v + 1)) (c_dp C z v p)
            · rfl
            · exact absurd ((r8_h1 (r8_wt (v := v + 1) hc0) (c_dp_lt hp)).mpr hq) c82
          rw [hb1] at hV
          refine l_gb hc0 hw9 hm40 h m (i + 1) (q_zn z) (v + 1) (c_dp C z v p) false _ _ (by omega) (by omega) (c_dp_lt hp) (by omega) (nW.fld (hO2.tr o2) (Or.inr ⟨rfl, by simp⟩)) ?_ ?_ hV
          · rw [zup_ne (by decide)]; rw [o2.1 65 (by simp), zup_at, if_pos ⟨rfl, rfl⟩]
          · rw [zup_at, if_pos ⟨rfl, rfl⟩]; rfl
        · refine Zw_iconst (v := 1) dX11_goesBy_85 (by decide) ?_
          refine Zw_goto 90 dX11_goesBy_86 (by decide) ?_
          refine Zw_put lp_X11_400 dX11_goesBy_90 (by first | decide | assumption | omega) (by first | rfl | assumption) (by rfl) (by first | rfl | assumption) (by first | rfl | assumption) ?_
          refine Zw_iinc_6 dX11_goesBy_93 rfl (zincn _) ?_
          refine Zw_goto 26 dX11_goesBy_96 (by decide) ?_
          have hcs := c_wt_has (v := v + 1) hc0 (p := c_dp C z v p) (c_dp_lt hp)
          rw [show m0 - i = (m0 - (i + 1)) + 1 by omega, m_gb_s] at hV
          have hb1 : (b || c_seen C (v + 1) (c_dp C z v p)) = true := by rw [← hcs, (r8_h1 (r8_wt (v := v + 1) hc0) (c_dp_lt hp)).mp c82]; simp
          rw [hb1] at hV
          refine l_gb hc0 hw9 hm40 h m (i + 1) (q_zn z) (v + 1) (c_dp C z v p) true _ _ (by omega) (by omega) (c_dp_lt hp) (by omega) (nW.fld (hO2.tr o2) (Or.inr ⟨rfl, by simp⟩)) ?_ ?_ hV
          · rw [zup_ne (by decide)]; rw [o2.1 65 (by simp), zup_at, if_pos ⟨rfl, rfl⟩]
          · rw [zup_at, if_pos ⟨rfl, rfl⟩]; rfl
