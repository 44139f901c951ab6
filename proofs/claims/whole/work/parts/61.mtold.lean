/-! weeks that were told -/
def c_flt (wt set v : Int32) : Int32 := if v = -1 then set &&& (wt ^^^ (-1)) else if q_in v 8 = true then (set &&& wt) &&& (1 <<< (v &&& 31)) else 0
theorem r8_flt {wt set v : Int32} (h : r8 set) : r8 (c_flt wt set v) := by
  unfold c_flt
  split
  · exact r8_and h
  · split
    · exact r8_and (r8_and h)
    · exact r8_0
def m_go1 (C : mC) (it : Nat → Int32) (w i : Nat) (set : Int32) : Int32 := c_flt (c_wt C (w + i + 1)) (q_spread (c_mv C (w + i)) set) (it i)
def m_go (C : mC) (it : Nat → Int32) (w : Nat) : Nat → Nat → Int32 → Int32 → Int32 × Int32
  | 0, _, set, fn => (set, fn)
  | m + 1, i, set, fn => m_go C it w m (i + 1) (m_go1 C it w i set) (if fn = -1 ∧ m_go1 C it w i set = 0 then nI i else fn)
theorem m_go_s (C : mC) (it : Nat → Int32) (w m i : Nat) (set fn : Int32) : m_go C it w (m + 1) i set fn = m_go C it w m (i + 1) (m_go1 C it w i set) (if fn = -1 ∧ m_go1 C it w i set = 0 then nI i else fn) := rfl
theorem nOff.re {S : List Nat} {μ0 μ : zMu} {k j : Nat} {x : Int32} (h : nOff S (zup μ0 k j x) μ) (hk : k ∉ S) (y : Int32) : nOff S (zup μ0 k j y) (zup μ k j y) := by
  refine ⟨fun q hq => ?_, fun s hs => ?_⟩
  · by_cases e : q = k
    · subst e
      rw [zup_eq, zup_eq, h.1 q hq, zup_eq]
      funext i
      simp only [upd]
      split <;> rfl
    · rw [zup_ne e, zup_ne e, h.1 q hq, zup_ne e]
  · have h2 := h.2 s hs
    rw [zup_at] at h2
    rw [zup_at, zup_at]
    by_cases e : 61 = k ∧ s = j
    · rw [if_pos e, if_pos e]
    · rw [if_neg e, if_neg e, h2, if_neg e]
set_option maxRecDepth 20000 in
theorem s_flt {C : mC} {w : Nat} {set v : Int32} {Q : zQ} {μ : zMu} {τ : Int64} (hc : m_cx C w μ) (h : ∀ μ2 τ2, nOff [] μ μ2 → Q (some (.int (c_flt (c_wt C w) set v))) μ2 τ2) : Zc 45 yX11_filtered cX11_filtered 4 (some .int) [.ref 61, .int set, .int v] μ τ Q := by
  refine Zc.mk 1 [.ref 61, .int set, .int v, .null] rfl (by decide) (Nat.le_of_ble_eq_true rfl) ?_
  refine Zw_aload_0 dX11_filtered_0 ?_
  refine Zw_V0 (k := 44) lm_X11_344 dX11_filtered_1 (by decide) (by first | decide | assumption | omega) (by first | rfl | assumption) (by rfl) (Nat.le_of_ble_eq_true rfl) ?_
  refine s_c_seen hc (fun μ1 τ1 o1 => ?_)
  refine Zw_istore_3 dX11_filtered_4 rfl ?_
  refine Zw_iload_2 dX11_filtered_5 ?_
  refine Zw_iconst (v := (-1)) dX11_filtered_6 (by decide) ?_
  refine Zw_icmp_ne 18 dX11_filtered_7 (by decide) (fun c7 => ?_) (fun c7 => ?_)
  · refine Zw_iload_2 dX11_filtered_18 ?_
    refine Zw_S1 (k := 1) lm_X11_82 dX11_filtered_19 (by decide) (Nat.le_of_ble_eq_true rfl) ?_
    refine s_isPlace (fun b1 => ?_) (fun b1 => ?_)
    · refine Zw_if_eq 35 dX11_filtered_22 (by decide) (fun c => absurd c (by decide)) (fun _ => ?_)
      refine Zw_iload_1 dX11_filtered_25 ?_
      refine Zw_iload_3 dX11_filtered_26 ?_
      refine Zw_iand dX11_filtered_27 ?_
      refine Zw_iconst (v := 1) dX11_filtered_28 (by decide) ?_
      refine Zw_iload_2 dX11_filtered_29 ?_
      refine Zw_ishl dX11_filtered_30 ?_
      refine Zw_iand dX11_filtered_31 ?_
      refine Zw_goto 36 dX11_filtered_32 (by decide) ?_
      refine Zw_ireturn dX11_filtered_36 (by first | rfl | assumption) ?_
      have hq := h μ1 τ1 o1
      unfold c_flt at hq
      rw [if_neg c7, if_pos (q_in_iff.mpr b1)] at hq
      exact hq
    · refine Zw_if_eq 35 dX11_filtered_22 (by decide) (fun _ => ?_) (fun c => absurd c (by decide))
      refine Zw_iconst (v := 0) dX11_filtered_35 (by decide) ?_
      refine Zw_ireturn dX11_filtered_36 (by first | rfl | assumption) ?_
      have hq := h μ1 τ1 o1
      unfold c_flt at hq
      rw [if_neg c7, if_neg (fun e => b1 (q_in_iff.mp e))] at hq
      exact hq
  · refine Zw_iload_1 dX11_filtered_10 ?_
    refine Zw_iload_3 dX11_filtered_11 ?_
    refine Zw_iconst (v := (-1)) dX11_filtered_12 (by decide) ?_
    refine Zw_ixor dX11_filtered_13 ?_
    refine Zw_iand dX11_filtered_14 ?_
    refine Zw_goto 36 dX11_filtered_15 (by decide) ?_
    refine Zw_ireturn dX11_filtered_36 (by first | rfl | assumption) ?_
    have hq := h μ1 τ1 o1
    unfold c_flt at hq
    rw [if_pos c7] at hq
    exact hq
set_option maxRecDepth 20000 in
theorem l_gone {Q : zQ} {μ0 : zMu} {C : mC} {w a sz : Nat} {it : Nat → Int32} {f0 : Int32} {R : Int32 × Int32} (hc0 : m_cx C w μ0) (ha : a < 4) (hsz : μ0 76 a = nI sz) (h30 : sz ≤ 30) (hit : ∀ j, j < 40 → μ0 77 (40 * a + j) = it j) (hw9 : w ≤ 999) (h : ∀ μ2 τ2, nOff [129] μ0 μ2 → μ2 61 29 = R.2 → Q (some (.int R.1)) μ2 τ2) : ∀ m i set fn μ τ, sz - i < m → i ≤ sz → nW [129] μ0 μ → μ 65 0 = nI (w + i) → r8 set → μ 61 29 = fn → m_go C it w (sz - i) i set fn = R → Zw 46 RX11 cX11_goneOn 6 (some .int) Q 18 [.ref 61, .int (nI a), .int f0, .int (nI w), .int set, .int (nI i)] [] μ τ
  | 0, i, _, _, _, _, hm, _, _, _, _, _, _ => absurd hm (by omega)
  | m + 1, i, set, fn, μ, τ, hm, hi, hO, hwk, hr, hfn, hV => by
    obtain ⟨_, _, hw0, hw2⟩ := hc0.n5
    have hc : m_cx C (w + i) μ := hO.c (x := 0) (by simp) hc0 hwk (by omega)
    refine Zw_iload_5 dX11_goneOn_18 ?_
    refine Zw_aload_0 dX11_goneOn_20 ?_
    refine Zw_getr 76 lf_X11_60 dX11_goneOn_21 (by first | decide | assumption | omega) (by first | rfl | assumption) (by rfl) ?_
    refine Zw_iload_1 dX11_goneOn_24 ?_
    refine Zw_ialdnv (a) (nI sz) dX11_goneOn_25 (by first | decide | assumption | omega) (by first | rfl | assumption) rfl (by omega) (by decide) (by rw [hO.1.fr (by decide) (by simp)]; exact hsz) ?_
    refine Zw_nicmp_ge (i) (sz) 99 dX11_goneOn_26 (by decide) rfl rfl (by omega) (by omega) (fun c26 => ?_) (fun c26 => ?_)
    · refine Zw_aload_0 dX11_goneOn_99 ?_
      refine Zw_getr 65 lf_X11_23 dX11_goneOn_100 (by first | decide | assumption | omega) (by first | rfl | assumption) (by rfl) ?_
      refine Zw_iconst (v := 0) dX11_goneOn_103 (by decide) ?_
      refine Zw_iload_3 dX11_goneOn_104 ?_
      refine Zw_iastn (0) dX11_goneOn_105 (by first | decide | assumption | omega) (by first | rfl | assumption) rfl (by omega) (by decide) ?_
      refine Zw_iload_4 dX11_goneOn_106 ?_
      refine Zw_ireturn dX11_goneOn_108 (by first | rfl | assumption) ?_
      obtain rfl : i = sz := by omega
      rw [show i - i = 0 by omega] at hV
      subst hV
      exact h _ _ (hO.back hw0.symm) (by rw [zup_ne (by decide)]; exact hfn)
    · refine Zw_aload_0 dX11_goneOn_29 ?_
      refine Zw_iload_4 dX11_goneOn_30 ?_
      refine Zw_V1 (k := 44) lm_X11_341 dX11_goneOn_32 (by decide) (by first | decide | assumption | omega) (by first | rfl | assumption) (by rfl) (Nat.le_of_ble_eq_true rfl) ?_
      refine s_c_spread hc hr (fun μ1 τ1 o1 => ?_)
      refine Zw_istore_4 dX11_goneOn_35 rfl ?_
      refine Zw_aload_0 dX11_goneOn_37 ?_
      refine Zw_getr 65 lf_X11_23 dX11_goneOn_38 (by first | decide | assumption | omega) (by first | rfl | assumption) (by rfl) ?_
      refine Zw_iconst (v := 0) dX11_goneOn_41 (by decide) ?_
      refine Zw_dup2 dX11_goneOn_42 rfl rfl ?_
      refine Zw_ialdnv (0) (nI (w + i)) dX11_goneOn_43 (by first | decide | assumption | omega) (by first | rfl | assumption) rfl (by omega) (by decide) (by rw [o1.fr (by decide) (by simp)]; exact hwk) ?_
      refine Zw_iconst (v := 1) dX11_goneOn_44 (by decide) ?_
      refine Zw_nadd ((w + i)) (1) dX11_goneOn_45 rfl rfl ?_
      refine Zw_iastn (0) dX11_goneOn_46 (by first | decide | assumption | omega) (by first | rfl | assumption) rfl (by omega) (by decide) ?_
      have hO2 : nW [129] μ0 (zup μ1 65 0 (nI (w + i + 1))) := (hO.tr o1).up
      refine Zw_aload_0 dX11_goneOn_47 ?_
      refine Zw_iload_4 dX11_goneOn_48 ?_
      refine Zw_aload_0 dX11_goneOn_50 ?_
      refine Zw_getr 77 lf_X11_63 dX11_goneOn_51 (by first | decide | assumption | omega) (by first | rfl | assumption) (by rfl) ?_
      refine Zw_bipush (v := 40) dX11_goneOn_54 (by decide) ?_
      refine Zw_iload_1 dX11_goneOn_56 ?_
      refine Zw_nmul (40) (a) dX11_goneOn_57 rfl rfl ?_
      refine Zw_iload_5 dX11_goneOn_58 ?_
      refine Zw_nadd ((40 * a)) (i) dX11_goneOn_60 rfl rfl ?_
      refine Zw_ialdnv (((40 * a) + i)) (it i) dX11_goneOn_61 (by first | decide | assumption | omega) (by first | rfl | assumption) rfl (by omega) (by decide) (by rw [zup_ne (by decide), o1.fr (by decide) (by simp), hO.1.fr (by decide) (by simp)]; exact hit i (by omega)) ?_
      refine Zw_V2 (k := 45) lm_X11_377 dX11_goneOn_62 (by decide) (by first | decide | assumption | omega) (by first | rfl | assumption) (by rfl) (Nat.le_of_ble_eq_true rfl) ?_
      refine s_flt (C := C) (w := w + i + 1) ((hc.off o1 (by simp)).wk rfl (by omega)) (fun μ2 τ2 o2 => ?_)
      refine Zw_istore_4 dX11_goneOn_65 rfl ?_
      refine Zw_aload_0 dX11_goneOn_67 ?_
      refine Zw_aload_0 dX11_goneOn_68 ?_
      refine Zw_getv (fn) lf_X11_374 dX11_goneOn_69 (by first | decide | assumption | omega) (by first | rfl | assumption) (by rfl) (by rw [o2.2 29 (Or.inr ⟨by omega, fun _ => by simp, fun _ => by simp⟩), zup_ne (by decide), o1.2 29 (Or.inr ⟨by omega, fun _ => by simp, fun _ => by simp⟩)]; exact hfn) ?_
      refine Zw_iconst (v := (-1)) dX11_goneOn_72 (by decide) ?_
      refine Zw_icmp_ne 86 dX11_goneOn_73 (by decide) (fun c73 => ?_) (fun c73 => ?_)
      · refine Zw_aload_0 dX11_goneOn_86 ?_
        refine Zw_getv (fn) lf_X11_374 dX11_goneOn_87 (by first | decide | assumption | omega) (by first | rfl | assumption) (by rfl) (by rw [o2.2 29 (Or.inr ⟨by omega, fun _ => by simp, fun _ => by simp⟩), zup_ne (by decide), o1.2 29 (Or.inr ⟨by omega, fun _ => by simp, fun _ => by simp⟩)]; exact hfn) ?_
        refine Zw_put lp_X11_374 dX11_goneOn_90 (by first | decide | assumption | omega) (by first | rfl | assumption) (by rfl) (by first | rfl | assumption) (by first | rfl | assumption) ?_
        refine Zw_iinc_5 dX11_goneOn_93 rfl (zincn _) ?_
        refine Zw_goto 18 dX11_goneOn_96 (by decide) ?_
        rw [show sz - i = (sz - (i + 1)) + 1 by omega, m_go_s, if_neg (fun e => c73 e.1)] at hV
        refine l_gone hc0 ha hsz h30 hit hw9 h m (i + 1) _ fn _ _ (by omega) (by omega) ((hO2.tr o2).fld (Or.inl ⟨rfl, by simp⟩)) ?_ (r8_flt (r8_spread (fun p hp => r8_mv C (w + i) hp) set)) ?_ hV
        · rw [zup_ne (by decide), o2.fr (by decide) (by simp), zup_at, if_pos ⟨rfl, rfl⟩]; rfl
        · rw [zup_at, if_pos ⟨rfl, rfl⟩]
      · refine Zw_iload_4 dX11_goneOn_76 ?_
        refine Zw_if_ne 86 dX11_goneOn_78 (by decide) (fun c78 => ?_) (fun c78 => ?_)
        · refine Zw_aload_0 dX11_goneOn_86 ?_
          refine Zw_getv (fn) lf_X11_374 dX11_goneOn_87 (by first | decide | assumption | omega) (by first | rfl | assumption) (by rfl) (by rw [o2.2 29 (Or.inr ⟨by omega, fun _ => by simp, fun _ => by simp⟩), zup_ne (by decide), o1.2 29 (Or.inr ⟨by omega, fun _ => by simp, fun _ => by simp⟩)]; exact hfn) ?_
          refine Zw_put lp_X11_374 dX11_goneOn_90 (by first | decide | assumption | omega) (by first | rfl | assumption) (by rfl) (by first | rfl | assumption) (by first | rfl | assumption) ?_
          refine Zw_iinc_5 dX11_goneOn_93 rfl (zincn _) ?_
          refine Zw_goto 18 dX11_goneOn_96 (by decide) ?_
          rw [show sz - i = (sz - (i + 1)) + 1 by omega, m_go_s, if_neg (fun e => c78 e.2)] at hV
          refine l_gone hc0 ha hsz h30 hit hw9 h m (i + 1) _ fn _ _ (by omega) (by omega) ((hO2.tr o2).fld (Or.inl ⟨rfl, by simp⟩)) ?_ (r8_flt (r8_spread (fun p hp => r8_mv C (w + i) hp) set)) ?_ hV
          · rw [zup_ne (by decide), o2.fr (by decide) (by simp), zup_at, if_pos ⟨rfl, rfl⟩]; rfl
          · rw [zup_at, if_pos ⟨rfl, rfl⟩]
        · refine Zw_iload_5 dX11_goneOn_81 ?_
          refine Zw_goto 90 dX11_goneOn_83 (by decide) ?_
          refine Zw_put lp_X11_374 dX11_goneOn_90 (by first | decide | assumption | omega) (by first | rfl | assumption) (by rfl) (by first | rfl | assumption) (by first | rfl | assumption) ?_
          refine Zw_iinc_5 dX11_goneOn_93 rfl (zincn _) ?_
          refine Zw_goto 18 dX11_goneOn_96 (by decide) ?_
          rw [show sz - i = (sz - (i + 1)) + 1 by omega, m_go_s, if_pos ⟨c73, c78⟩] at hV
          refine l_gone hc0 ha hsz h30 hit hw9 h m (i + 1) _ (nI i) _ _ (by omega) (by omega) ((hO2.tr o2).fld (Or.inl ⟨rfl, by simp⟩)) ?_ (r8_flt (r8_spread (fun p hp => r8_mv C (w + i) hp) set)) ?_ hV
          · rw [zup_ne (by decide), o2.fr (by decide) (by simp), zup_at, if_pos ⟨rfl, rfl⟩]; rfl
          · rw [zup_at, if_pos ⟨rfl, rfl⟩]
set_option maxRecDepth 20000 in
theorem s_gone {C : mC} {w a sz : Nat} {it : Nat → Int32} {f0 : Int32} {Q : zQ} {μ : zMu} {τ : Int64} (hc0 : m_cx C w μ) (ha : a < 4) (hsz : μ 76 a = nI sz) (h30 : sz ≤ 30) (hit : ∀ j, j < 40 → μ 77 (40 * a + j) = it j) (hw9 : w ≤ 999) (hr : r8 f0) (h : ∀ μ2 τ2, nOff [129] μ μ2 → μ2 61 29 = (m_go C it w sz 0 f0 (-1)).2 → Q (some (.int (m_go C it w sz 0 f0 (-1)).1)) μ2 τ2) : Zc 46 yX11_goneOn cX11_goneOn 6 (some .int) [.ref 61, .int (nI a), .int f0] μ τ Q := by
  refine Zc.mk 3 [.ref 61, .int (nI a), .int f0, .null, .null, .null] rfl (by decide) (Nat.le_of_ble_eq_true rfl) ?_
  refine Zw_aload_0 dX11_goneOn_0 ?_
  refine Zw_getr 65 lf_X11_23 dX11_goneOn_1 (by first | decide | assumption | omega) (by first | rfl | assumption) (by rfl) ?_
  refine Zw_iconst (v := 0) dX11_goneOn_4 (by decide) ?_
  refine Zw_ialdnv (0) (nI w) dX11_goneOn_5 (by first | decide | assumption | omega) (by first | rfl | assumption) rfl (by omega) (by decide) hc0.n5.2.2.1 ?_
  refine Zw_istore_3 dX11_goneOn_6 rfl ?_
  refine Zw_iload_2 dX11_goneOn_7 ?_
  refine Zw_istore_4 dX11_goneOn_8 rfl ?_
  refine Zw_aload_0 dX11_goneOn_10 ?_
  refine Zw_iconst (v := (-1)) dX11_goneOn_11 (by decide) ?_
  refine Zw_put lp_X11_374 dX11_goneOn_12 (by first | decide | assumption | omega) (by first | rfl | assumption) (by rfl) (by first | rfl | assumption) (by first | rfl | assumption) ?_
  refine Zw_iconst (v := 0) dX11_goneOn_15 (by decide) ?_
  refine Zw_istore_5 dX11_goneOn_16 rfl ?_
  exact l_gone hc0 ha hsz h30 hit hw9 h (sz + 1) 0 _ (-1) _ _ (by omega) (by omega) ((nW.refl _ _).fld (Or.inl ⟨rfl, by simp⟩)) (by rw [zup_ne (by decide)]; exact hc0.n5.2.2.1) hr (by rw [zup_at, if_pos ⟨rfl, rfl⟩]) rfl
set_option maxRecDepth 20000 in
theorem s_toldBad {a k : Nat} {Q : zQ} {μ : zMu} {τ : Int64} (ha : a < 4) (hk : k < 2 ^ 31) (hsz : ¬ μ 74 a = 0 → μ 76 a = nI k) (hN : μ 74 a = 0 → Q (some (.int (-11))) μ τ) (hG : ¬ μ 74 a = 0 → 30 < k → Q (some (.int (-2))) μ τ) (h0 : ¬ μ 74 a = 0 → k ≤ 30 → Q (some (.int 0)) μ τ) : Zc 0 yX11_toldBad cX11_toldBad 2 (some .int) [.ref 61, .int (nI a)] μ τ Q := by
  refine Zc.mk 0 [.ref 61, .int (nI a)] rfl (by decide) (Nat.le_of_ble_eq_true rfl) ?_
  refine Zw_aload_0 dX11_toldBad_0 ?_
  refine Zw_getr 74 lf_X11_53 dX11_toldBad_1 (by first | decide | assumption | omega) (by first | rfl | assumption) (by rfl) ?_
  refine Zw_iload_1 dX11_toldBad_4 ?_
  refine Zw_zaldn (a) dX11_toldBad_5 (by first | decide | assumption | omega) (by first | rfl | assumption) rfl (by omega) (by decide) ?_
  refine Zw_if_ne 14 dX11_toldBad_6 (by decide) (fun c6 => ?_) (fun c6 => ?_)
  · refine Zw_aload_0 dX11_toldBad_14 ?_
    refine Zw_getr 76 lf_X11_60 dX11_toldBad_15 (by first | decide | assumption | omega) (by first | rfl | assumption) (by rfl) ?_
    refine Zw_iload_1 dX11_toldBad_18 ?_
    refine Zw_ialdnv (a) (nI k) dX11_toldBad_19 (by first | decide | assumption | omega) (by first | rfl | assumption) rfl (by omega) (by decide) (hsz c6) ?_
    refine Zw_bipush (v := 30) dX11_toldBad_20 (by decide) ?_
    refine Zw_nicmp_le (k) (30) 30 dX11_toldBad_22 (by decide) rfl rfl (by omega) (by omega) (fun c22 => ?_) (fun c22 => ?_)
    · refine Zw_iconst (v := 0) dX11_toldBad_30 (by decide) ?_
      refine Zw_ireturn dX11_toldBad_31 (by first | rfl | assumption) ?_
      exact h0 c6 (by omega)
    · refine Zw_bipush (v := (-2)) dX11_toldBad_25 (by decide) ?_
      refine Zw_goto 31 dX11_toldBad_27 (by decide) ?_
      refine Zw_ireturn dX11_toldBad_31 (by first | rfl | assumption) ?_
      exact hG c6 (by omega)
  · refine Zw_bipush (v := (-11)) dX11_toldBad_9 (by decide) ?_
    refine Zw_goto 31 dX11_toldBad_11 (by decide) ?_
    refine Zw_ireturn dX11_toldBad_31 (by first | rfl | assumption) ?_
    exact hN c6
set_option maxRecDepth 20000 in
theorem l_fits1 {Q : zQ} {μ0 : zMu} {Cv : Nat → mC} {w a sz last : Nat} {it : Nat → Int32} {of : Int32} (hcv : ∀ v, v ≤ last → m_cx (Cv v) w (zup μ0 65 1 (nI v))) (hl : last < 32) (ha : a < 4) (hsz : μ0 76 a = nI sz) (h30 : sz ≤ 30) (hit : ∀ j, j < 40 → μ0 77 (40 * a + j) = it j) (hw9 : w ≤ 999) (h : ∀ μ2 τ2, nOff [129] μ0 μ2 → Q (some (.int (x_fits (fun v => decide ((m_go (Cv v) it w sz 0 255 (-1)).1 ≠ 0)) (last + 1)))) μ2 τ2) : ∀ m v x μ τ, last + 1 - v < m → v ≤ last + 1 → nOff [129] (zup μ0 65 1 x) μ → Zw 47 RX11 cX11_fits 8 (some .int) Q 27 [.ref 61, .int (nI a), .int 1, .int of, .int (nI last), .int (μ0 65 1), .int (q_orf (fun v => if (fun v => decide ((m_go (Cv v) it w sz 0 255 (-1)).1 ≠ 0)) v = true then q_bit v else 0) v), .int (nI v)] [] μ τ
  | 0, v, _, _, _, hm, _, _ => absurd hm (by omega)
  | m + 1, v, x, μ, τ, hm, hv, hO => by
    refine Zw_iload_7 dX11_fits_27 ?_
    refine Zw_iload_4 dX11_fits_29 ?_
    refine Zw_nicmp_gt (v) (last) 72 dX11_fits_31 (by decide) rfl rfl (by omega) (by omega) (fun c31 => ?_) (fun c31 => ?_)
    · refine Zw_aload_0 dX11_fits_72 ?_
      refine Zw_iload_2 dX11_fits_73 ?_
      refine Zw_iload_3 dX11_fits_74 ?_
      refine Zw_iload_5 dX11_fits_75 ?_
      refine Zw_V3 (k := 0) lm_X11_103 dX11_fits_77 (by decide) (by first | decide | assumption | omega) (by first | rfl | assumption) (by rfl) (Nat.le_of_ble_eq_true rfl) ?_
      refine s_lays1 ?_
      refine Zw_iload_6 dX11_fits_80 ?_
      refine Zw_ireturn dX11_fits_82 (by first | rfl | assumption) ?_
      obtain rfl : v = last + 1 := by omega
      have hb := hO.re (by simp) (μ0 65 1)
      rw [zup_self] at hb
      exact h _ _ hb
    · refine Zw_aload_0 dX11_fits_34 ?_
      refine Zw_iload_2 dX11_fits_35 ?_
      refine Zw_iload_3 dX11_fits_36 ?_
      refine Zw_iload_7 dX11_fits_37 ?_
      refine Zw_V3 (k := 0) lm_X11_103 dX11_fits_39 (by decide) (by first | decide | assumption | omega) (by first | rfl | assumption) (by rfl) (Nat.le_of_ble_eq_true rfl) ?_
      refine s_lays1 ?_
      refine Zw_iload_6 dX11_fits_42 ?_
      refine Zw_aload_0 dX11_fits_44 ?_
      refine Zw_iload_1 dX11_fits_45 ?_
      refine Zw_sipush (v := 255) dX11_fits_46 (by decide) ?_
      refine Zw_V2 (k := 46) lm_X11_380 dX11_fits_49 (by decide) (by first | decide | assumption | omega) (by first | rfl | assumption) (by rfl) (Nat.le_of_ble_eq_true rfl) ?_
      have hR := hO.re (by simp) (nI v)
      have e76 : (zup μ 65 1 (nI v)) 76 = μ0 76 := by rw [hR.fr (by decide) (by simp), zup_ne (by decide)]
      have e77 : (zup μ 65 1 (nI v)) 77 = μ0 77 := by rw [hR.fr (by decide) (by simp), zup_ne (by decide)]
      refine s_gone (C := Cv v) (it := it) ((hcv v (by omega)).off hR (by simp)) ha (by rw [e76]; exact hsz) h30 (fun j hj => by rw [e77]; exact hit j hj) hw9 ⟨255, by decide, rfl⟩ (fun μ2 τ2 o2 _ => ?_)
      refine Zw_if_ne 59 dX11_fits_52 (by decide) (fun c52 => ?_) (fun c52 => ?_)
      · refine Zw_iconst (v := 1) dX11_fits_59 (by decide) ?_
        refine Zw_iload_7 dX11_fits_60 ?_
        refine Zw_ishl dX11_fits_62 ?_
        refine Zw_ior dX11_fits_63 ?_
        refine Zw_istore_6 dX11_fits_64 rfl ?_
        refine Zw_iinc_7 dX11_fits_66 rfl (zincn _) ?_
        refine Zw_goto 27 dX11_fits_69 (by decide) ?_
        have hg : q_orf (fun v => if (fun v => decide ((m_go (Cv v) it w sz 0 255 (-1)).1 ≠ 0)) v = true then q_bit v else 0) (v + 1) = (q_orf (fun v => if (fun v => decide ((m_go (Cv v) it w sz 0 255 (-1)).1 ≠ 0)) v = true then q_bit v else 0) v) ||| q_bit v := by
          show (q_orf (fun v => if (fun v => decide ((m_go (Cv v) it w sz 0 255 (-1)).1 ≠ 0)) v = true then q_bit v else 0) v) ||| (if decide ((m_go (Cv v) it w sz 0 255 (-1)).1 ≠ 0) = true then q_bit v else 0) = _
          rw [if_pos (decide_eq_true c52)]
        have hz := l_fits1 (of := of) hcv hl ha hsz h30 hit hw9 h m (v + 1) (nI v) μ2 τ2 (by omega) (by omega) (((hO.re (by simp) (nI v)).tr o2))
        rw [hg] at hz
        exact hz
      · refine Zw_iconst (v := 0) dX11_fits_55 (by decide) ?_
        refine Zw_goto 60 dX11_fits_56 (by decide) ?_
        refine Zw_iload_7 dX11_fits_60 ?_
        refine Zw_ishl dX11_fits_62 ?_
        refine Zw_ior dX11_fits_63 ?_
        refine Zw_istore_6 dX11_fits_64 rfl ?_
        refine Zw_iinc_7 dX11_fits_66 rfl (zincn _) ?_
        refine Zw_goto 27 dX11_fits_69 (by decide) ?_
        have hg : q_orf (fun v => if (fun v => decide ((m_go (Cv v) it w sz 0 255 (-1)).1 ≠ 0)) v = true then q_bit v else 0) (v + 1) = (q_orf (fun v => if (fun v => decide ((m_go (Cv v) it w sz 0 255 (-1)).1 ≠ 0)) v = true then q_bit v else 0) v) ||| 0 := by
          show (q_orf (fun v => if (fun v => decide ((m_go (Cv v) it w sz 0 255 (-1)).1 ≠ 0)) v = true then q_bit v else 0) v) ||| (if decide ((m_go (Cv v) it w sz 0 255 (-1)).1 ≠ 0) = true then q_bit v else 0) = _
          rw [if_neg (by rw [decide_eq_false (fun e => e c52)]; simp)]
        rw [shl0 v (by omega)]
        have hz := l_fits1 (of := of) hcv hl ha hsz h30 hit hw9 h m (v + 1) (nI v) μ2 τ2 (by omega) (by omega) (((hO.re (by simp) (nI v)).tr o2))
        rw [hg] at hz
        exact hz
set_option maxRecDepth 20000 in
theorem s_fits1 {Cv : Nat → mC} {w a sz last : Nat} {it : Nat → Int32} {of : Int32} {Q : zQ} {μ : zMu} {τ : Int64} (hcv : ∀ v, v ≤ last → m_cx (Cv v) w (zup μ 65 1 (nI v))) (hl : last < 32) (ha : a < 4) (hsz : μ 76 a = nI sz) (h30 : sz ≤ 30) (hit : ∀ j, j < 40 → μ 77 (40 * a + j) = it j) (hw9 : w ≤ 999) (h : ∀ μ2 τ2, nOff [129] μ μ2 → Q (some (.int (x_fits (fun v => decide ((m_go (Cv v) it w sz 0 255 (-1)).1 ≠ 0)) (last + 1)))) μ2 τ2) : Zc 47 yX11_fits cX11_fits 8 (some .int) [.ref 61, .int (nI a), .int 1, .int of, .int (nI last)] μ τ Q := by
  refine Zc.mk 3 [.ref 61, .int (nI a), .int 1, .int of, .int (nI last), .null, .null, .null] rfl (by decide) (Nat.le_of_ble_eq_true rfl) ?_
  refine Zw_iload_2 dX11_fits_0 ?_
  refine Zw_bipush (v := 7) dX11_fits_1 (by decide) ?_
  refine Zw_icmp_ne 13 dX11_fits_3 (by decide) (fun _ => ?_) (fun c => absurd c (by decide))
  refine Zw_aload_0 dX11_fits_13 ?_
  refine Zw_iload_3 dX11_fits_14 ?_
  refine Zw_iload_2 dX11_fits_15 ?_
  refine Zw_V2 (k := 45) lm_X11_99 dX11_fits_16 (by decide) (by first | decide | assumption | omega) (by first | rfl | assumption) (by rfl) (Nat.le_of_ble_eq_true rfl) ?_
  refine s_mtold1 ?_
  refine Zw_istore_5 dX11_fits_19 rfl ?_
  refine Zw_iconst (v := 0) dX11_fits_21 (by decide) ?_
  refine Zw_istore_6 dX11_fits_22 rfl ?_
  refine Zw_iconst (v := 0) dX11_fits_24 (by decide) ?_
  refine Zw_istore_7 dX11_fits_25 rfl ?_
  exact l_fits1 hcv hl ha hsz h30 hit hw9 h (last + 2) 0 (μ 65 1) _ _ (by omega) (by omega) (by rw [zup_self]; exact nOff.refl _ _)
set_option maxRecDepth 20000 in
theorem l_fits7 {Q : zQ} {μ0 : zMu} {Cv : Nat → mC} {w a sz last : Nat} {it : Nat → Int32} {of : Int32} (hcv : ∀ v, v ≤ last → m_cx (Cv v) w (zup μ0 61 4 (nI v))) (hl : last < 32) (ha : a < 4) (hsz : μ0 76 a = nI sz) (h30 : sz ≤ 30) (hit : ∀ j, j < 40 → μ0 77 (40 * a + j) = it j) (hw9 : w ≤ 999) (h : ∀ μ2 τ2, nOff [129] μ0 μ2 → Q (some (.int (x_fits (fun v => decide ((m_go (Cv v) it w sz 0 255 (-1)).1 ≠ 0)) (last + 1)))) μ2 τ2) : ∀ m v x μ τ, last + 1 - v < m → v ≤ last + 1 → nOff [129] (zup μ0 61 4 x) μ → Zw 47 RX11 cX11_fits 8 (some .int) Q 27 [.ref 61, .int (nI a), .int 7, .int of, .int (nI last), .int (μ0 61 4), .int (q_orf (fun v => if (fun v => decide ((m_go (Cv v) it w sz 0 255 (-1)).1 ≠ 0)) v = true then q_bit v else 0) v), .int (nI v)] [] μ τ
  | 0, v, _, _, _, hm, _, _ => absurd hm (by omega)
  | m + 1, v, x, μ, τ, hm, hv, hO => by
    refine Zw_iload_7 dX11_fits_27 ?_
    refine Zw_iload_4 dX11_fits_29 ?_
    refine Zw_nicmp_gt (v) (last) 72 dX11_fits_31 (by decide) rfl rfl (by omega) (by omega) (fun c31 => ?_) (fun c31 => ?_)
    · refine Zw_aload_0 dX11_fits_72 ?_
      refine Zw_iload_2 dX11_fits_73 ?_
      refine Zw_iload_3 dX11_fits_74 ?_
      refine Zw_iload_5 dX11_fits_75 ?_
      refine Zw_V3 (k := 0) lm_X11_103 dX11_fits_77 (by decide) (by first | decide | assumption | omega) (by first | rfl | assumption) (by rfl) (Nat.le_of_ble_eq_true rfl) ?_
      refine s_lays7 ?_
      refine Zw_iload_6 dX11_fits_80 ?_
      refine Zw_ireturn dX11_fits_82 (by first | rfl | assumption) ?_
      obtain rfl : v = last + 1 := by omega
      have hb := hO.re (by simp) (μ0 61 4)
      rw [zup_self] at hb
      exact h _ _ hb
    · refine Zw_aload_0 dX11_fits_34 ?_
      refine Zw_iload_2 dX11_fits_35 ?_
      refine Zw_iload_3 dX11_fits_36 ?_
      refine Zw_iload_7 dX11_fits_37 ?_
      refine Zw_V3 (k := 0) lm_X11_103 dX11_fits_39 (by decide) (by first | decide | assumption | omega) (by first | rfl | assumption) (by rfl) (Nat.le_of_ble_eq_true rfl) ?_
      refine s_lays7 ?_
      refine Zw_iload_6 dX11_fits_42 ?_
      refine Zw_aload_0 dX11_fits_44 ?_
      refine Zw_iload_1 dX11_fits_45 ?_
      refine Zw_sipush (v := 255) dX11_fits_46 (by decide) ?_
      refine Zw_V2 (k := 46) lm_X11_380 dX11_fits_49 (by decide) (by first | decide | assumption | omega) (by first | rfl | assumption) (by rfl) (Nat.le_of_ble_eq_true rfl) ?_
      have hR := hO.re (by simp) (nI v)
      have e76 : (zup μ 61 4 (nI v)) 76 = μ0 76 := by rw [hR.fr (by decide) (by simp), zup_ne (by decide)]
      have e77 : (zup μ 61 4 (nI v)) 77 = μ0 77 := by rw [hR.fr (by decide) (by simp), zup_ne (by decide)]
      refine s_gone (C := Cv v) (it := it) ((hcv v (by omega)).off hR (by simp)) ha (by rw [e76]; exact hsz) h30 (fun j hj => by rw [e77]; exact hit j hj) hw9 ⟨255, by decide, rfl⟩ (fun μ2 τ2 o2 _ => ?_)
      refine Zw_if_ne 59 dX11_fits_52 (by decide) (fun c52 => ?_) (fun c52 => ?_)
      · refine Zw_iconst (v := 1) dX11_fits_59 (by decide) ?_
        refine Zw_iload_7 dX11_fits_60 ?_
        refine Zw_ishl dX11_fits_62 ?_
        refine Zw_ior dX11_fits_63 ?_
        refine Zw_istore_6 dX11_fits_64 rfl ?_
        refine Zw_iinc_7 dX11_fits_66 rfl (zincn _) ?_
        refine Zw_goto 27 dX11_fits_69 (by decide) ?_
        have hg : q_orf (fun v => if (fun v => decide ((m_go (Cv v) it w sz 0 255 (-1)).1 ≠ 0)) v = true then q_bit v else 0) (v + 1) = (q_orf (fun v => if (fun v => decide ((m_go (Cv v) it w sz 0 255 (-1)).1 ≠ 0)) v = true then q_bit v else 0) v) ||| q_bit v := by
          show (q_orf (fun v => if (fun v => decide ((m_go (Cv v) it w sz 0 255 (-1)).1 ≠ 0)) v = true then q_bit v else 0) v) ||| (if decide ((m_go (Cv v) it w sz 0 255 (-1)).1 ≠ 0) = true then q_bit v else 0) = _
          rw [if_pos (decide_eq_true c52)]
        have hz := l_fits7 (of := of) hcv hl ha hsz h30 hit hw9 h m (v + 1) (nI v) μ2 τ2 (by omega) (by omega) (((hO.re (by simp) (nI v)).tr o2))
        rw [hg] at hz
        exact hz
      · refine Zw_iconst (v := 0) dX11_fits_55 (by decide) ?_
        refine Zw_goto 60 dX11_fits_56 (by decide) ?_
        refine Zw_iload_7 dX11_fits_60 ?_
        refine Zw_ishl dX11_fits_62 ?_
        refine Zw_ior dX11_fits_63 ?_
        refine Zw_istore_6 dX11_fits_64 rfl ?_
        refine Zw_iinc_7 dX11_fits_66 rfl (zincn _) ?_
        refine Zw_goto 27 dX11_fits_69 (by decide) ?_
        have hg : q_orf (fun v => if (fun v => decide ((m_go (Cv v) it w sz 0 255 (-1)).1 ≠ 0)) v = true then q_bit v else 0) (v + 1) = (q_orf (fun v => if (fun v => decide ((m_go (Cv v) it w sz 0 255 (-1)).1 ≠ 0)) v = true then q_bit v else 0) v) ||| 0 := by
          show (q_orf (fun v => if (fun v => decide ((m_go (Cv v) it w sz 0 255 (-1)).1 ≠ 0)) v = true then q_bit v else 0) v) ||| (if decide ((m_go (Cv v) it w sz 0 255 (-1)).1 ≠ 0) = true then q_bit v else 0) = _
          rw [if_neg (by rw [decide_eq_false (fun e => e c52)]; simp)]
        rw [shl0 v (by omega)]
        have hz := l_fits7 (of := of) hcv hl ha hsz h30 hit hw9 h m (v + 1) (nI v) μ2 τ2 (by omega) (by omega) (((hO.re (by simp) (nI v)).tr o2))
        rw [hg] at hz
        exact hz
set_option maxRecDepth 20000 in
theorem s_fits7 {Cv : Nat → mC} {w a sz last : Nat} {it : Nat → Int32} {of : Int32} {Q : zQ} {μ : zMu} {τ : Int64} (hcv : ∀ v, v ≤ last → m_cx (Cv v) w (zup μ 61 4 (nI v))) (hl : last < 32) (ha : a < 4) (hsz : μ 76 a = nI sz) (h30 : sz ≤ 30) (hit : ∀ j, j < 40 → μ 77 (40 * a + j) = it j) (hw9 : w ≤ 999) (h : ∀ μ2 τ2, nOff [129] μ μ2 → Q (some (.int (x_fits (fun v => decide ((m_go (Cv v) it w sz 0 255 (-1)).1 ≠ 0)) (last + 1)))) μ2 τ2) : Zc 47 yX11_fits cX11_fits 8 (some .int) [.ref 61, .int (nI a), .int 7, .int of, .int (nI last)] μ τ Q := by
  refine Zc.mk 3 [.ref 61, .int (nI a), .int 7, .int of, .int (nI last), .null, .null, .null] rfl (by decide) (Nat.le_of_ble_eq_true rfl) ?_
  refine Zw_iload_2 dX11_fits_0 ?_
  refine Zw_bipush (v := 7) dX11_fits_1 (by decide) ?_
  refine Zw_icmp_ne 13 dX11_fits_3 (by decide) (fun c => absurd c (by decide)) (fun _ => ?_)
  refine Zw_aload_0 dX11_fits_6 ?_
  refine Zw_geti lf_X11_107 dX11_fits_7 (by first | decide | assumption | omega) (by first | rfl | assumption) (by rfl) ?_
  refine Zw_goto 19 dX11_fits_10 (by decide) ?_
  refine Zw_istore_5 dX11_fits_19 rfl ?_
  refine Zw_iconst (v := 0) dX11_fits_21 (by decide) ?_
  refine Zw_istore_6 dX11_fits_22 rfl ?_
  refine Zw_iconst (v := 0) dX11_fits_24 (by decide) ?_
  refine Zw_istore_7 dX11_fits_25 rfl ?_
  exact l_fits7 hcv hl ha hsz h30 hit hw9 h (last + 2) 0 (μ 61 4) _ _ (by omega) (by omega) (by rw [zup_self]; exact nOff.refl _ _)
set_option maxRecDepth 20000 in
theorem l_fits6 {Q : zQ} {μ0 : zMu} {Cv : Nat → mC} {w a sz last : Nat} {it : Nat → Int32} {f : Nat} (hf5 : f < 5) (hcv : ∀ v, v ≤ last → m_cx (Cv v) w (zup μ0 67 f (nI v))) (hl : last < 32) (ha : a < 4) (hsz : μ0 76 a = nI sz) (h30 : sz ≤ 30) (hit : ∀ j, j < 40 → μ0 77 (40 * a + j) = it j) (hw9 : w ≤ 999) (h : ∀ μ2 τ2, nOff [129] μ0 μ2 → Q (some (.int (x_fits (fun v => decide ((m_go (Cv v) it w sz 0 255 (-1)).1 ≠ 0)) (last + 1)))) μ2 τ2) : ∀ m v x μ τ, last + 1 - v < m → v ≤ last + 1 → nOff [129] (zup μ0 67 f x) μ → Zw 47 RX11 cX11_fits 8 (some .int) Q 27 [.ref 61, .int (nI a), .int 6, .int (nI f), .int (nI last), .int (μ0 67 f), .int (q_orf (fun v => if (fun v => decide ((m_go (Cv v) it w sz 0 255 (-1)).1 ≠ 0)) v = true then q_bit v else 0) v), .int (nI v)] [] μ τ
  | 0, v, _, _, _, hm, _, _ => absurd hm (by omega)
  | m + 1, v, x, μ, τ, hm, hv, hO => by
    refine Zw_iload_7 dX11_fits_27 ?_
    refine Zw_iload_4 dX11_fits_29 ?_
    refine Zw_nicmp_gt (v) (last) 72 dX11_fits_31 (by decide) rfl rfl (by omega) (by omega) (fun c31 => ?_) (fun c31 => ?_)
    · refine Zw_aload_0 dX11_fits_72 ?_
      refine Zw_iload_2 dX11_fits_73 ?_
      refine Zw_iload_3 dX11_fits_74 ?_
      refine Zw_iload_5 dX11_fits_75 ?_
      refine Zw_V3 (k := 0) lm_X11_103 dX11_fits_77 (by decide) (by first | decide | assumption | omega) (by first | rfl | assumption) (by rfl) (Nat.le_of_ble_eq_true rfl) ?_
      refine s_lays6 hf5 ?_
      refine Zw_iload_6 dX11_fits_80 ?_
      refine Zw_ireturn dX11_fits_82 (by first | rfl | assumption) ?_
      obtain rfl : v = last + 1 := by omega
      have hb := hO.re (by simp) (μ0 67 f)
      rw [zup_self] at hb
      exact h _ _ hb
    · refine Zw_aload_0 dX11_fits_34 ?_
      refine Zw_iload_2 dX11_fits_35 ?_
      refine Zw_iload_3 dX11_fits_36 ?_
      refine Zw_iload_7 dX11_fits_37 ?_
      refine Zw_V3 (k := 0) lm_X11_103 dX11_fits_39 (by decide) (by first | decide | assumption | omega) (by first | rfl | assumption) (by rfl) (Nat.le_of_ble_eq_true rfl) ?_
      refine s_lays6 hf5 ?_
      refine Zw_iload_6 dX11_fits_42 ?_
      refine Zw_aload_0 dX11_fits_44 ?_
      refine Zw_iload_1 dX11_fits_45 ?_
      refine Zw_sipush (v := 255) dX11_fits_46 (by decide) ?_
      refine Zw_V2 (k := 46) lm_X11_380 dX11_fits_49 (by decide) (by first | decide | assumption | omega) (by first | rfl | assumption) (by rfl) (Nat.le_of_ble_eq_true rfl) ?_
      have hR := hO.re (by simp) (nI v)
      have e76 : (zup μ 67 f (nI v)) 76 = μ0 76 := by rw [hR.fr (by decide) (by simp), zup_ne (by decide)]
      have e77 : (zup μ 67 f (nI v)) 77 = μ0 77 := by rw [hR.fr (by decide) (by simp), zup_ne (by decide)]
      refine s_gone (C := Cv v) (it := it) ((hcv v (by omega)).off hR (by simp)) ha (by rw [e76]; exact hsz) h30 (fun j hj => by rw [e77]; exact hit j hj) hw9 ⟨255, by decide, rfl⟩ (fun μ2 τ2 o2 _ => ?_)
      refine Zw_if_ne 59 dX11_fits_52 (by decide) (fun c52 => ?_) (fun c52 => ?_)
      · refine Zw_iconst (v := 1) dX11_fits_59 (by decide) ?_
        refine Zw_iload_7 dX11_fits_60 ?_
        refine Zw_ishl dX11_fits_62 ?_
        refine Zw_ior dX11_fits_63 ?_
        refine Zw_istore_6 dX11_fits_64 rfl ?_
        refine Zw_iinc_7 dX11_fits_66 rfl (zincn _) ?_
        refine Zw_goto 27 dX11_fits_69 (by decide) ?_
        have hg : q_orf (fun v => if (fun v => decide ((m_go (Cv v) it w sz 0 255 (-1)).1 ≠ 0)) v = true then q_bit v else 0) (v + 1) = (q_orf (fun v => if (fun v => decide ((m_go (Cv v) it w sz 0 255 (-1)).1 ≠ 0)) v = true then q_bit v else 0) v) ||| q_bit v := by
          show (q_orf (fun v => if (fun v => decide ((m_go (Cv v) it w sz 0 255 (-1)).1 ≠ 0)) v = true then q_bit v else 0) v) ||| (if decide ((m_go (Cv v) it w sz 0 255 (-1)).1 ≠ 0) = true then q_bit v else 0) = _
          rw [if_pos (decide_eq_true c52)]
        have hz := l_fits6 hf5 hcv hl ha hsz h30 hit hw9 h m (v + 1) (nI v) μ2 τ2 (by omega) (by omega) (((hO.re (by simp) (nI v)).tr o2))
        rw [hg] at hz
        exact hz
      · refine Zw_iconst (v := 0) dX11_fits_55 (by decide) ?_
        refine Zw_goto 60 dX11_fits_56 (by decide) ?_
        refine Zw_iload_7 dX11_fits_60 ?_
        refine Zw_ishl dX11_fits_62 ?_
        refine Zw_ior dX11_fits_63 ?_
        refine Zw_istore_6 dX11_fits_64 rfl ?_
        refine Zw_iinc_7 dX11_fits_66 rfl (zincn _) ?_
        refine Zw_goto 27 dX11_fits_69 (by decide) ?_
        have hg : q_orf (fun v => if (fun v => decide ((m_go (Cv v) it w sz 0 255 (-1)).1 ≠ 0)) v = true then q_bit v else 0) (v + 1) = (q_orf (fun v => if (fun v => decide ((m_go (Cv v) it w sz 0 255 (-1)).1 ≠ 0)) v = true then q_bit v else 0) v) ||| 0 := by
          show (q_orf (fun v => if (fun v => decide ((m_go (Cv v) it w sz 0 255 (-1)).1 ≠ 0)) v = true then q_bit v else 0) v) ||| (if decide ((m_go (Cv v) it w sz 0 255 (-1)).1 ≠ 0) = true then q_bit v else 0) = _
          rw [if_neg (by rw [decide_eq_false (fun e => e c52)]; simp)]
        rw [shl0 v (by omega)]
        have hz := l_fits6 hf5 hcv hl ha hsz h30 hit hw9 h m (v + 1) (nI v) μ2 τ2 (by omega) (by omega) (((hO.re (by simp) (nI v)).tr o2))
        rw [hg] at hz
        exact hz
set_option maxRecDepth 20000 in
theorem s_fits6 {Cv : Nat → mC} {w a sz last : Nat} {it : Nat → Int32} {f n : Nat} {Q : zQ} {μ : zMu} {τ : Int64} (hn5 : n ≤ 5) (hn : μ 61 11 = nI n) (hfn : f < n) (hcv : ∀ v, v ≤ last → m_cx (Cv v) w (zup μ 67 f (nI v))) (hl : last < 32) (ha : a < 4) (hsz : μ 76 a = nI sz) (h30 : sz ≤ 30) (hit : ∀ j, j < 40 → μ 77 (40 * a + j) = it j) (hw9 : w ≤ 999) (h : ∀ μ2 τ2, nOff [129] μ μ2 → Q (some (.int (x_fits (fun v => decide ((m_go (Cv v) it w sz 0 255 (-1)).1 ≠ 0)) (last + 1)))) μ2 τ2) : Zc 47 yX11_fits cX11_fits 8 (some .int) [.ref 61, .int (nI a), .int 6, .int (nI f), .int (nI last)] μ τ Q := by
  refine Zc.mk 3 [.ref 61, .int (nI a), .int 6, .int (nI f), .int (nI last), .null, .null, .null] rfl (by decide) (Nat.le_of_ble_eq_true rfl) ?_
  refine Zw_iload_2 dX11_fits_0 ?_
  refine Zw_bipush (v := 7) dX11_fits_1 (by decide) ?_
  refine Zw_icmp_ne 13 dX11_fits_3 (by decide) (fun _ => ?_) (fun c => absurd c (by decide))
  refine Zw_aload_0 dX11_fits_13 ?_
  refine Zw_iload_3 dX11_fits_14 ?_
  refine Zw_iload_2 dX11_fits_15 ?_
  refine Zw_V2 (k := 45) lm_X11_99 dX11_fits_16 (by decide) (by first | decide | assumption | omega) (by first | rfl | assumption) (by rfl) (Nat.le_of_ble_eq_true rfl) ?_
  refine s_mtold6 n hn5 hn hfn ?_
  refine Zw_istore_5 dX11_fits_19 rfl ?_
  refine Zw_iconst (v := 0) dX11_fits_21 (by decide) ?_
  refine Zw_istore_6 dX11_fits_22 rfl ?_
  refine Zw_iconst (v := 0) dX11_fits_24 (by decide) ?_
  refine Zw_istore_7 dX11_fits_25 rfl ?_
  exact l_fits6 (by omega) hcv hl ha hsz h30 hit hw9 h (last + 2) 0 (μ 67 f) _ _ (by omega) (by omega) (by rw [zup_self]; exact nOff.refl _ _)
set_option maxRecDepth 20000 in
theorem l_fits4 {Q : zQ} {μ0 : zMu} {Cv : Nat → mC} {w a sz last : Nat} {it : Nat → Int32} {f : Nat} (hf5 : f < 5) (hcv : ∀ v, v ≤ last → m_cx (Cv v) w (zup μ0 68 (3 * f) (nI v))) (hl : last < 32) (ha : a < 4) (hsz : μ0 76 a = nI sz) (h30 : sz ≤ 30) (hit : ∀ j, j < 40 → μ0 77 (40 * a + j) = it j) (hw9 : w ≤ 999) (h : ∀ μ2 τ2, nOff [129] μ0 μ2 → Q (some (.int (x_fits (fun v => decide ((m_go (Cv v) it w sz 0 255 (-1)).1 ≠ 0)) (last + 1)))) μ2 τ2) : ∀ m v x μ τ, last + 1 - v < m → v ≤ last + 1 → nOff [129] (zup μ0 68 (3 * f) x) μ → Zw 47 RX11 cX11_fits 8 (some .int) Q 27 [.ref 61, .int (nI a), .int 4, .int (nI f), .int (nI last), .int (μ0 68 (3 * f)), .int (q_orf (fun v => if (fun v => decide ((m_go (Cv v) it w sz 0 255 (-1)).1 ≠ 0)) v = true then q_bit v else 0) v), .int (nI v)] [] μ τ
  | 0, v, _, _, _, hm, _, _ => absurd hm (by omega)
  | m + 1, v, x, μ, τ, hm, hv, hO => by
    refine Zw_iload_7 dX11_fits_27 ?_
    refine Zw_iload_4 dX11_fits_29 ?_
    refine Zw_nicmp_gt (v) (last) 72 dX11_fits_31 (by decide) rfl rfl (by omega) (by omega) (fun c31 => ?_) (fun c31 => ?_)
    · refine Zw_aload_0 dX11_fits_72 ?_
      refine Zw_iload_2 dX11_fits_73 ?_
      refine Zw_iload_3 dX11_fits_74 ?_
      refine Zw_iload_5 dX11_fits_75 ?_
      refine Zw_V3 (k := 0) lm_X11_103 dX11_fits_77 (by decide) (by first | decide | assumption | omega) (by first | rfl | assumption) (by rfl) (Nat.le_of_ble_eq_true rfl) ?_
      refine s_lays4 hf5 ?_
      rw [show 3 * f + 0 = 3 * f from rfl]
      refine Zw_iload_6 dX11_fits_80 ?_
      refine Zw_ireturn dX11_fits_82 (by first | rfl | assumption) ?_
      obtain rfl : v = last + 1 := by omega
      have hb := hO.re (by simp) (μ0 68 (3 * f))
      rw [zup_self] at hb
      exact h _ _ hb
    · refine Zw_aload_0 dX11_fits_34 ?_
      refine Zw_iload_2 dX11_fits_35 ?_
      refine Zw_iload_3 dX11_fits_36 ?_
      refine Zw_iload_7 dX11_fits_37 ?_
      refine Zw_V3 (k := 0) lm_X11_103 dX11_fits_39 (by decide) (by first | decide | assumption | omega) (by first | rfl | assumption) (by rfl) (Nat.le_of_ble_eq_true rfl) ?_
      refine s_lays4 hf5 ?_
      rw [show 3 * f + 0 = 3 * f from rfl]
      refine Zw_iload_6 dX11_fits_42 ?_
      refine Zw_aload_0 dX11_fits_44 ?_
      refine Zw_iload_1 dX11_fits_45 ?_
      refine Zw_sipush (v := 255) dX11_fits_46 (by decide) ?_
      refine Zw_V2 (k := 46) lm_X11_380 dX11_fits_49 (by decide) (by first | decide | assumption | omega) (by first | rfl | assumption) (by rfl) (Nat.le_of_ble_eq_true rfl) ?_
      have hR := hO.re (by simp) (nI v)
      have e76 : (zup μ 68 (3 * f) (nI v)) 76 = μ0 76 := by rw [hR.fr (by decide) (by simp), zup_ne (by decide)]
      have e77 : (zup μ 68 (3 * f) (nI v)) 77 = μ0 77 := by rw [hR.fr (by decide) (by simp), zup_ne (by decide)]
      refine s_gone (C := Cv v) (it := it) ((hcv v (by omega)).off hR (by simp)) ha (by rw [e76]; exact hsz) h30 (fun j hj => by rw [e77]; exact hit j hj) hw9 ⟨255, by decide, rfl⟩ (fun μ2 τ2 o2 _ => ?_)
      refine Zw_if_ne 59 dX11_fits_52 (by decide) (fun c52 => ?_) (fun c52 => ?_)
      · refine Zw_iconst (v := 1) dX11_fits_59 (by decide) ?_
        refine Zw_iload_7 dX11_fits_60 ?_
        refine Zw_ishl dX11_fits_62 ?_
        refine Zw_ior dX11_fits_63 ?_
        refine Zw_istore_6 dX11_fits_64 rfl ?_
        refine Zw_iinc_7 dX11_fits_66 rfl (zincn _) ?_
        refine Zw_goto 27 dX11_fits_69 (by decide) ?_
        have hg : q_orf (fun v => if (fun v => decide ((m_go (Cv v) it w sz 0 255 (-1)).1 ≠ 0)) v = true then q_bit v else 0) (v + 1) = (q_orf (fun v => if (fun v => decide ((m_go (Cv v) it w sz 0 255 (-1)).1 ≠ 0)) v = true then q_bit v else 0) v) ||| q_bit v := by
          show (q_orf (fun v => if (fun v => decide ((m_go (Cv v) it w sz 0 255 (-1)).1 ≠ 0)) v = true then q_bit v else 0) v) ||| (if decide ((m_go (Cv v) it w sz 0 255 (-1)).1 ≠ 0) = true then q_bit v else 0) = _
          rw [if_pos (decide_eq_true c52)]
        have hz := l_fits4 hf5 hcv hl ha hsz h30 hit hw9 h m (v + 1) (nI v) μ2 τ2 (by omega) (by omega) (((hO.re (by simp) (nI v)).tr o2))
        rw [hg] at hz
        exact hz
      · refine Zw_iconst (v := 0) dX11_fits_55 (by decide) ?_
        refine Zw_goto 60 dX11_fits_56 (by decide) ?_
        refine Zw_iload_7 dX11_fits_60 ?_
        refine Zw_ishl dX11_fits_62 ?_
        refine Zw_ior dX11_fits_63 ?_
        refine Zw_istore_6 dX11_fits_64 rfl ?_
        refine Zw_iinc_7 dX11_fits_66 rfl (zincn _) ?_
        refine Zw_goto 27 dX11_fits_69 (by decide) ?_
        have hg : q_orf (fun v => if (fun v => decide ((m_go (Cv v) it w sz 0 255 (-1)).1 ≠ 0)) v = true then q_bit v else 0) (v + 1) = (q_orf (fun v => if (fun v => decide ((m_go (Cv v) it w sz 0 255 (-1)).1 ≠ 0)) v = true then q_bit v else 0) v) ||| 0 := by
          show (q_orf (fun v => if (fun v => decide ((m_go (Cv v) it w sz 0 255 (-1)).1 ≠ 0)) v = true then q_bit v else 0) v) ||| (if decide ((m_go (Cv v) it w sz 0 255 (-1)).1 ≠ 0) = true then q_bit v else 0) = _
          rw [if_neg (by rw [decide_eq_false (fun e => e c52)]; simp)]
        rw [shl0 v (by omega)]
        have hz := l_fits4 hf5 hcv hl ha hsz h30 hit hw9 h m (v + 1) (nI v) μ2 τ2 (by omega) (by omega) (((hO.re (by simp) (nI v)).tr o2))
        rw [hg] at hz
        exact hz
set_option maxRecDepth 20000 in
theorem s_fits4 {Cv : Nat → mC} {w a sz last : Nat} {it : Nat → Int32} {f n : Nat} {Q : zQ} {μ : zMu} {τ : Int64} (hn5 : n ≤ 5) (hn : μ 61 11 = nI n) (hfn : f < n) (hcv : ∀ v, v ≤ last → m_cx (Cv v) w (zup μ 68 (3 * f) (nI v))) (hl : last < 32) (ha : a < 4) (hsz : μ 76 a = nI sz) (h30 : sz ≤ 30) (hit : ∀ j, j < 40 → μ 77 (40 * a + j) = it j) (hw9 : w ≤ 999) (h : ∀ μ2 τ2, nOff [129] μ μ2 → Q (some (.int (x_fits (fun v => decide ((m_go (Cv v) it w sz 0 255 (-1)).1 ≠ 0)) (last + 1)))) μ2 τ2) : Zc 47 yX11_fits cX11_fits 8 (some .int) [.ref 61, .int (nI a), .int 4, .int (nI f), .int (nI last)] μ τ Q := by
  refine Zc.mk 3 [.ref 61, .int (nI a), .int 4, .int (nI f), .int (nI last), .null, .null, .null] rfl (by decide) (Nat.le_of_ble_eq_true rfl) ?_
  refine Zw_iload_2 dX11_fits_0 ?_
  refine Zw_bipush (v := 7) dX11_fits_1 (by decide) ?_
  refine Zw_icmp_ne 13 dX11_fits_3 (by decide) (fun _ => ?_) (fun c => absurd c (by decide))
  refine Zw_aload_0 dX11_fits_13 ?_
  refine Zw_iload_3 dX11_fits_14 ?_
  refine Zw_iload_2 dX11_fits_15 ?_
  refine Zw_V2 (k := 45) lm_X11_99 dX11_fits_16 (by decide) (by first | decide | assumption | omega) (by first | rfl | assumption) (by rfl) (Nat.le_of_ble_eq_true rfl) ?_
  refine s_mtold4 n hn5 hn hfn ?_
  refine Zw_istore_5 dX11_fits_19 rfl ?_
  refine Zw_iconst (v := 0) dX11_fits_21 (by decide) ?_
  refine Zw_istore_6 dX11_fits_22 rfl ?_
  refine Zw_iconst (v := 0) dX11_fits_24 (by decide) ?_
  refine Zw_istore_7 dX11_fits_25 rfl ?_
  exact l_fits4 (by omega) hcv hl ha hsz h30 hit hw9 h (last + 2) 0 (μ 68 (3 * f)) _ _ (by omega) (by omega) (by rw [zup_self]; exact nOff.refl _ _)
set_option maxRecDepth 20000 in
theorem s_mtellsB {s what : Int32} {Q : zQ} {μ : zMu} {τ : Int64} (hbad : ¬ (vp_in s 4 ∧ vp_in what 5)) (h : Q (some (.int (-2))) μ τ) : Zc 48 yX11_tells cX11_tells 6 (some .int) [.ref 61, .int s, .int what] μ τ Q := by
  refine Zc.mk 3 [.ref 61, .int s, .int what, .null, .null, .null] rfl (by decide) (Nat.le_of_ble_eq_true rfl) ?_
  refine Zw_iload_1 dX11_tells_0 ?_
  refine Zw_S1 (k := 1) lm_X11_383 dX11_tells_1 (by decide) (Nat.le_of_ble_eq_true rfl) ?_
  refine s_isSheet (fun b1 => ?_) (fun b1 => ?_)
  · refine Zw_if_eq 19 dX11_tells_4 (by decide) (fun c => absurd c (by decide)) (fun _ => ?_)
    refine Zw_iload_2 dX11_tells_7 ?_
    refine Zw_i2l dX11_tells_8 ?_
    refine Zw_lconst (v := 0) dX11_tells_9 (by decide) ?_
    refine Zw_ldc2 dX11_tells_10 zw22 ?_
    refine Zw_S3 (k := 0) lm_X11_76 dX11_tells_13 (by decide) (Nat.le_of_ble_eq_true rfl) ?_
    refine s_in0 5 (by decide) (fun b2 => ?_) (fun b2 => ?_)
    · refine Zw_if_ne 22 dX11_tells_16 (by decide) (fun _ => ?_) (fun c => absurd c (by decide))
      exact absurd ⟨b1, b2⟩ hbad
    · refine Zw_if_ne 22 dX11_tells_16 (by decide) (fun c => absurd c (by decide)) (fun _ => ?_)
      refine Zw_bipush (v := (-2)) dX11_tells_19 (by decide) ?_
      refine Zw_ireturn dX11_tells_21 (by first | rfl | assumption) ?_
      exact h
  · refine Zw_if_eq 19 dX11_tells_4 (by decide) (fun _ => ?_) (fun c => absurd c (by decide))
    refine Zw_bipush (v := (-2)) dX11_tells_19 (by decide) ?_
    refine Zw_ireturn dX11_tells_21 (by first | rfl | assumption) ?_
    exact h
set_option maxRecDepth 20000 in
theorem s_mtellsN {a : Nat} {what : Int32} {Q : zQ} {μ : zMu} {τ : Int64} (ha : a < 4) (hwh : vp_in what 5) (hth : μ 74 a = 0) (h : Q (some (.int (-11))) μ τ) : Zc 48 yX11_tells cX11_tells 6 (some .int) [.ref 61, .int (nI a), .int what] μ τ Q := by
  refine Zc.mk 3 [.ref 61, .int (nI a), .int what, .null, .null, .null] rfl (by decide) (Nat.le_of_ble_eq_true rfl) ?_
  refine Zw_iload_1 dX11_tells_0 ?_
  refine Zw_S1 (k := 1) lm_X11_383 dX11_tells_1 (by decide) (Nat.le_of_ble_eq_true rfl) ?_
  refine s_isSheet (fun _ => ?_) (fun a0 => absurd (vp_in_nI ha (by omega)) a0)
  refine Zw_if_eq 19 dX11_tells_4 (by decide) (fun c => absurd c (by decide)) (fun _ => ?_)
  refine Zw_iload_2 dX11_tells_7 ?_
  refine Zw_i2l dX11_tells_8 ?_
  refine Zw_lconst (v := 0) dX11_tells_9 (by decide) ?_
  refine Zw_ldc2 dX11_tells_10 zw22 ?_
  refine Zw_S3 (k := 0) lm_X11_76 dX11_tells_13 (by decide) (Nat.le_of_ble_eq_true rfl) ?_
  refine s_in0 5 (by decide) (fun _ => ?_) (fun a0 => absurd hwh a0)
  refine Zw_if_ne 22 dX11_tells_16 (by decide) (fun _ => ?_) (fun c => absurd c (by decide))
  refine Zw_aload_0 dX11_tells_22 ?_
  refine Zw_iload_1 dX11_tells_23 ?_
  refine Zw_V1 (k := 0) lm_X11_388 dX11_tells_24 (by decide) (by first | decide | assumption | omega) (by first | rfl | assumption) (by rfl) (Nat.le_of_ble_eq_true rfl) ?_
  refine s_toldBad (k := 0) ha (by decide) (fun e => absurd hth e) (fun _ => ?_) (fun e => absurd hth e) (fun e => absurd hth e)
  refine Zw_istore_3 dX11_tells_27 rfl ?_
  refine Zw_iload_3 dX11_tells_28 ?_
  refine Zw_if_eq 34 dX11_tells_29 (by decide) (fun c => absurd c (by decide)) (fun _ => ?_)
  refine Zw_iload_3 dX11_tells_32 ?_
  refine Zw_ireturn dX11_tells_33 (by first | rfl | assumption) ?_
  exact h
set_option maxRecDepth 20000 in
theorem s_mtellsG {a k : Nat} {what : Int32} {Q : zQ} {μ : zMu} {τ : Int64} (ha : a < 4) (hk : k ≤ 40) (hwh : vp_in what 5) (hth : ¬ μ 74 a = 0) (hsz : μ 76 a = nI k) (hb : 30 < k) (h : Q (some (.int (-2))) μ τ) : Zc 48 yX11_tells cX11_tells 6 (some .int) [.ref 61, .int (nI a), .int what] μ τ Q := by
  refine Zc.mk 3 [.ref 61, .int (nI a), .int what, .null, .null, .null] rfl (by decide) (Nat.le_of_ble_eq_true rfl) ?_
  refine Zw_iload_1 dX11_tells_0 ?_
  refine Zw_S1 (k := 1) lm_X11_383 dX11_tells_1 (by decide) (Nat.le_of_ble_eq_true rfl) ?_
  refine s_isSheet (fun _ => ?_) (fun a0 => absurd (vp_in_nI ha (by omega)) a0)
  refine Zw_if_eq 19 dX11_tells_4 (by decide) (fun c => absurd c (by decide)) (fun _ => ?_)
  refine Zw_iload_2 dX11_tells_7 ?_
  refine Zw_i2l dX11_tells_8 ?_
  refine Zw_lconst (v := 0) dX11_tells_9 (by decide) ?_
  refine Zw_ldc2 dX11_tells_10 zw22 ?_
  refine Zw_S3 (k := 0) lm_X11_76 dX11_tells_13 (by decide) (Nat.le_of_ble_eq_true rfl) ?_
  refine s_in0 5 (by decide) (fun _ => ?_) (fun a0 => absurd hwh a0)
  refine Zw_if_ne 22 dX11_tells_16 (by decide) (fun _ => ?_) (fun c => absurd c (by decide))
  refine Zw_aload_0 dX11_tells_22 ?_
  refine Zw_iload_1 dX11_tells_23 ?_
  refine Zw_V1 (k := 0) lm_X11_388 dX11_tells_24 (by decide) (by first | decide | assumption | omega) (by first | rfl | assumption) (by rfl) (Nat.le_of_ble_eq_true rfl) ?_
  refine s_toldBad (k := k) ha (by omega) (fun _ => hsz) (fun e => absurd e hth) (fun _ _ => ?_) (fun _ e => absurd e (by omega))
  refine Zw_istore_3 dX11_tells_27 rfl ?_
  refine Zw_iload_3 dX11_tells_28 ?_
  refine Zw_if_eq 34 dX11_tells_29 (by decide) (fun c => absurd c (by decide)) (fun _ => ?_)
  refine Zw_iload_3 dX11_tells_32 ?_
  refine Zw_ireturn dX11_tells_33 (by first | rfl | assumption) ?_
  exact h
set_option maxRecDepth 20000 in
theorem s_mtells0 {C : mC} {w a sz : Nat} {it : Nat → Int32} {Q : zQ} {μ : zMu} {τ : Int64} (hc : m_cx C w μ) (ha : a < 4) (hsz : μ 76 a = nI sz) (h30 : sz ≤ 30) (hit : ∀ j, j < 40 → μ 77 (40 * a + j) = it j) (hw9 : w ≤ 999) (hth : ¬ μ 74 a = 0) (h : ∀ μ2 τ2, nOff [129] μ μ2 → Q (some (.int (m_go C it w sz 0 255 (-1)).1)) μ2 τ2) : Zc 48 yX11_tells cX11_tells 6 (some .int) [.ref 61, .int (nI a), .int 0] μ τ Q := by
  refine Zc.mk 3 [.ref 61, .int (nI a), .int 0, .null, .null, .null] rfl (by decide) (Nat.le_of_ble_eq_true rfl) ?_
  refine Zw_iload_1 dX11_tells_0 ?_
  refine Zw_S1 (k := 1) lm_X11_383 dX11_tells_1 (by decide) (Nat.le_of_ble_eq_true rfl) ?_
  refine s_isSheet (fun _ => ?_) (fun a0 => absurd (vp_in_nI ha (by omega)) a0)
  refine Zw_if_eq 19 dX11_tells_4 (by decide) (fun c => absurd c (by decide)) (fun _ => ?_)
  refine Zw_iload_2 dX11_tells_7 ?_
  refine Zw_i2l dX11_tells_8 ?_
  refine Zw_lconst (v := 0) dX11_tells_9 (by decide) ?_
  refine Zw_ldc2 dX11_tells_10 zw22 ?_
  refine Zw_S3 (k := 0) lm_X11_76 dX11_tells_13 (by decide) (Nat.le_of_ble_eq_true rfl) ?_
  refine s_in0 5 (by decide) (fun _ => ?_) (fun a0 => absurd (by unfold vp_in; decide) a0)
  refine Zw_if_ne 22 dX11_tells_16 (by decide) (fun _ => ?_) (fun c => absurd c (by decide))
  refine Zw_aload_0 dX11_tells_22 ?_
  refine Zw_iload_1 dX11_tells_23 ?_
  refine Zw_V1 (k := 0) lm_X11_388 dX11_tells_24 (by decide) (by first | decide | assumption | omega) (by first | rfl | assumption) (by rfl) (Nat.le_of_ble_eq_true rfl) ?_
  refine s_toldBad (k := sz) ha (by omega) (fun _ => hsz) (fun e => absurd e hth) (fun _ e => absurd e (by omega)) (fun _ _ => ?_)
  refine Zw_istore_3 dX11_tells_27 rfl ?_
  refine Zw_iload_3 dX11_tells_28 ?_
  refine Zw_if_eq 34 dX11_tells_29 (by decide) (fun _ => ?_) (fun c => absurd c (by decide))
  refine Zw_iload_2 dX11_tells_34 ?_
  refine Zw_iconst (v := 2) dX11_tells_35 (by decide) ?_
  refine Zw_icmp_le 71 dX11_tells_36 (by decide) (fun _ => ?_) (fun c => absurd c (by decide))
  refine Zw_iload_2 dX11_tells_71 ?_
  refine Zw_iconst (v := 1) dX11_tells_72 (by decide) ?_
  refine Zw_icmp_ne 123 dX11_tells_73 (by decide) (fun _ => ?_) (fun c => absurd c (by decide))
  refine Zw_aload_0 dX11_tells_123 ?_
  refine Zw_iload_1 dX11_tells_124 ?_
  refine Zw_sipush (v := 255) dX11_tells_125 (by decide) ?_
  refine Zw_V2 (k := 46) lm_X11_380 dX11_tells_128 (by decide) (by first | decide | assumption | omega) (by first | rfl | assumption) (by rfl) (Nat.le_of_ble_eq_true rfl) ?_
  refine s_gone hc ha hsz h30 hit hw9 ⟨255, by decide, rfl⟩ (fun μ1 τ1 o1 f1 => ?_)
  refine Zw_istore_4 dX11_tells_131 rfl ?_
  refine Zw_iload_2 dX11_tells_133 ?_
  refine Zw_if_ne 142 dX11_tells_134 (by decide) (fun c => absurd c (by decide)) (fun _ => ?_)
  refine Zw_iload_4 dX11_tells_137 ?_
  refine Zw_goto 146 dX11_tells_139 (by decide) ?_
  refine Zw_ireturn dX11_tells_146 (by first | rfl | assumption) ?_
  exact h _ _ o1
set_option maxRecDepth 20000 in
theorem s_mtells2 {C : mC} {w a sz : Nat} {it : Nat → Int32} {Q : zQ} {μ : zMu} {τ : Int64} (hc : m_cx C w μ) (ha : a < 4) (hsz : μ 76 a = nI sz) (h30 : sz ≤ 30) (hit : ∀ j, j < 40 → μ 77 (40 * a + j) = it j) (hw9 : w ≤ 999) (hth : ¬ μ 74 a = 0) (h : ∀ μ2 τ2, nOff [129] μ μ2 → Q (some (.int (m_go C it w sz 0 255 (-1)).2)) μ2 τ2) : Zc 48 yX11_tells cX11_tells 6 (some .int) [.ref 61, .int (nI a), .int 2] μ τ Q := by
  refine Zc.mk 3 [.ref 61, .int (nI a), .int 2, .null, .null, .null] rfl (by decide) (Nat.le_of_ble_eq_true rfl) ?_
  refine Zw_iload_1 dX11_tells_0 ?_
  refine Zw_S1 (k := 1) lm_X11_383 dX11_tells_1 (by decide) (Nat.le_of_ble_eq_true rfl) ?_
  refine s_isSheet (fun _ => ?_) (fun a0 => absurd (vp_in_nI ha (by omega)) a0)
  refine Zw_if_eq 19 dX11_tells_4 (by decide) (fun c => absurd c (by decide)) (fun _ => ?_)
  refine Zw_iload_2 dX11_tells_7 ?_
  refine Zw_i2l dX11_tells_8 ?_
  refine Zw_lconst (v := 0) dX11_tells_9 (by decide) ?_
  refine Zw_ldc2 dX11_tells_10 zw22 ?_
  refine Zw_S3 (k := 0) lm_X11_76 dX11_tells_13 (by decide) (Nat.le_of_ble_eq_true rfl) ?_
  refine s_in0 5 (by decide) (fun _ => ?_) (fun a0 => absurd (by unfold vp_in; decide) a0)
  refine Zw_if_ne 22 dX11_tells_16 (by decide) (fun _ => ?_) (fun c => absurd c (by decide))
  refine Zw_aload_0 dX11_tells_22 ?_
  refine Zw_iload_1 dX11_tells_23 ?_
  refine Zw_V1 (k := 0) lm_X11_388 dX11_tells_24 (by decide) (by first | decide | assumption | omega) (by first | rfl | assumption) (by rfl) (Nat.le_of_ble_eq_true rfl) ?_
  refine s_toldBad (k := sz) ha (by omega) (fun _ => hsz) (fun e => absurd e hth) (fun _ e => absurd e (by omega)) (fun _ _ => ?_)
  refine Zw_istore_3 dX11_tells_27 rfl ?_
  refine Zw_iload_3 dX11_tells_28 ?_
  refine Zw_if_eq 34 dX11_tells_29 (by decide) (fun _ => ?_) (fun c => absurd c (by decide))
  refine Zw_iload_2 dX11_tells_34 ?_
  refine Zw_iconst (v := 2) dX11_tells_35 (by decide) ?_
  refine Zw_icmp_le 71 dX11_tells_36 (by decide) (fun _ => ?_) (fun c => absurd c (by decide))
  refine Zw_iload_2 dX11_tells_71 ?_
  refine Zw_iconst (v := 1) dX11_tells_72 (by decide) ?_
  refine Zw_icmp_ne 123 dX11_tells_73 (by decide) (fun _ => ?_) (fun c => absurd c (by decide))
  refine Zw_aload_0 dX11_tells_123 ?_
  refine Zw_iload_1 dX11_tells_124 ?_
  refine Zw_sipush (v := 255) dX11_tells_125 (by decide) ?_
  refine Zw_V2 (k := 46) lm_X11_380 dX11_tells_128 (by decide) (by first | decide | assumption | omega) (by first | rfl | assumption) (by rfl) (Nat.le_of_ble_eq_true rfl) ?_
  refine s_gone hc ha hsz h30 hit hw9 ⟨255, by decide, rfl⟩ (fun μ1 τ1 o1 f1 => ?_)
  refine Zw_istore_4 dX11_tells_131 rfl ?_
  refine Zw_iload_2 dX11_tells_133 ?_
  refine Zw_if_ne 142 dX11_tells_134 (by decide) (fun _ => ?_) (fun c => absurd c (by decide))
  refine Zw_aload_0 dX11_tells_142 ?_
  refine Zw_getv ((m_go C it w sz 0 255 (-1)).2) lf_X11_374 dX11_tells_143 (by first | decide | assumption | omega) (by first | rfl | assumption) (by rfl) f1 ?_
  refine Zw_ireturn dX11_tells_146 (by first | rfl | assumption) ?_
  exact h _ _ o1
set_option maxRecDepth 20000 in
theorem l_mtn {Q : zQ} {μ0 : zMu} {C : mC} {w a sz : Nat} {it : Nat → Int32} (hc : m_cx C w μ0) (ha : a < 4) (hsz : μ0 76 a = nI sz) (h30 : sz ≤ 30) (hit : ∀ j, j < 40 → μ0 77 (40 * a + j) = it j) (hw9 : w ≤ 999) (h : ∀ μ2 τ2, nOff [129] μ0 μ2 → Q (some (.int (x_fits (fun p => decide ((m_go C it w sz 0 (q_bit p) (-1)).1 ≠ 0)) 8))) μ2 τ2) : ∀ m i μ τ, 8 - i < m → i ≤ 8 → nOff [129] μ0 μ → Zw 48 RX11 cX11_tells 6 (some .int) Q 82 [.ref 61, .int (nI a), .int 1, .int 0, .int (q_orf (fun p => if (fun p => decide ((m_go C it w sz 0 (q_bit p) (-1)).1 ≠ 0)) p = true then q_bit p else 0) i), .int (nI i)] [] μ τ
  | 0, i, _, _, hm, _, _ => absurd hm (by omega)
  | m + 1, i, μ, τ, hm, hi, hO => by
    refine Zw_iload_5 dX11_tells_82 ?_
    refine Zw_bipush (v := 8) dX11_tells_84 (by decide) ?_
    refine Zw_nicmp_ge (i) (8) 120 dX11_tells_86 (by decide) rfl rfl (by omega) (by omega) (fun c86 => ?_) (fun c86 => ?_)
    · refine Zw_iload_4 dX11_tells_120 ?_
      refine Zw_ireturn dX11_tells_122 (by first | rfl | assumption) ?_
      obtain rfl : i = 8 := by omega
      exact h _ _ hO
    · refine Zw_iload_4 dX11_tells_89 ?_
      refine Zw_aload_0 dX11_tells_91 ?_
      refine Zw_iload_1 dX11_tells_92 ?_
      refine Zw_iconst (v := 1) dX11_tells_93 (by decide) ?_
      refine Zw_iload_5 dX11_tells_94 ?_
      refine Zw_ishl dX11_tells_96 ?_
      refine Zw_V2 (k := 46) lm_X11_380 dX11_tells_97 (by decide) (by first | decide | assumption | omega) (by first | rfl | assumption) (by rfl) (Nat.le_of_ble_eq_true rfl) ?_
      refine s_gone (f0 := q_bit i) (it := it) (hc.off hO (by simp)) ha (by rw [hO.fr (by decide) (by simp)]; exact hsz) h30 (fun j hj => by rw [hO.fr (by decide) (by simp)]; exact hit j hj) hw9 (r8_bit i (by omega)) (fun μ1 τ1 o1 _ => ?_)
      refine Zw_if_ne 107 dX11_tells_100 (by decide) (fun c100 => ?_) (fun c100 => ?_)
      · refine Zw_iconst (v := 1) dX11_tells_107 (by decide) ?_
        refine Zw_iload_5 dX11_tells_108 ?_
        refine Zw_ishl dX11_tells_110 ?_
        refine Zw_ior dX11_tells_111 ?_
        refine Zw_istore_4 dX11_tells_112 rfl ?_
        refine Zw_iinc_5 dX11_tells_114 rfl (zincn _) ?_
        refine Zw_goto 82 dX11_tells_117 (by decide) ?_
        have hg : (q_orf (fun p => if (fun p => decide ((m_go C it w sz 0 (q_bit p) (-1)).1 ≠ 0)) p = true then q_bit p else 0) (i + 1)) = (q_orf (fun p => if (fun p => decide ((m_go C it w sz 0 (q_bit p) (-1)).1 ≠ 0)) p = true then q_bit p else 0) i) ||| q_bit i := by
          show (q_orf (fun p => if (fun p => decide ((m_go C it w sz 0 (q_bit p) (-1)).1 ≠ 0)) p = true then q_bit p else 0) i) ||| (if decide ((m_go C it w sz 0 (q_bit i) (-1)).1 ≠ 0) = true then q_bit i else 0) = _
          rw [if_pos (decide_eq_true c100)]
        have hz := l_mtn hc ha hsz h30 hit hw9 h m (i + 1) μ1 τ1 (by omega) (by omega) (hO.tr o1)
        rw [hg] at hz
        exact hz
      · refine Zw_iconst (v := 0) dX11_tells_103 (by decide) ?_
        refine Zw_goto 108 dX11_tells_104 (by decide) ?_
        refine Zw_iload_5 dX11_tells_108 ?_
        refine Zw_ishl dX11_tells_110 ?_
        refine Zw_ior dX11_tells_111 ?_
        refine Zw_istore_4 dX11_tells_112 rfl ?_
        refine Zw_iinc_5 dX11_tells_114 rfl (zincn _) ?_
        refine Zw_goto 82 dX11_tells_117 (by decide) ?_
        have hg : (q_orf (fun p => if (fun p => decide ((m_go C it w sz 0 (q_bit p) (-1)).1 ≠ 0)) p = true then q_bit p else 0) (i + 1)) = (q_orf (fun p => if (fun p => decide ((m_go C it w sz 0 (q_bit p) (-1)).1 ≠ 0)) p = true then q_bit p else 0) i) ||| 0 := by
          show (q_orf (fun p => if (fun p => decide ((m_go C it w sz 0 (q_bit p) (-1)).1 ≠ 0)) p = true then q_bit p else 0) i) ||| (if decide ((m_go C it w sz 0 (q_bit i) (-1)).1 ≠ 0) = true then q_bit i else 0) = _
          rw [if_neg (by rw [decide_eq_false (fun e => e c100)]; simp)]
        rw [shl0 i (by omega)]
        have hz := l_mtn hc ha hsz h30 hit hw9 h m (i + 1) μ1 τ1 (by omega) (by omega) (hO.tr o1)
        rw [hg] at hz
        exact hz
set_option maxRecDepth 20000 in
theorem s_mtells1 {C : mC} {w a sz : Nat} {it : Nat → Int32} {Q : zQ} {μ : zMu} {τ : Int64} (hc : m_cx C w μ) (ha : a < 4) (hsz : μ 76 a = nI sz) (h30 : sz ≤ 30) (hit : ∀ j, j < 40 → μ 77 (40 * a + j) = it j) (hw9 : w ≤ 999) (hth : ¬ μ 74 a = 0) (h : ∀ μ2 τ2, nOff [129] μ μ2 → Q (some (.int (x_fits (fun p => decide ((m_go C it w sz 0 (q_bit p) (-1)).1 ≠ 0)) 8))) μ2 τ2) : Zc 48 yX11_tells cX11_tells 6 (some .int) [.ref 61, .int (nI a), .int 1] μ τ Q := by
  refine Zc.mk 3 [.ref 61, .int (nI a), .int 1, .null, .null, .null] rfl (by decide) (Nat.le_of_ble_eq_true rfl) ?_
  refine Zw_iload_1 dX11_tells_0 ?_
  refine Zw_S1 (k := 1) lm_X11_383 dX11_tells_1 (by decide) (Nat.le_of_ble_eq_true rfl) ?_
  refine s_isSheet (fun _ => ?_) (fun a0 => absurd (vp_in_nI ha (by omega)) a0)
  refine Zw_if_eq 19 dX11_tells_4 (by decide) (fun c => absurd c (by decide)) (fun _ => ?_)
  refine Zw_iload_2 dX11_tells_7 ?_
  refine Zw_i2l dX11_tells_8 ?_
  refine Zw_lconst (v := 0) dX11_tells_9 (by decide) ?_
  refine Zw_ldc2 dX11_tells_10 zw22 ?_
  refine Zw_S3 (k := 0) lm_X11_76 dX11_tells_13 (by decide) (Nat.le_of_ble_eq_true rfl) ?_
  refine s_in0 5 (by decide) (fun _ => ?_) (fun a0 => absurd (by unfold vp_in; decide) a0)
  refine Zw_if_ne 22 dX11_tells_16 (by decide) (fun _ => ?_) (fun c => absurd c (by decide))
  refine Zw_aload_0 dX11_tells_22 ?_
  refine Zw_iload_1 dX11_tells_23 ?_
  refine Zw_V1 (k := 0) lm_X11_388 dX11_tells_24 (by decide) (by first | decide | assumption | omega) (by first | rfl | assumption) (by rfl) (Nat.le_of_ble_eq_true rfl) ?_
  refine s_toldBad (k := sz) ha (by omega) (fun _ => hsz) (fun e => absurd e hth) (fun _ e => absurd e (by omega)) (fun _ _ => ?_)
  refine Zw_istore_3 dX11_tells_27 rfl ?_
  refine Zw_iload_3 dX11_tells_28 ?_
  refine Zw_if_eq 34 dX11_tells_29 (by decide) (fun _ => ?_) (fun c => absurd c (by decide))
  refine Zw_iload_2 dX11_tells_34 ?_
  refine Zw_iconst (v := 2) dX11_tells_35 (by decide) ?_
  refine Zw_icmp_le 71 dX11_tells_36 (by decide) (fun _ => ?_) (fun c => absurd c (by decide))
  refine Zw_iload_2 dX11_tells_71 ?_
  refine Zw_iconst (v := 1) dX11_tells_72 (by decide) ?_
  refine Zw_icmp_ne 123 dX11_tells_73 (by decide) (fun c => absurd c (by decide)) (fun _ => ?_)
  refine Zw_iconst (v := 0) dX11_tells_76 (by decide) ?_
  refine Zw_istore_4 dX11_tells_77 rfl ?_
  refine Zw_iconst (v := 0) dX11_tells_79 (by decide) ?_
  refine Zw_istore_5 dX11_tells_80 rfl ?_
  exact l_mtn hc ha hsz h30 hit hw9 h 9 0 _ _ (by omega) (by omega) (nOff.refl _ _)
set_option maxRecDepth 20000 in
theorem s_mtells3 {Cv : Nat → mC} {w a sz : Nat} {it : Nat → Int32} {Q : zQ} {μ : zMu} {τ : Int64} (hcv : ∀ v, v ≤ 9 → m_cx (Cv v) w (zup μ 65 1 (nI v))) (ha : a < 4) (hsz : μ 76 a = nI sz) (h30 : sz ≤ 30) (hit : ∀ j, j < 40 → μ 77 (40 * a + j) = it j) (hw9 : w ≤ 999) (hth : ¬ μ 74 a = 0) (h : ∀ μ2 τ2, nOff [129] μ μ2 → Q (some (.int (x_fits (fun v => decide ((m_go (Cv v) it w sz 0 255 (-1)).1 ≠ 0)) 10))) μ2 τ2) : Zc 48 yX11_tells cX11_tells 6 (some .int) [.ref 61, .int (nI a), .int 3] μ τ Q := by
  refine Zc.mk 3 [.ref 61, .int (nI a), .int 3, .null, .null, .null] rfl (by decide) (Nat.le_of_ble_eq_true rfl) ?_
  refine Zw_iload_1 dX11_tells_0 ?_
  refine Zw_S1 (k := 1) lm_X11_383 dX11_tells_1 (by decide) (Nat.le_of_ble_eq_true rfl) ?_
  refine s_isSheet (fun _ => ?_) (fun a0 => absurd (vp_in_nI ha (by omega)) a0)
  refine Zw_if_eq 19 dX11_tells_4 (by decide) (fun c => absurd c (by decide)) (fun _ => ?_)
  refine Zw_iload_2 dX11_tells_7 ?_
  refine Zw_i2l dX11_tells_8 ?_
  refine Zw_lconst (v := 0) dX11_tells_9 (by decide) ?_
  refine Zw_ldc2 dX11_tells_10 zw22 ?_
  refine Zw_S3 (k := 0) lm_X11_76 dX11_tells_13 (by decide) (Nat.le_of_ble_eq_true rfl) ?_
  refine s_in0 5 (by decide) (fun _ => ?_) (fun a0 => absurd (by unfold vp_in; decide) a0)
  refine Zw_if_ne 22 dX11_tells_16 (by decide) (fun _ => ?_) (fun c => absurd c (by decide))
  refine Zw_aload_0 dX11_tells_22 ?_
  refine Zw_iload_1 dX11_tells_23 ?_
  refine Zw_V1 (k := 0) lm_X11_388 dX11_tells_24 (by decide) (by first | decide | assumption | omega) (by first | rfl | assumption) (by rfl) (Nat.le_of_ble_eq_true rfl) ?_
  refine s_toldBad (k := sz) ha (by omega) (fun _ => hsz) (fun e => absurd e hth) (fun _ e => absurd e (by omega)) (fun _ _ => ?_)
  refine Zw_istore_3 dX11_tells_27 rfl ?_
  refine Zw_iload_3 dX11_tells_28 ?_
  refine Zw_if_eq 34 dX11_tells_29 (by decide) (fun _ => ?_) (fun c => absurd c (by decide))
  refine Zw_iload_2 dX11_tells_34 ?_
  refine Zw_iconst (v := 2) dX11_tells_35 (by decide) ?_
  refine Zw_icmp_le 71 dX11_tells_36 (by decide) (fun c => absurd c (by decide)) (fun _ => ?_)
  refine Zw_iload_2 dX11_tells_39 ?_
  refine Zw_iconst (v := 3) dX11_tells_40 (by decide) ?_
  refine Zw_icmp_ne 56 dX11_tells_41 (by decide) (fun c => absurd c (by decide)) (fun _ => ?_)
  refine Zw_aload_0 dX11_tells_44 ?_
  refine Zw_iload_1 dX11_tells_45 ?_
  refine Zw_iconst (v := 1) dX11_tells_46 (by decide) ?_
  refine Zw_iconst (v := 0) dX11_tells_47 (by decide) ?_
  refine Zw_bipush (v := 9) dX11_tells_48 (by decide) ?_
  refine Zw_V4 (k := 47) lm_X11_391 dX11_tells_50 (by decide) (by first | decide | assumption | omega) (by first | rfl | assumption) (by rfl) (Nat.le_of_ble_eq_true rfl) ?_
  refine s_fits1 (last := 9) hcv (by decide) ha hsz h30 hit hw9 (fun μ1 τ1 o1 => ?_)
  refine Zw_goto 70 dX11_tells_53 (by decide) ?_
  refine Zw_ireturn dX11_tells_70 (by first | rfl | assumption) ?_
  exact h _ _ o1
set_option maxRecDepth 20000 in
theorem s_mtells4 {Cv : Nat → mC} {w a sz cnt : Nat} {it : Nat → Int32} {Q : zQ} {μ : zMu} {τ : Int64} (hcn : μ 61 3 = nI (cnt + 1)) (hc6 : cnt < 6) (hcv : ∀ v, v ≤ cnt → m_cx (Cv v) w (zup μ 61 4 (nI v))) (ha : a < 4) (hsz : μ 76 a = nI sz) (h30 : sz ≤ 30) (hit : ∀ j, j < 40 → μ 77 (40 * a + j) = it j) (hw9 : w ≤ 999) (hth : ¬ μ 74 a = 0) (h : ∀ μ2 τ2, nOff [129] μ μ2 → Q (some (.int (x_fits (fun v => decide ((m_go (Cv v) it w sz 0 255 (-1)).1 ≠ 0)) (cnt + 1)))) μ2 τ2) : Zc 48 yX11_tells cX11_tells 6 (some .int) [.ref 61, .int (nI a), .int 4] μ τ Q := by
  refine Zc.mk 3 [.ref 61, .int (nI a), .int 4, .null, .null, .null] rfl (by decide) (Nat.le_of_ble_eq_true rfl) ?_
  refine Zw_iload_1 dX11_tells_0 ?_
  refine Zw_S1 (k := 1) lm_X11_383 dX11_tells_1 (by decide) (Nat.le_of_ble_eq_true rfl) ?_
  refine s_isSheet (fun _ => ?_) (fun a0 => absurd (vp_in_nI ha (by omega)) a0)
  refine Zw_if_eq 19 dX11_tells_4 (by decide) (fun c => absurd c (by decide)) (fun _ => ?_)
  refine Zw_iload_2 dX11_tells_7 ?_
  refine Zw_i2l dX11_tells_8 ?_
  refine Zw_lconst (v := 0) dX11_tells_9 (by decide) ?_
  refine Zw_ldc2 dX11_tells_10 zw22 ?_
  refine Zw_S3 (k := 0) lm_X11_76 dX11_tells_13 (by decide) (Nat.le_of_ble_eq_true rfl) ?_
  refine s_in0 5 (by decide) (fun _ => ?_) (fun a0 => absurd (by unfold vp_in; decide) a0)
  refine Zw_if_ne 22 dX11_tells_16 (by decide) (fun _ => ?_) (fun c => absurd c (by decide))
  refine Zw_aload_0 dX11_tells_22 ?_
  refine Zw_iload_1 dX11_tells_23 ?_
  refine Zw_V1 (k := 0) lm_X11_388 dX11_tells_24 (by decide) (by first | decide | assumption | omega) (by first | rfl | assumption) (by rfl) (Nat.le_of_ble_eq_true rfl) ?_
  refine s_toldBad (k := sz) ha (by omega) (fun _ => hsz) (fun e => absurd e hth) (fun _ e => absurd e (by omega)) (fun _ _ => ?_)
  refine Zw_istore_3 dX11_tells_27 rfl ?_
  refine Zw_iload_3 dX11_tells_28 ?_
  refine Zw_if_eq 34 dX11_tells_29 (by decide) (fun _ => ?_) (fun c => absurd c (by decide))
  refine Zw_iload_2 dX11_tells_34 ?_
  refine Zw_iconst (v := 2) dX11_tells_35 (by decide) ?_
  refine Zw_icmp_le 71 dX11_tells_36 (by decide) (fun c => absurd c (by decide)) (fun _ => ?_)
  refine Zw_iload_2 dX11_tells_39 ?_
  refine Zw_iconst (v := 3) dX11_tells_40 (by decide) ?_
  refine Zw_icmp_ne 56 dX11_tells_41 (by decide) (fun _ => ?_) (fun c => absurd c (by decide))
  refine Zw_aload_0 dX11_tells_56 ?_
  refine Zw_iload_1 dX11_tells_57 ?_
  refine Zw_bipush (v := 7) dX11_tells_58 (by decide) ?_
  refine Zw_iconst (v := 0) dX11_tells_60 (by decide) ?_
  refine Zw_aload_0 dX11_tells_61 ?_
  refine Zw_getv (nI (cnt + 1)) lf_X11_70 dX11_tells_62 (by first | decide | assumption | omega) (by first | rfl | assumption) (by rfl) hcn ?_
  refine Zw_iconst (v := 1) dX11_tells_65 (by decide) ?_
  refine Zw_nsub ((cnt + 1)) (1) dX11_tells_66 rfl rfl (by omega) ?_
  rw [show cnt + 1 - 1 = cnt by omega]
  refine Zw_V4 (k := 47) lm_X11_391 dX11_tells_67 (by decide) (by first | decide | assumption | omega) (by first | rfl | assumption) (by rfl) (Nat.le_of_ble_eq_true rfl) ?_
  refine s_fits7 (last := cnt) hcv (by omega) ha hsz h30 hit hw9 (fun μ1 τ1 o1 => ?_)
  refine Zw_ireturn dX11_tells_70 (by first | rfl | assumption) ?_
  exact h _ _ o1
set_option maxRecDepth 20000 in
theorem s_meyesB {s x what : Int32} {Q : zQ} {μ : zMu} {τ : Int64} (n : Nat) (hn5 : n ≤ 5) (hn : μ 61 11 = nI n) (hbad : ¬ (vp_in s 4 ∧ vp_in x n ∧ vp_in what 2)) (h : Q (some (.int (-2))) μ τ) : Zc 48 yX11_eyes cX11_eyes 5 (some .int) [.ref 61, .int s, .int x, .int what] μ τ Q := by
  refine Zc.mk 1 [.ref 61, .int s, .int x, .int what, .null] rfl (by decide) (Nat.le_of_ble_eq_true rfl) ?_
  refine Zw_iload_1 dX11_eyes_0 ?_
  refine Zw_S1 (k := 1) lm_X11_383 dX11_eyes_1 (by decide) (Nat.le_of_ble_eq_true rfl) ?_
  refine s_isSheet (fun b1 => ?_) (fun b1 => ?_)
  · refine Zw_if_eq 25 dX11_eyes_4 (by decide) (fun c => absurd c (by decide)) (fun _ => ?_)
    refine Zw_aload_0 dX11_eyes_7 ?_
    refine Zw_iload_2 dX11_eyes_8 ?_
    refine Zw_V1 (k := 1) lm_X11_86 dX11_eyes_9 (by decide) (by first | decide | assumption | omega) (by first | rfl | assumption) (by rfl) (Nat.le_of_ble_eq_true rfl) ?_
    refine s_isOne n hn5 hn (fun b2 => ?_) (fun b2 => ?_)
    · refine Zw_if_eq 25 dX11_eyes_12 (by decide) (fun c => absurd c (by decide)) (fun _ => ?_)
      refine Zw_iload_3 dX11_eyes_15 ?_
      refine Zw_i2l dX11_eyes_16 ?_
      refine Zw_lconst (v := 0) dX11_eyes_17 (by decide) ?_
      refine Zw_lconst (v := 1) dX11_eyes_18 (by decide) ?_
      refine Zw_S3 (k := 0) lm_X11_76 dX11_eyes_19 (by decide) (Nat.le_of_ble_eq_true rfl) ?_
      refine s_in0 2 (by decide) (fun b3 => ?_) (fun b3 => ?_)
      · refine Zw_if_ne 28 dX11_eyes_22 (by decide) (fun _ => ?_) (fun c => absurd c (by decide))
        exact absurd ⟨b1, b2, b3⟩ hbad
      · refine Zw_if_ne 28 dX11_eyes_22 (by decide) (fun c => absurd c (by decide)) (fun _ => ?_)
        refine Zw_bipush (v := (-2)) dX11_eyes_25 (by decide) ?_
        refine Zw_ireturn dX11_eyes_27 (by first | rfl | assumption) ?_
        exact h
    · refine Zw_if_eq 25 dX11_eyes_12 (by decide) (fun _ => ?_) (fun c => absurd c (by decide))
      refine Zw_bipush (v := (-2)) dX11_eyes_25 (by decide) ?_
      refine Zw_ireturn dX11_eyes_27 (by first | rfl | assumption) ?_
      exact h
  · refine Zw_if_eq 25 dX11_eyes_4 (by decide) (fun _ => ?_) (fun c => absurd c (by decide))
    refine Zw_bipush (v := (-2)) dX11_eyes_25 (by decide) ?_
    refine Zw_ireturn dX11_eyes_27 (by first | rfl | assumption) ?_
    exact h
set_option maxRecDepth 20000 in
theorem s_meyesN {a f : Nat} {what : Int32} {Q : zQ} {μ : zMu} {τ : Int64} (n : Nat) (hn5 : n ≤ 5) (hn : μ 61 11 = nI n) (hfn : f < n) (ha : a < 4) (hwh : vp_in what 2) (hth : μ 74 a = 0) (h : Q (some (.int (-11))) μ τ) : Zc 48 yX11_eyes cX11_eyes 5 (some .int) [.ref 61, .int (nI a), .int (nI f), .int what] μ τ Q := by
  refine Zc.mk 1 [.ref 61, .int (nI a), .int (nI f), .int what, .null] rfl (by decide) (Nat.le_of_ble_eq_true rfl) ?_
  refine Zw_iload_1 dX11_eyes_0 ?_
  refine Zw_S1 (k := 1) lm_X11_383 dX11_eyes_1 (by decide) (Nat.le_of_ble_eq_true rfl) ?_
  refine s_isSheet (fun _ => ?_) (fun a0 => absurd (vp_in_nI ha (by omega)) a0)
  refine Zw_if_eq 25 dX11_eyes_4 (by decide) (fun c => absurd c (by decide)) (fun _ => ?_)
  refine Zw_aload_0 dX11_eyes_7 ?_
  refine Zw_iload_2 dX11_eyes_8 ?_
  refine Zw_V1 (k := 1) lm_X11_86 dX11_eyes_9 (by decide) (by first | decide | assumption | omega) (by first | rfl | assumption) (by rfl) (Nat.le_of_ble_eq_true rfl) ?_
  refine s_isOne n hn5 hn (fun _ => ?_) (fun a0 => absurd (vp_in_nI hfn (by omega)) a0)
  refine Zw_if_eq 25 dX11_eyes_12 (by decide) (fun c => absurd c (by decide)) (fun _ => ?_)
  refine Zw_iload_3 dX11_eyes_15 ?_
  refine Zw_i2l dX11_eyes_16 ?_
  refine Zw_lconst (v := 0) dX11_eyes_17 (by decide) ?_
  refine Zw_lconst (v := 1) dX11_eyes_18 (by decide) ?_
  refine Zw_S3 (k := 0) lm_X11_76 dX11_eyes_19 (by decide) (Nat.le_of_ble_eq_true rfl) ?_
  refine s_in0 2 (by decide) (fun _ => ?_) (fun a0 => absurd hwh a0)
  refine Zw_if_ne 28 dX11_eyes_22 (by decide) (fun _ => ?_) (fun c => absurd c (by decide))
  refine Zw_aload_0 dX11_eyes_28 ?_
  refine Zw_iload_1 dX11_eyes_29 ?_
  refine Zw_V1 (k := 0) lm_X11_388 dX11_eyes_30 (by decide) (by first | decide | assumption | omega) (by first | rfl | assumption) (by rfl) (Nat.le_of_ble_eq_true rfl) ?_
  refine s_toldBad (k := 0) ha (by decide) (fun e => absurd hth e) (fun _ => ?_) (fun e => absurd hth e) (fun e => absurd hth e)
  refine Zw_istore_4 dX11_eyes_33 rfl ?_
  refine Zw_iload_4 dX11_eyes_35 ?_
  refine Zw_if_eq 43 dX11_eyes_37 (by decide) (fun c => absurd c (by decide)) (fun _ => ?_)
  refine Zw_iload_4 dX11_eyes_40 ?_
  refine Zw_ireturn dX11_eyes_42 (by first | rfl | assumption) ?_
  exact h
set_option maxRecDepth 20000 in
theorem s_meyesG {a f k : Nat} {what : Int32} {Q : zQ} {μ : zMu} {τ : Int64} (n : Nat) (hn5 : n ≤ 5) (hn : μ 61 11 = nI n) (hfn : f < n) (ha : a < 4) (hk : k ≤ 40) (hwh : vp_in what 2) (hth : ¬ μ 74 a = 0) (hsz : μ 76 a = nI k) (hb : 30 < k) (h : Q (some (.int (-2))) μ τ) : Zc 48 yX11_eyes cX11_eyes 5 (some .int) [.ref 61, .int (nI a), .int (nI f), .int what] μ τ Q := by
  refine Zc.mk 1 [.ref 61, .int (nI a), .int (nI f), .int what, .null] rfl (by decide) (Nat.le_of_ble_eq_true rfl) ?_
  refine Zw_iload_1 dX11_eyes_0 ?_
  refine Zw_S1 (k := 1) lm_X11_383 dX11_eyes_1 (by decide) (Nat.le_of_ble_eq_true rfl) ?_
  refine s_isSheet (fun _ => ?_) (fun a0 => absurd (vp_in_nI ha (by omega)) a0)
  refine Zw_if_eq 25 dX11_eyes_4 (by decide) (fun c => absurd c (by decide)) (fun _ => ?_)
  refine Zw_aload_0 dX11_eyes_7 ?_
  refine Zw_iload_2 dX11_eyes_8 ?_
  refine Zw_V1 (k := 1) lm_X11_86 dX11_eyes_9 (by decide) (by first | decide | assumption | omega) (by first | rfl | assumption) (by rfl) (Nat.le_of_ble_eq_true rfl) ?_
  refine s_isOne n hn5 hn (fun _ => ?_) (fun a0 => absurd (vp_in_nI hfn (by omega)) a0)
  refine Zw_if_eq 25 dX11_eyes_12 (by decide) (fun c => absurd c (by decide)) (fun _ => ?_)
  refine Zw_iload_3 dX11_eyes_15 ?_
  refine Zw_i2l dX11_eyes_16 ?_
  refine Zw_lconst (v := 0) dX11_eyes_17 (by decide) ?_
  refine Zw_lconst (v := 1) dX11_eyes_18 (by decide) ?_
  refine Zw_S3 (k := 0) lm_X11_76 dX11_eyes_19 (by decide) (Nat.le_of_ble_eq_true rfl) ?_
  refine s_in0 2 (by decide) (fun _ => ?_) (fun a0 => absurd hwh a0)
  refine Zw_if_ne 28 dX11_eyes_22 (by decide) (fun _ => ?_) (fun c => absurd c (by decide))
  refine Zw_aload_0 dX11_eyes_28 ?_
  refine Zw_iload_1 dX11_eyes_29 ?_
  refine Zw_V1 (k := 0) lm_X11_388 dX11_eyes_30 (by decide) (by first | decide | assumption | omega) (by first | rfl | assumption) (by rfl) (Nat.le_of_ble_eq_true rfl) ?_
  refine s_toldBad (k := k) ha (by omega) (fun _ => hsz) (fun e => absurd e hth) (fun _ _ => ?_) (fun _ e => absurd e (by omega))
  refine Zw_istore_4 dX11_eyes_33 rfl ?_
  refine Zw_iload_4 dX11_eyes_35 ?_
  refine Zw_if_eq 43 dX11_eyes_37 (by decide) (fun c => absurd c (by decide)) (fun _ => ?_)
  refine Zw_iload_4 dX11_eyes_40 ?_
  refine Zw_ireturn dX11_eyes_42 (by first | rfl | assumption) ?_
  exact h
set_option maxRecDepth 20000 in
theorem s_meyes0 {Cv : Nat → mC} {w a f sz : Nat} {it : Nat → Int32} {Q : zQ} {μ : zMu} {τ : Int64} (n : Nat) (hn5 : n ≤ 5) (hn : μ 61 11 = nI n) (hfn : f < n) (hcv : ∀ v, v ≤ 5 → m_cx (Cv v) w (zup μ 67 f (nI v))) (ha : a < 4) (hsz : μ 76 a = nI sz) (h30 : sz ≤ 30) (hit : ∀ j, j < 40 → μ 77 (40 * a + j) = it j) (hw9 : w ≤ 999) (hth : ¬ μ 74 a = 0) (h : ∀ μ2 τ2, nOff [129] μ μ2 → Q (some (.int (x_fits (fun v => decide ((m_go (Cv v) it w sz 0 255 (-1)).1 ≠ 0)) (5 + 1)))) μ2 τ2) : Zc 48 yX11_eyes cX11_eyes 5 (some .int) [.ref 61, .int (nI a), .int (nI f), .int 0] μ τ Q := by
  refine Zc.mk 1 [.ref 61, .int (nI a), .int (nI f), .int 0, .null] rfl (by decide) (Nat.le_of_ble_eq_true rfl) ?_
  refine Zw_iload_1 dX11_eyes_0 ?_
  refine Zw_S1 (k := 1) lm_X11_383 dX11_eyes_1 (by decide) (Nat.le_of_ble_eq_true rfl) ?_
  refine s_isSheet (fun _ => ?_) (fun a0 => absurd (vp_in_nI ha (by omega)) a0)
  refine Zw_if_eq 25 dX11_eyes_4 (by decide) (fun c => absurd c (by decide)) (fun _ => ?_)
  refine Zw_aload_0 dX11_eyes_7 ?_
  refine Zw_iload_2 dX11_eyes_8 ?_
  refine Zw_V1 (k := 1) lm_X11_86 dX11_eyes_9 (by decide) (by first | decide | assumption | omega) (by first | rfl | assumption) (by rfl) (Nat.le_of_ble_eq_true rfl) ?_
  refine s_isOne n hn5 hn (fun _ => ?_) (fun a0 => absurd (vp_in_nI hfn (by omega)) a0)
  refine Zw_if_eq 25 dX11_eyes_12 (by decide) (fun c => absurd c (by decide)) (fun _ => ?_)
  refine Zw_iload_3 dX11_eyes_15 ?_
  refine Zw_i2l dX11_eyes_16 ?_
  refine Zw_lconst (v := 0) dX11_eyes_17 (by decide) ?_
  refine Zw_lconst (v := 1) dX11_eyes_18 (by decide) ?_
  refine Zw_S3 (k := 0) lm_X11_76 dX11_eyes_19 (by decide) (Nat.le_of_ble_eq_true rfl) ?_
  refine s_in0 2 (by decide) (fun _ => ?_) (fun a0 => absurd (by unfold vp_in; decide) a0)
  refine Zw_if_ne 28 dX11_eyes_22 (by decide) (fun _ => ?_) (fun c => absurd c (by decide))
  refine Zw_aload_0 dX11_eyes_28 ?_
  refine Zw_iload_1 dX11_eyes_29 ?_
  refine Zw_V1 (k := 0) lm_X11_388 dX11_eyes_30 (by decide) (by first | decide | assumption | omega) (by first | rfl | assumption) (by rfl) (Nat.le_of_ble_eq_true rfl) ?_
  refine s_toldBad (k := sz) ha (by omega) (fun _ => hsz) (fun e => absurd e hth) (fun _ e => absurd e (by omega)) (fun _ _ => ?_)
  refine Zw_istore_4 dX11_eyes_33 rfl ?_
  refine Zw_iload_4 dX11_eyes_35 ?_
  refine Zw_if_eq 43 dX11_eyes_37 (by decide) (fun _ => ?_) (fun c => absurd c (by decide))
  refine Zw_iload_3 dX11_eyes_43 ?_
  refine Zw_if_ne 59 dX11_eyes_44 (by decide) (fun c => absurd c (by decide)) (fun _ => ?_)
  refine Zw_aload_0 dX11_eyes_47 ?_
  refine Zw_iload_1 dX11_eyes_48 ?_
  refine Zw_bipush (v := 6) dX11_eyes_49 (by decide) ?_
  refine Zw_iload_2 dX11_eyes_51 ?_
  refine Zw_iconst (v := 5) dX11_eyes_52 (by decide) ?_
  refine Zw_V4 (k := 47) lm_X11_391 dX11_eyes_53 (by decide) (by first | decide | assumption | omega) (by first | rfl | assumption) (by rfl) (Nat.le_of_ble_eq_true rfl) ?_
  refine s_fits6 (last := 5) hn5 hn hfn hcv (by decide) ha hsz h30 hit hw9 (fun μ1 τ1 o1 => ?_)
  refine Zw_goto 68 dX11_eyes_56 (by decide) ?_
  refine Zw_ireturn dX11_eyes_68 (by first | rfl | assumption) ?_
  exact h _ _ o1
set_option maxRecDepth 20000 in
theorem s_meyes1 {Cv : Nat → mC} {w a f sz : Nat} {it : Nat → Int32} {Q : zQ} {μ : zMu} {τ : Int64} (n : Nat) (hn5 : n ≤ 5) (hn : μ 61 11 = nI n) (hfn : f < n) (hcv : ∀ v, v ≤ 9 → m_cx (Cv v) w (zup μ 68 (3 * f) (nI v))) (ha : a < 4) (hsz : μ 76 a = nI sz) (h30 : sz ≤ 30) (hit : ∀ j, j < 40 → μ 77 (40 * a + j) = it j) (hw9 : w ≤ 999) (hth : ¬ μ 74 a = 0) (h : ∀ μ2 τ2, nOff [129] μ μ2 → Q (some (.int (x_fits (fun v => decide ((m_go (Cv v) it w sz 0 255 (-1)).1 ≠ 0)) (9 + 1)))) μ2 τ2) : Zc 48 yX11_eyes cX11_eyes 5 (some .int) [.ref 61, .int (nI a), .int (nI f), .int 1] μ τ Q := by
  refine Zc.mk 1 [.ref 61, .int (nI a), .int (nI f), .int 1, .null] rfl (by decide) (Nat.le_of_ble_eq_true rfl) ?_
  refine Zw_iload_1 dX11_eyes_0 ?_
  refine Zw_S1 (k := 1) lm_X11_383 dX11_eyes_1 (by decide) (Nat.le_of_ble_eq_true rfl) ?_
  refine s_isSheet (fun _ => ?_) (fun a0 => absurd (vp_in_nI ha (by omega)) a0)
  refine Zw_if_eq 25 dX11_eyes_4 (by decide) (fun c => absurd c (by decide)) (fun _ => ?_)
  refine Zw_aload_0 dX11_eyes_7 ?_
  refine Zw_iload_2 dX11_eyes_8 ?_
  refine Zw_V1 (k := 1) lm_X11_86 dX11_eyes_9 (by decide) (by first | decide | assumption | omega) (by first | rfl | assumption) (by rfl) (Nat.le_of_ble_eq_true rfl) ?_
  refine s_isOne n hn5 hn (fun _ => ?_) (fun a0 => absurd (vp_in_nI hfn (by omega)) a0)
  refine Zw_if_eq 25 dX11_eyes_12 (by decide) (fun c => absurd c (by decide)) (fun _ => ?_)
  refine Zw_iload_3 dX11_eyes_15 ?_
  refine Zw_i2l dX11_eyes_16 ?_
  refine Zw_lconst (v := 0) dX11_eyes_17 (by decide) ?_
  refine Zw_lconst (v := 1) dX11_eyes_18 (by decide) ?_
  refine Zw_S3 (k := 0) lm_X11_76 dX11_eyes_19 (by decide) (Nat.le_of_ble_eq_true rfl) ?_
  refine s_in0 2 (by decide) (fun _ => ?_) (fun a0 => absurd (by unfold vp_in; decide) a0)
  refine Zw_if_ne 28 dX11_eyes_22 (by decide) (fun _ => ?_) (fun c => absurd c (by decide))
  refine Zw_aload_0 dX11_eyes_28 ?_
  refine Zw_iload_1 dX11_eyes_29 ?_
  refine Zw_V1 (k := 0) lm_X11_388 dX11_eyes_30 (by decide) (by first | decide | assumption | omega) (by first | rfl | assumption) (by rfl) (Nat.le_of_ble_eq_true rfl) ?_
  refine s_toldBad (k := sz) ha (by omega) (fun _ => hsz) (fun e => absurd e hth) (fun _ e => absurd e (by omega)) (fun _ _ => ?_)
  refine Zw_istore_4 dX11_eyes_33 rfl ?_
  refine Zw_iload_4 dX11_eyes_35 ?_
  refine Zw_if_eq 43 dX11_eyes_37 (by decide) (fun _ => ?_) (fun c => absurd c (by decide))
  refine Zw_iload_3 dX11_eyes_43 ?_
  refine Zw_if_ne 59 dX11_eyes_44 (by decide) (fun _ => ?_) (fun c => absurd c (by decide))
  refine Zw_aload_0 dX11_eyes_59 ?_
  refine Zw_iload_1 dX11_eyes_60 ?_
  refine Zw_iconst (v := 4) dX11_eyes_61 (by decide) ?_
  refine Zw_iload_2 dX11_eyes_62 ?_
  refine Zw_bipush (v := 9) dX11_eyes_63 (by decide) ?_
  refine Zw_V4 (k := 47) lm_X11_391 dX11_eyes_65 (by decide) (by first | decide | assumption | omega) (by first | rfl | assumption) (by rfl) (Nat.le_of_ble_eq_true rfl) ?_
  refine s_fits4 (last := 9) hn5 hn hfn hcv (by decide) ha hsz h30 hit hw9 (fun μ1 τ1 o1 => ?_)
  refine Zw_ireturn dX11_eyes_68 (by first | rfl | assumption) ?_
  exact h _ _ o1
