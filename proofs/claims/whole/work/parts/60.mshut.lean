/-! which lane to shut -/
def cutC (C : mC) (a b : Nat) : mC := (C.1, q_cutl C.2.1 a b, C.2.2)
theorem zup2_at (μ : zMu) (k a b : Nat) (x y : Int32) (p : Nat) : zup (zup μ k a x) k b y k p = if p = b then y else if p = a then x else μ k p := by
  rw [zup_at]
  by_cases h : p = b
  · rw [if_pos ⟨rfl, h⟩, if_pos h]
  · rw [if_neg (fun e => h e.2), if_neg h, zup_at]
    by_cases h2 : p = a
    · rw [if_pos ⟨rfl, h2⟩, if_pos h2]
    · rw [if_neg (fun e => h2 e.2), if_neg h2]
theorem q_cutl_at (ln : Nat → Int32) (a b p : Nat) : q_cutl ln a b p = if p = b then ln b &&& ((1 <<< (nI a &&& 31)) ^^^ (-1)) else if p = a then ln a &&& ((1 <<< (nI b &&& 31)) ^^^ (-1)) else ln p := rfl
theorem m_cx.cut {C : mC} {w a b : Nat} {μ : zMu} (hc : m_cx C w μ) (ha : a < 8) (hb : b < 8) : m_cx (cutC C a b) w (zup (zup μ 66 a (μ 66 a &&& ((1 <<< (nI b &&& 31)) ^^^ (-1)))) 66 b (μ 66 b &&& ((1 <<< (nI a &&& 31)) ^^^ (-1)))) := by
  obtain ⟨t, h1, h2, h3, h4, h5⟩ := hc
  obtain ⟨⟨a1, a2, a3⟩, ⟨b1, b2, b3⟩, c1, c2, c3⟩ := h1
  have ho : zOff [66] μ (zup (zup μ 66 a (μ 66 a &&& ((1 <<< (nI b &&& 31)) ^^^ (-1)))) 66 b (μ 66 b &&& ((1 <<< (nI a &&& 31)) ^^^ (-1)))) := (zOff.rf.up (by simp)).up (by simp)
  refine ⟨t, ⟨⟨by rw [ho 61 (by simp)]; exact a1, a2, m_tx_off ho (by simp) (by simp) a3⟩, ⟨b1, by rw [ho 61 (by simp)]; exact b2, ?_⟩, by rw [ho 65 (by simp)]; exact c1, c2, fun p hp => ?_⟩, ?_, fun p hp => ?_, ?_, ?_⟩
  · rw [ho 67 (by simp), ho 68 (by simp)]; exact b3
  · rw [zup2_at]
    split
    · exact r8_and (c3 b hb)
    · split
      · exact r8_and (c3 a ha)
      · exact c3 p hp
  · rw [m_say_off ho (by simp) (by simp) (by simp; omega) (by simp; omega)]; exact h2
  · rw [zup2_at]
    show _ = q_cutl C.2.1 a b p
    rw [q_cutl_at, h3 a ha, h3 b hb, h3 p hp]
  · rw [ho 65 (by simp)]; exact h4
  · rw [ho 67 (by simp), ho 68 (by simp)]; exact h5
theorem cut_back {S : List Nat} {a b : Nat} {μ μ2 : zMu} (hS : 66 ∉ S) (ha : a < 8) (hb : b < 8) (hab : b ≠ a) (hra : r8 (μ 66 a)) (hrb : r8 (μ 66 b)) (h1 : q_has (μ 66 a) b = true) (h2 : q_has (μ 66 b) a = true) (ho : nOff S (zup (zup μ 66 a (μ 66 a &&& ((1 <<< (nI b &&& 31)) ^^^ (-1)))) 66 b (μ 66 b &&& ((1 <<< (nI a &&& 31)) ^^^ (-1)))) μ2) : nOff S μ (zup (zup μ2 66 a (μ2 66 a ||| (1 <<< (nI b &&& 31)))) 66 b (μ2 66 b ||| (1 <<< (nI a &&& 31)))) := by
  have e66 := ho.fr (k := 66) (by decide) hS
  refine ⟨fun k hk => ?_, fun s hs => ?_⟩
  · by_cases e : k = 66
    · subst e
      funext p
      rw [zup2_at, e66, zup2_at, zup2_at, zup2_at]
      have hb2 := q_cutl_back (ln := μ 66) hb ha hab hra hrb h1 h2
      have hbp := congrFun hb2 p
      simp only [upd] at hbp
      rw [q_cutl_at, q_cutl_at, q_cutl_at] at hbp
      exact hbp
    · rw [zup_ne e, zup_ne e, ho.1 k hk, zup_ne e, zup_ne e]
  · rw [zup_ne (by decide), zup_ne (by decide), ho.2 s hs, zup_ne (by decide), zup_ne (by decide)]
def m_shk (ln : Nat → Int32) (F : Nat → Nat → Int32) : Nat → Nat → Int32 × Int32 → Int32 × Int32
  | 0, _, s => s
  | m + 1, k, s => m_shk ln F m (k + 1) (if k / 8 < k % 8 then q_sh1 ln F (k / 8) (k % 8) s else s)
theorem m_shk_s (ln : Nat → Int32) (F : Nat → Nat → Int32) (m k : Nat) (s : Int32 × Int32) : m_shk ln F (m + 1) k s = m_shk ln F m (k + 1) (if k / 8 < k % 8 then q_sh1 ln F (k / 8) (k % 8) s else s) := rfl
theorem m_shk_q (ln : Nat → Int32) (F : Nat → Nat → Int32) (s : Int32 × Int32) : m_shk ln F 64 0 s = q_shx ln F 100 0 1 s := by
  simp [m_shk, q_shx]
theorem i32_lt {x y : Int32} (h : ¬ y ≤ x) : x < y := Int32.lt_iff_toInt_lt.mpr (by have h2 : ¬ y.toInt ≤ x.toInt := fun e => h (Int32.le_iff_toInt_le.mpr e); omega)
theorem i32_nlt {x y : Int32} (h : y ≤ x) : ¬ x < y := fun e => by
  have h1 := Int32.le_iff_toInt_le.mp h
  have h2 := Int32.lt_iff_toInt_lt.mp e
  omega
theorem sh1_n {ln : Nat → Int32} {F : Nat → Nat → Int32} {i j : Nat} {s : Int32 × Int32} (h : q_has (ln i) j = false) : q_sh1 ln F i j s = s := if_neg (by rw [h]; simp)
theorem sh1_y {ln : Nat → Int32} {F : Nat → Nat → Int32} {i j : Nat} {s : Int32 × Int32} {v : Int32} (h : q_has (ln i) j = true) (hF : F i j = v) : q_sh1 ln F i j s = if q_lss v s.2 then (nI (10 * i + j), v) else s := by
  unfold q_sh1
  rw [if_pos h, hF]
set_option maxRecDepth 20000 in
theorem l_mshut0 {Q : zQ} {μ0 : zMu} {C : mC} {w f T a : Nat} {R : Int32 × Int32} (hc : m_cx C w μ0) (hf : f < cN C) (hth : μ0 65 3 = nI T) (hT : T < 256) (ha8 : a < 8) (hsy : ∀ p q, p < 8 → q < 8 → q_has (C.2.1 p) q = q_has (C.2.1 q) p) (h : ∀ μ2 τ2, nOff [69, 70] μ0 μ2 → Q (some (.int (q_p2 R 0))) μ2 τ2) : ∀ m k best least μ τ, 64 - k < m → k ≤ 64 → nOff [69, 70] μ0 μ → m_shk C.2.1 (fun i j => c_sf (cutC C i j) w f T a) (64 - k) k (best, least) = R → Zw 46 RX11 cX11_shut 10 (some .int) Q 50 [.ref 61, .int (nI f), .int 0, .int (nI a), .int best, .int least, .int (nI k), .null, .null, .null] [] μ τ
  | 0, k, _, _, _, _, hm, _, _, _ => absurd hm (by omega)
  | m + 1, k, best, least, μ, τ, hm, hk, hO, hV => by
    have hcm : m_cx C w μ := hc.off hO (by simp)
    refine Zw_iload_6 dX11_shut_50 ?_
    refine Zw_bipush (v := 64) dX11_shut_52 (by decide) ?_
    refine Zw_nicmp_ge (k) (64) 163 dX11_shut_54 (by decide) rfl rfl (by omega) (by omega) (fun c54 => ?_) (fun c54 => ?_)
    · refine Zw_iload_2 dX11_shut_163 ?_
      refine Zw_if_ne 172 dX11_shut_164 (by decide) (fun c => absurd c (by decide)) (fun _ => ?_)
      refine Zw_iload_4 dX11_shut_167 ?_
      refine Zw_goto 174 dX11_shut_169 (by decide) ?_
      refine Zw_ireturn dX11_shut_174 (by first | rfl | assumption) ?_
      rw [show 64 - k = 0 by omega] at hV
      subst hV
      exact h _ _ hO
    · refine Zw_iload_6 dX11_shut_57 ?_
      refine Zw_bipush (v := 8) dX11_shut_59 (by decide) ?_
      refine Zw_ndiv (k) (8) dX11_shut_61 rfl rfl (by omega) (by omega) (by omega) ?_
      refine Zw_istore_7 dX11_shut_62 rfl ?_
      refine Zw_iload_6 dX11_shut_64 ?_
      refine Zw_bipush (v := 8) dX11_shut_66 (by decide) ?_
      refine Zw_nrem (k) (8) dX11_shut_68 rfl rfl (by omega) (by omega) (by omega) ?_
      refine Zw_istore_8 dX11_shut_69 rfl ?_
      refine Zw_iload_7 dX11_shut_71 ?_
      refine Zw_iload_8 dX11_shut_73 ?_
      refine Zw_nicmp_ge ((k / 8)) ((k % 8)) 157 dX11_shut_75 (by decide) rfl rfl (by omega) (by omega) (fun c75 => ?_) (fun c75 => ?_)
      · refine Zw_iinc_6 dX11_shut_157 rfl (zincn _) ?_
        refine Zw_goto 50 dX11_shut_160 (by decide) ?_
        rw [show 64 - k = (64 - (k + 1)) + 1 by omega, m_shk_s] at hV
        rw [if_neg (by omega)] at hV
        refine Zw_drop (L' := [.ref 61, .int (nI f), .int 0, .int (nI a), .int best, .int least, .int (nI (k + 1)), .null, .null, .null]) ⟨Or.inr rfl, Or.inr rfl, Or.inr rfl, Or.inr rfl, Or.inr rfl, Or.inr rfl, Or.inr rfl, Or.inl rfl, Or.inl rfl, Or.inl rfl, trivial⟩ (Nat.le_of_ble_eq_true rfl) ?_
        exact l_mshut0 hc hf hth hT ha8 hsy h m (k + 1) _ _ _ _ (by omega) (by omega) hO hV
      · have hla := hcm.ln (show k / 8 < 8 by omega)
        have hlb := hcm.ln (show k % 8 < 8 by omega)
        have hlr : r8 (C.2.1 (k / 8)) := by rw [← hla.1]; exact hla.2
        refine Zw_aload_0 dX11_shut_78 ?_
        refine Zw_getr 66 lf_X11_26 dX11_shut_79 (by first | decide | assumption | omega) (by first | rfl | assumption) (by rfl) ?_
        refine Zw_iload_7 dX11_shut_82 ?_
        refine Zw_ialdnv ((k / 8)) (C.2.1 (k / 8)) dX11_shut_84 (by first | decide | assumption | omega) (by first | rfl | assumption) rfl (by omega) (by decide) hla.1 ?_
        refine Zw_iload_8 dX11_shut_85 ?_
        refine Zw_ishr dX11_shut_87 ?_
        refine Zw_iconst (v := 1) dX11_shut_88 (by decide) ?_
        refine Zw_iand dX11_shut_89 ?_
        refine Zw_iconst (v := 1) dX11_shut_90 (by decide) ?_
        refine Zw_icmp_ne 157 dX11_shut_91 (by decide) (fun c91 => ?_) (fun c91 => ?_)
        · refine Zw_iinc_6 dX11_shut_157 rfl (zincn _) ?_
          refine Zw_goto 50 dX11_shut_160 (by decide) ?_
          rw [show 64 - k = (64 - (k + 1)) + 1 by omega, m_shk_s] at hV
          have hno : q_has (C.2.1 (k / 8)) (k % 8) = false := by cases hq : q_has (C.2.1 (k / 8)) (k % 8); rfl; exact absurd ((r8_h1 hlr (by omega)).mpr hq) c91
          rw [if_pos (by omega), sh1_n (F := (fun i j => c_sf (cutC C i j) w f T a)) (i := k / 8) (j := k % 8) hno] at hV
          refine Zw_drop (L' := [.ref 61, .int (nI f), .int 0, .int (nI a), .int best, .int least, .int (nI (k + 1)), .null, .null, .null]) ⟨Or.inr rfl, Or.inr rfl, Or.inr rfl, Or.inr rfl, Or.inr rfl, Or.inr rfl, Or.inr rfl, Or.inl rfl, Or.inl rfl, Or.inl rfl, trivial⟩ (Nat.le_of_ble_eq_true rfl) ?_
          exact l_mshut0 hc hf hth hT ha8 hsy h m (k + 1) _ _ _ _ (by omega) (by omega) hO hV
        · have hhas : q_has (C.2.1 (k / 8)) (k % 8) = true := (r8_h1 hlr (by omega)).mp c91
          refine Zw_aload_0 dX11_shut_94 ?_
          refine Zw_iload_7 dX11_shut_95 ?_
          refine Zw_iload_8 dX11_shut_97 ?_
          refine Zw_iconst (v := 0) dX11_shut_99 (by decide) ?_
          refine Zw_V3 (k := 0) lm_X11_110 dX11_shut_100 (by decide) (by first | decide | assumption | omega) (by first | rfl | assumption) (by rfl) (Nat.le_of_ble_eq_true rfl) ?_
          refine s_laysLane0 (by omega) (by omega) (by omega) ?_
          refine Zw_aload_0 dX11_shut_103 ?_
          refine Zw_iload_1 dX11_shut_104 ?_
          refine Zw_V1 (k := 45) lm_X11_362 dX11_shut_105 (by decide) (by first | decide | assumption | omega) (by first | rfl | assumption) (by rfl) (Nat.le_of_ble_eq_true rfl) ?_
          refine s_counts (C := (cutC C (k / 8) (k % 8))) (w := w) (f := f) (hcm.cut (by omega) (by omega)) hf (fun μ1 τ1 o1 s1 hD1 => ?_)
          refine Zw_aload_0 dX11_shut_108 ?_
          refine Zw_iload_3 dX11_shut_109 ?_
          refine Zw_V1 (k := 0) lm_X11_366 dX11_shut_110 (by decide) (by first | decide | assumption | omega) (by first | rfl | assumption) (by rfl) (Nat.le_of_ble_eq_true rfl) ?_
          refine s_sureFrom hD1 (by rw [o1.fr (by decide) (by simp), zup_ne (by decide), zup_ne (by decide), hO.fr (by decide) (by simp)]; exact hth) hT ha8 (fun dN => ?_) (fun dY => ?_)
          · refine Zw_istore_9 dX11_shut_113 rfl ?_
            refine Zw_aload_0 dX11_shut_115 ?_
            refine Zw_iload_7 dX11_shut_116 ?_
            refine Zw_iload_8 dX11_shut_118 ?_
            refine Zw_iconst (v := 1) dX11_shut_120 (by decide) ?_
            refine Zw_V3 (k := 0) lm_X11_110 dX11_shut_121 (by decide) (by first | decide | assumption | omega) (by first | rfl | assumption) (by rfl) (Nat.le_of_ble_eq_true rfl) ?_
            refine s_laysLane1 (by omega) (by omega) (by omega) ?_
            have hback := cut_back (by simp) (by omega) (by omega) (by omega) hla.2 hlb.2 (by rw [hla.1]; exact hhas) (by rw [hlb.1, hsy _ _ (by omega) (by omega)]; exact hhas) o1
            refine Zw_iload_9 dX11_shut_124 ?_
            refine Zw_iconst (v := (-1)) dX11_shut_126 (by decide) ?_
            refine Zw_icmp_eq 157 dX11_shut_127 (by decide) (fun _ => ?_) (fun c => absurd c (by decide))
            refine Zw_iinc_6 dX11_shut_157 rfl (zincn _) ?_
            refine Zw_goto 50 dX11_shut_160 (by decide) ?_
            rw [show 64 - k = (64 - (k + 1)) + 1 by omega, m_shk_s] at hV
            have hFv : c_sf (cutC C (k / 8) (k % 8)) w f T a = -1 := c_sf_n dN
            have hl : q_lss (-1) least = false := q_lss_f (fun e => e.1 rfl)
            rw [if_pos (by omega), sh1_y (F := (fun i j => c_sf (cutC C i j) w f T a)) (i := k / 8) (j := k % 8) hhas hFv, if_neg (by rw [hl]; simp)] at hV
            refine Zw_drop (L' := [.ref 61, .int (nI f), .int 0, .int (nI a), .int best, .int least, .int (nI (k + 1)), .null, .null, .null]) ⟨Or.inr rfl, Or.inr rfl, Or.inr rfl, Or.inr rfl, Or.inr rfl, Or.inr rfl, Or.inr rfl, Or.inl rfl, Or.inl rfl, Or.inl rfl, trivial⟩ (Nat.le_of_ble_eq_true rfl) ?_
            exact l_mshut0 hc hf hth hT ha8 hsy h m (k + 1) _ _ _ _ (by omega) (by omega) (hO.tr hback) hV
          · refine Zw_istore_9 dX11_shut_113 rfl ?_
            refine Zw_aload_0 dX11_shut_115 ?_
            refine Zw_iload_7 dX11_shut_116 ?_
            refine Zw_iload_8 dX11_shut_118 ?_
            refine Zw_iconst (v := 1) dX11_shut_120 (by decide) ?_
            refine Zw_V3 (k := 0) lm_X11_110 dX11_shut_121 (by decide) (by first | decide | assumption | omega) (by first | rfl | assumption) (by rfl) (Nat.le_of_ble_eq_true rfl) ?_
            refine s_laysLane1 (by omega) (by omega) (by omega) ?_
            have hback := cut_back (by simp) (by omega) (by omega) (by omega) hla.2 hlb.2 (by rw [hla.1]; exact hhas) (by rw [hlb.1, hsy _ _ (by omega) (by omega)]; exact hhas) o1
            refine Zw_iload_9 dX11_shut_124 ?_
            refine Zw_iconst (v := (-1)) dX11_shut_126 (by decide) ?_
            refine Zw_icmp_eq 157 dX11_shut_127 (by decide) (fun c127 => absurd c127 (nI_m1 (by omega))) (fun c127 => ?_)
            refine Zw_iload_5 dX11_shut_130 ?_
            refine Zw_iconst (v := (-1)) dX11_shut_132 (by decide) ?_
            refine Zw_icmp_eq 143 dX11_shut_133 (by decide) (fun c133 => ?_) (fun c133 => ?_)
            · refine Zw_bipush (v := 10) dX11_shut_143 (by decide) ?_
              refine Zw_iload_7 dX11_shut_145 ?_
              refine Zw_nmul (10) ((k / 8)) dX11_shut_147 rfl rfl ?_
              refine Zw_iload_8 dX11_shut_148 ?_
              refine Zw_nadd ((10 * (k / 8))) ((k % 8)) dX11_shut_150 rfl rfl ?_
              refine Zw_istore_4 dX11_shut_151 rfl ?_
              refine Zw_iload_9 dX11_shut_153 ?_
              refine Zw_istore_5 dX11_shut_155 rfl ?_
              refine Zw_iinc_6 dX11_shut_157 rfl (zincn _) ?_
              refine Zw_goto 50 dX11_shut_160 (by decide) ?_
              rw [show 64 - k = (64 - (k + 1)) + 1 by omega, m_shk_s] at hV
              have hFv : c_sf (cutC C (k / 8) (k % 8)) w f T a = nI (c_D (cutC C (k / 8) (k % 8)) w f 40 (8 * T + a)) := c_sf_y dY
              have hl : q_lss (nI (c_D (cutC C (k / 8) (k % 8)) w f 40 (8 * T + a))) least = true := q_lss_t ⟨nI_m1 (by omega), Or.inl c133⟩
              rw [if_pos (by omega), sh1_y (F := (fun i j => c_sf (cutC C i j) w f T a)) (i := k / 8) (j := k % 8) hhas hFv, if_pos hl] at hV
              refine Zw_drop (L' := [.ref 61, .int (nI f), .int 0, .int (nI a), .int (nI (10 * (k / 8) + k % 8)), .int (nI (c_D (cutC C (k / 8) (k % 8)) w f 40 (8 * T + a))), .int (nI (k + 1)), .null, .null, .null]) ⟨Or.inr rfl, Or.inr rfl, Or.inr rfl, Or.inr rfl, Or.inr rfl, Or.inr rfl, Or.inr rfl, Or.inl rfl, Or.inl rfl, Or.inl rfl, trivial⟩ (Nat.le_of_ble_eq_true rfl) ?_
              exact l_mshut0 hc hf hth hT ha8 hsy h m (k + 1) _ _ _ _ (by omega) (by omega) (hO.tr hback) hV
            · refine Zw_iload_9 dX11_shut_136 ?_
              refine Zw_iload_5 dX11_shut_138 ?_
              refine Zw_icmp_ge 157 dX11_shut_140 (by decide) (fun c140 => ?_) (fun c140 => ?_)
              · refine Zw_iinc_6 dX11_shut_157 rfl (zincn _) ?_
                refine Zw_goto 50 dX11_shut_160 (by decide) ?_
                rw [show 64 - k = (64 - (k + 1)) + 1 by omega, m_shk_s] at hV
                have hFv : c_sf (cutC C (k / 8) (k % 8)) w f T a = nI (c_D (cutC C (k / 8) (k % 8)) w f 40 (8 * T + a)) := c_sf_y dY
                have hl : q_lss (nI (c_D (cutC C (k / 8) (k % 8)) w f 40 (8 * T + a))) least = false := q_lss_f (fun e => e.2.elim c133 (i32_nlt c140))
                rw [if_pos (by omega), sh1_y (F := (fun i j => c_sf (cutC C i j) w f T a)) (i := k / 8) (j := k % 8) hhas hFv, if_neg (by rw [hl]; simp)] at hV
                refine Zw_drop (L' := [.ref 61, .int (nI f), .int 0, .int (nI a), .int best, .int least, .int (nI (k + 1)), .null, .null, .null]) ⟨Or.inr rfl, Or.inr rfl, Or.inr rfl, Or.inr rfl, Or.inr rfl, Or.inr rfl, Or.inr rfl, Or.inl rfl, Or.inl rfl, Or.inl rfl, trivial⟩ (Nat.le_of_ble_eq_true rfl) ?_
                exact l_mshut0 hc hf hth hT ha8 hsy h m (k + 1) _ _ _ _ (by omega) (by omega) (hO.tr hback) hV
              · refine Zw_bipush (v := 10) dX11_shut_143 (by decide) ?_
                refine Zw_iload_7 dX11_shut_145 ?_
                refine Zw_nmul (10) ((k / 8)) dX11_shut_147 rfl rfl ?_
                refine Zw_iload_8 dX11_shut_148 ?_
                refine Zw_nadd ((10 * (k / 8))) ((k % 8)) dX11_shut_150 rfl rfl ?_
                refine Zw_istore_4 dX11_shut_151 rfl ?_
                refine Zw_iload_9 dX11_shut_153 ?_
                refine Zw_istore_5 dX11_shut_155 rfl ?_
                refine Zw_iinc_6 dX11_shut_157 rfl (zincn _) ?_
                refine Zw_goto 50 dX11_shut_160 (by decide) ?_
                rw [show 64 - k = (64 - (k + 1)) + 1 by omega, m_shk_s] at hV
                have hFv : c_sf (cutC C (k / 8) (k % 8)) w f T a = nI (c_D (cutC C (k / 8) (k % 8)) w f 40 (8 * T + a)) := c_sf_y dY
                have hl : q_lss (nI (c_D (cutC C (k / 8) (k % 8)) w f 40 (8 * T + a))) least = true := q_lss_t ⟨nI_m1 (by omega), Or.inr (i32_lt c140)⟩
                rw [if_pos (by omega), sh1_y (F := (fun i j => c_sf (cutC C i j) w f T a)) (i := k / 8) (j := k % 8) hhas hFv, if_pos hl] at hV
                refine Zw_drop (L' := [.ref 61, .int (nI f), .int 0, .int (nI a), .int (nI (10 * (k / 8) + k % 8)), .int (nI (c_D (cutC C (k / 8) (k % 8)) w f 40 (8 * T + a))), .int (nI (k + 1)), .null, .null, .null]) ⟨Or.inr rfl, Or.inr rfl, Or.inr rfl, Or.inr rfl, Or.inr rfl, Or.inr rfl, Or.inr rfl, Or.inl rfl, Or.inl rfl, Or.inl rfl, trivial⟩ (Nat.le_of_ble_eq_true rfl) ?_
                exact l_mshut0 hc hf hth hT ha8 hsy h m (k + 1) _ _ _ _ (by omega) (by omega) (hO.tr hback) hV
set_option maxRecDepth 20000 in
theorem s_mshut0 {C : mC} {w f T a : Nat} {Q : zQ} {μ : zMu} {τ : Int64} (hc : m_cx C w μ) (hf : f < cN C) (hth : μ 65 3 = nI T) (hT : T < 256) (ha : cA C f = a) (hsy : ∀ p q, p < 8 → q < 8 → q_has (C.2.1 p) q = q_has (C.2.1 q) p) (h : ∀ μ2 τ2, nOff [69, 70] μ μ2 → Q (some (.int (q_p2 (q_shx C.2.1 (fun i j => c_sf (cutC C i j) w f T a) 100 0 1 (-1, c_sf C w f T a)) 0))) μ2 τ2) : Zc 46 yX11_shut cX11_shut 10 (some .int) [.ref 61, .int (nI f), .int 0] μ τ Q := by
  refine Zc.mk 7 [.ref 61, .int (nI f), .int 0, .null, .null, .null, .null, .null, .null, .null] rfl (by decide) (Nat.le_of_ble_eq_true rfl) ?_
  have hA8 : a < 8 := by rw [← ha]; exact (hc.fd hf).2.2.2.2.2
  have hn5 := hc.n5.1
  refine Zw_aload_0 dX11_shut_0 ?_
  refine Zw_iload_1 dX11_shut_1 ?_
  refine Zw_V1 (k := 1) lm_X11_86 dX11_shut_2 (by decide) (by first | decide | assumption | omega) (by first | rfl | assumption) (by rfl) (Nat.le_of_ble_eq_true rfl) ?_
  refine s_isOne (cN C) hc.n5.1 hc.n5.2.1 (fun _ => ?_) (fun a0 => absurd (vp_in_nI hf (by have := hc.n5.1; omega)) a0)
  refine Zw_if_eq 18 dX11_shut_5 (by decide) (fun c => absurd c (by decide)) (fun _ => ?_)
  refine Zw_iload_2 dX11_shut_8 ?_
  refine Zw_i2l dX11_shut_9 ?_
  refine Zw_lconst (v := 0) dX11_shut_10 (by decide) ?_
  refine Zw_lconst (v := 1) dX11_shut_11 (by decide) ?_
  refine Zw_S3 (k := 0) lm_X11_76 dX11_shut_12 (by decide) (Nat.le_of_ble_eq_true rfl) ?_
  refine s_in0 2 (by decide) (fun _ => ?_) (fun a0 => absurd (by unfold vp_in; decide) a0)
  refine Zw_if_ne 21 dX11_shut_15 (by decide) (fun _ => ?_) (fun c => absurd c (by decide))
  refine Zw_aload_0 dX11_shut_21 ?_
  refine Zw_getr 68 lf_X11_32 dX11_shut_22 (by first | decide | assumption | omega) (by first | rfl | assumption) (by rfl) ?_
  refine Zw_iconst (v := 3) dX11_shut_25 (by decide) ?_
  refine Zw_iload_1 dX11_shut_26 ?_
  refine Zw_nmul (3) (f) dX11_shut_27 rfl rfl ?_
  refine Zw_iconst (v := 1) dX11_shut_28 (by decide) ?_
  refine Zw_nadd ((3 * f)) (1) dX11_shut_29 rfl rfl ?_
  refine Zw_ialdnv (((3 * f) + 1)) (nI a) dX11_shut_30 (by first | decide | assumption | omega) (by first | rfl | assumption) rfl (by omega) (by decide) (by rw [(hc.fd hf).2.2.1, ha]) ?_
  refine Zw_istore_3 dX11_shut_31 rfl ?_
  refine Zw_aload_0 dX11_shut_32 ?_
  refine Zw_iload_1 dX11_shut_33 ?_
  refine Zw_V1 (k := 45) lm_X11_362 dX11_shut_34 (by decide) (by first | decide | assumption | omega) (by first | rfl | assumption) (by rfl) (Nat.le_of_ble_eq_true rfl) ?_
  refine s_counts hc hf (fun μ1 τ1 o1 s1 hD1 => ?_)
  refine Zw_iconst (v := (-1)) dX11_shut_37 (by decide) ?_
  refine Zw_istore_4 dX11_shut_38 rfl ?_
  refine Zw_aload_0 dX11_shut_40 ?_
  refine Zw_iload_3 dX11_shut_41 ?_
  refine Zw_V1 (k := 0) lm_X11_366 dX11_shut_42 (by decide) (by first | decide | assumption | omega) (by first | rfl | assumption) (by rfl) (Nat.le_of_ble_eq_true rfl) ?_
  refine s_sureFrom hD1 (by rw [o1.fr (by decide) (by simp)]; exact hth) hT hA8 (fun dN => ?_) (fun dY => ?_)
  · refine Zw_istore_5 dX11_shut_45 rfl ?_
    refine Zw_iconst (v := 0) dX11_shut_47 (by decide) ?_
    refine Zw_istore_6 dX11_shut_48 rfl ?_
    refine l_mshut0 (hc.off o1 (by simp)) hf (by rw [o1.fr (by decide) (by simp)]; exact hth) hT hA8 hsy (fun μ2 τ2 o2 => h μ2 τ2 (o1.tr o2)) 65 0 _ _ _ _ (by omega) (by omega) (nOff.refl _ _) ?_
    rw [c_sf_n dN, ← m_shk_q]
  · refine Zw_istore_5 dX11_shut_45 rfl ?_
    refine Zw_iconst (v := 0) dX11_shut_47 (by decide) ?_
    refine Zw_istore_6 dX11_shut_48 rfl ?_
    refine l_mshut0 (hc.off o1 (by simp)) hf (by rw [o1.fr (by decide) (by simp)]; exact hth) hT hA8 hsy (fun μ2 τ2 o2 => h μ2 τ2 (o1.tr o2)) 65 0 _ _ _ _ (by omega) (by omega) (nOff.refl _ _) ?_
    rw [c_sf_y dY, ← m_shk_q]
set_option maxRecDepth 20000 in
theorem l_mshut1 {Q : zQ} {μ0 : zMu} {C : mC} {w f T a : Nat} {R : Int32 × Int32} (hc : m_cx C w μ0) (hf : f < cN C) (hth : μ0 65 3 = nI T) (hT : T < 256) (ha8 : a < 8) (hsy : ∀ p q, p < 8 → q < 8 → q_has (C.2.1 p) q = q_has (C.2.1 q) p) (h : ∀ μ2 τ2, nOff [69, 70] μ0 μ2 → Q (some (.int (q_p2 R 1))) μ2 τ2) : ∀ m k best least μ τ, 64 - k < m → k ≤ 64 → nOff [69, 70] μ0 μ → m_shk C.2.1 (fun i j => c_sf (cutC C i j) w f T a) (64 - k) k (best, least) = R → Zw 46 RX11 cX11_shut 10 (some .int) Q 50 [.ref 61, .int (nI f), .int 1, .int (nI a), .int best, .int least, .int (nI k), .null, .null, .null] [] μ τ
  | 0, k, _, _, _, _, hm, _, _, _ => absurd hm (by omega)
  | m + 1, k, best, least, μ, τ, hm, hk, hO, hV => by
    have hcm : m_cx C w μ := hc.off hO (by simp)
    refine Zw_iload_6 dX11_shut_50 ?_
    refine Zw_bipush (v := 64) dX11_shut_52 (by decide) ?_
    refine Zw_nicmp_ge (k) (64) 163 dX11_shut_54 (by decide) rfl rfl (by omega) (by omega) (fun c54 => ?_) (fun c54 => ?_)
    · refine Zw_iload_2 dX11_shut_163 ?_
      refine Zw_if_ne 172 dX11_shut_164 (by decide) (fun _ => ?_) (fun c => absurd c (by decide))
      refine Zw_iload_5 dX11_shut_172 ?_
      refine Zw_ireturn dX11_shut_174 (by first | rfl | assumption) ?_
      rw [show 64 - k = 0 by omega] at hV
      subst hV
      exact h _ _ hO
    · refine Zw_iload_6 dX11_shut_57 ?_
      refine Zw_bipush (v := 8) dX11_shut_59 (by decide) ?_
      refine Zw_ndiv (k) (8) dX11_shut_61 rfl rfl (by omega) (by omega) (by omega) ?_
      refine Zw_istore_7 dX11_shut_62 rfl ?_
      refine Zw_iload_6 dX11_shut_64 ?_
      refine Zw_bipush (v := 8) dX11_shut_66 (by decide) ?_
      refine Zw_nrem (k) (8) dX11_shut_68 rfl rfl (by omega) (by omega) (by omega) ?_
      refine Zw_istore_8 dX11_shut_69 rfl ?_
      refine Zw_iload_7 dX11_shut_71 ?_
      refine Zw_iload_8 dX11_shut_73 ?_
      refine Zw_nicmp_ge ((k / 8)) ((k % 8)) 157 dX11_shut_75 (by decide) rfl rfl (by omega) (by omega) (fun c75 => ?_) (fun c75 => ?_)
      · refine Zw_iinc_6 dX11_shut_157 rfl (zincn _) ?_
        refine Zw_goto 50 dX11_shut_160 (by decide) ?_
        rw [show 64 - k = (64 - (k + 1)) + 1 by omega, m_shk_s] at hV
        rw [if_neg (by omega)] at hV
        refine Zw_drop (L' := [.ref 61, .int (nI f), .int 1, .int (nI a), .int best, .int least, .int (nI (k + 1)), .null, .null, .null]) ⟨Or.inr rfl, Or.inr rfl, Or.inr rfl, Or.inr rfl, Or.inr rfl, Or.inr rfl, Or.inr rfl, Or.inl rfl, Or.inl rfl, Or.inl rfl, trivial⟩ (Nat.le_of_ble_eq_true rfl) ?_
        exact l_mshut1 hc hf hth hT ha8 hsy h m (k + 1) _ _ _ _ (by omega) (by omega) hO hV
      · have hla := hcm.ln (show k / 8 < 8 by omega)
        have hlb := hcm.ln (show k % 8 < 8 by omega)
        have hlr : r8 (C.2.1 (k / 8)) := by rw [← hla.1]; exact hla.2
        refine Zw_aload_0 dX11_shut_78 ?_
        refine Zw_getr 66 lf_X11_26 dX11_shut_79 (by first | decide | assumption | omega) (by first | rfl | assumption) (by rfl) ?_
        refine Zw_iload_7 dX11_shut_82 ?_
        refine Zw_ialdnv ((k / 8)) (C.2.1 (k / 8)) dX11_shut_84 (by first | decide | assumption | omega) (by first | rfl | assumption) rfl (by omega) (by decide) hla.1 ?_
        refine Zw_iload_8 dX11_shut_85 ?_
        refine Zw_ishr dX11_shut_87 ?_
        refine Zw_iconst (v := 1) dX11_shut_88 (by decide) ?_
        refine Zw_iand dX11_shut_89 ?_
        refine Zw_iconst (v := 1) dX11_shut_90 (by decide) ?_
        refine Zw_icmp_ne 157 dX11_shut_91 (by decide) (fun c91 => ?_) (fun c91 => ?_)
        · refine Zw_iinc_6 dX11_shut_157 rfl (zincn _) ?_
          refine Zw_goto 50 dX11_shut_160 (by decide) ?_
          rw [show 64 - k = (64 - (k + 1)) + 1 by omega, m_shk_s] at hV
          have hno : q_has (C.2.1 (k / 8)) (k % 8) = false := by cases hq : q_has (C.2.1 (k / 8)) (k % 8); rfl; exact absurd ((r8_h1 hlr (by omega)).mpr hq) c91
          rw [if_pos (by omega), sh1_n (F := (fun i j => c_sf (cutC C i j) w f T a)) (i := k / 8) (j := k % 8) hno] at hV
          refine Zw_drop (L' := [.ref 61, .int (nI f), .int 1, .int (nI a), .int best, .int least, .int (nI (k + 1)), .null, .null, .null]) ⟨Or.inr rfl, Or.inr rfl, Or.inr rfl, Or.inr rfl, Or.inr rfl, Or.inr rfl, Or.inr rfl, Or.inl rfl, Or.inl rfl, Or.inl rfl, trivial⟩ (Nat.le_of_ble_eq_true rfl) ?_
          exact l_mshut1 hc hf hth hT ha8 hsy h m (k + 1) _ _ _ _ (by omega) (by omega) hO hV
        · have hhas : q_has (C.2.1 (k / 8)) (k % 8) = true := (r8_h1 hlr (by omega)).mp c91
          refine Zw_aload_0 dX11_shut_94 ?_
          refine Zw_iload_7 dX11_shut_95 ?_
          refine Zw_iload_8 dX11_shut_97 ?_
          refine Zw_iconst (v := 0) dX11_shut_99 (by decide) ?_
          refine Zw_V3 (k := 0) lm_X11_110 dX11_shut_100 (by decide) (by first | decide | assumption | omega) (by first | rfl | assumption) (by rfl) (Nat.le_of_ble_eq_true rfl) ?_
          refine s_laysLane0 (by omega) (by omega) (by omega) ?_
          refine Zw_aload_0 dX11_shut_103 ?_
          refine Zw_iload_1 dX11_shut_104 ?_
          refine Zw_V1 (k := 45) lm_X11_362 dX11_shut_105 (by decide) (by first | decide | assumption | omega) (by first | rfl | assumption) (by rfl) (Nat.le_of_ble_eq_true rfl) ?_
          refine s_counts (C := (cutC C (k / 8) (k % 8))) (w := w) (f := f) (hcm.cut (by omega) (by omega)) hf (fun μ1 τ1 o1 s1 hD1 => ?_)
          refine Zw_aload_0 dX11_shut_108 ?_
          refine Zw_iload_3 dX11_shut_109 ?_
          refine Zw_V1 (k := 0) lm_X11_366 dX11_shut_110 (by decide) (by first | decide | assumption | omega) (by first | rfl | assumption) (by rfl) (Nat.le_of_ble_eq_true rfl) ?_
          refine s_sureFrom hD1 (by rw [o1.fr (by decide) (by simp), zup_ne (by decide), zup_ne (by decide), hO.fr (by decide) (by simp)]; exact hth) hT ha8 (fun dN => ?_) (fun dY => ?_)
          · refine Zw_istore_9 dX11_shut_113 rfl ?_
            refine Zw_aload_0 dX11_shut_115 ?_
            refine Zw_iload_7 dX11_shut_116 ?_
            refine Zw_iload_8 dX11_shut_118 ?_
            refine Zw_iconst (v := 1) dX11_shut_120 (by decide) ?_
            refine Zw_V3 (k := 0) lm_X11_110 dX11_shut_121 (by decide) (by first | decide | assumption | omega) (by first | rfl | assumption) (by rfl) (Nat.le_of_ble_eq_true rfl) ?_
            refine s_laysLane1 (by omega) (by omega) (by omega) ?_
            have hback := cut_back (by simp) (by omega) (by omega) (by omega) hla.2 hlb.2 (by rw [hla.1]; exact hhas) (by rw [hlb.1, hsy _ _ (by omega) (by omega)]; exact hhas) o1
            refine Zw_iload_9 dX11_shut_124 ?_
            refine Zw_iconst (v := (-1)) dX11_shut_126 (by decide) ?_
            refine Zw_icmp_eq 157 dX11_shut_127 (by decide) (fun _ => ?_) (fun c => absurd c (by decide))
            refine Zw_iinc_6 dX11_shut_157 rfl (zincn _) ?_
            refine Zw_goto 50 dX11_shut_160 (by decide) ?_
            rw [show 64 - k = (64 - (k + 1)) + 1 by omega, m_shk_s] at hV
            have hFv : c_sf (cutC C (k / 8) (k % 8)) w f T a = -1 := c_sf_n dN
            have hl : q_lss (-1) least = false := q_lss_f (fun e => e.1 rfl)
            rw [if_pos (by omega), sh1_y (F := (fun i j => c_sf (cutC C i j) w f T a)) (i := k / 8) (j := k % 8) hhas hFv, if_neg (by rw [hl]; simp)] at hV
            refine Zw_drop (L' := [.ref 61, .int (nI f), .int 1, .int (nI a), .int best, .int least, .int (nI (k + 1)), .null, .null, .null]) ⟨Or.inr rfl, Or.inr rfl, Or.inr rfl, Or.inr rfl, Or.inr rfl, Or.inr rfl, Or.inr rfl, Or.inl rfl, Or.inl rfl, Or.inl rfl, trivial⟩ (Nat.le_of_ble_eq_true rfl) ?_
            exact l_mshut1 hc hf hth hT ha8 hsy h m (k + 1) _ _ _ _ (by omega) (by omega) (hO.tr hback) hV
          · refine Zw_istore_9 dX11_shut_113 rfl ?_
            refine Zw_aload_0 dX11_shut_115 ?_
            refine Zw_iload_7 dX11_shut_116 ?_
            refine Zw_iload_8 dX11_shut_118 ?_
            refine Zw_iconst (v := 1) dX11_shut_120 (by decide) ?_
            refine Zw_V3 (k := 0) lm_X11_110 dX11_shut_121 (by decide) (by first | decide | assumption | omega) (by first | rfl | assumption) (by rfl) (Nat.le_of_ble_eq_true rfl) ?_
            refine s_laysLane1 (by omega) (by omega) (by omega) ?_
            have hback := cut_back (by simp) (by omega) (by omega) (by omega) hla.2 hlb.2 (by rw [hla.1]; exact hhas) (by rw [hlb.1, hsy _ _ (by omega) (by omega)]; exact hhas) o1
            refine Zw_iload_9 dX11_shut_124 ?_
            refine Zw_iconst (v := (-1)) dX11_shut_126 (by decide) ?_
            refine Zw_icmp_eq 157 dX11_shut_127 (by decide) (fun c127 => absurd c127 (nI_m1 (by omega))) (fun c127 => ?_)
            refine Zw_iload_5 dX11_shut_130 ?_
            refine Zw_iconst (v := (-1)) dX11_shut_132 (by decide) ?_
            refine Zw_icmp_eq 143 dX11_shut_133 (by decide) (fun c133 => ?_) (fun c133 => ?_)
            · refine Zw_bipush (v := 10) dX11_shut_143 (by decide) ?_
              refine Zw_iload_7 dX11_shut_145 ?_
              refine Zw_nmul (10) ((k / 8)) dX11_shut_147 rfl rfl ?_
              refine Zw_iload_8 dX11_shut_148 ?_
              refine Zw_nadd ((10 * (k / 8))) ((k % 8)) dX11_shut_150 rfl rfl ?_
              refine Zw_istore_4 dX11_shut_151 rfl ?_
              refine Zw_iload_9 dX11_shut_153 ?_
              refine Zw_istore_5 dX11_shut_155 rfl ?_
              refine Zw_iinc_6 dX11_shut_157 rfl (zincn _) ?_
              refine Zw_goto 50 dX11_shut_160 (by decide) ?_
              rw [show 64 - k = (64 - (k + 1)) + 1 by omega, m_shk_s] at hV
              have hFv : c_sf (cutC C (k / 8) (k % 8)) w f T a = nI (c_D (cutC C (k / 8) (k % 8)) w f 40 (8 * T + a)) := c_sf_y dY
              have hl : q_lss (nI (c_D (cutC C (k / 8) (k % 8)) w f 40 (8 * T + a))) least = true := q_lss_t ⟨nI_m1 (by omega), Or.inl c133⟩
              rw [if_pos (by omega), sh1_y (F := (fun i j => c_sf (cutC C i j) w f T a)) (i := k / 8) (j := k % 8) hhas hFv, if_pos hl] at hV
              refine Zw_drop (L' := [.ref 61, .int (nI f), .int 1, .int (nI a), .int (nI (10 * (k / 8) + k % 8)), .int (nI (c_D (cutC C (k / 8) (k % 8)) w f 40 (8 * T + a))), .int (nI (k + 1)), .null, .null, .null]) ⟨Or.inr rfl, Or.inr rfl, Or.inr rfl, Or.inr rfl, Or.inr rfl, Or.inr rfl, Or.inr rfl, Or.inl rfl, Or.inl rfl, Or.inl rfl, trivial⟩ (Nat.le_of_ble_eq_true rfl) ?_
              exact l_mshut1 hc hf hth hT ha8 hsy h m (k + 1) _ _ _ _ (by omega) (by omega) (hO.tr hback) hV
            · refine Zw_iload_9 dX11_shut_136 ?_
              refine Zw_iload_5 dX11_shut_138 ?_
              refine Zw_icmp_ge 157 dX11_shut_140 (by decide) (fun c140 => ?_) (fun c140 => ?_)
              · refine Zw_iinc_6 dX11_shut_157 rfl (zincn _) ?_
                refine Zw_goto 50 dX11_shut_160 (by decide) ?_
                rw [show 64 - k = (64 - (k + 1)) + 1 by omega, m_shk_s] at hV
                have hFv : c_sf (cutC C (k / 8) (k % 8)) w f T a = nI (c_D (cutC C (k / 8) (k % 8)) w f 40 (8 * T + a)) := c_sf_y dY
                have hl : q_lss (nI (c_D (cutC C (k / 8) (k % 8)) w f 40 (8 * T + a))) least = false := q_lss_f (fun e => e.2.elim c133 (i32_nlt c140))
                rw [if_pos (by omega), sh1_y (F := (fun i j => c_sf (cutC C i j) w f T a)) (i := k / 8) (j := k % 8) hhas hFv, if_neg (by rw [hl]; simp)] at hV
                refine Zw_drop (L' := [.ref 61, .int (nI f), .int 1, .int (nI a), .int best, .int least, .int (nI (k + 1)), .null, .null, .null]) ⟨Or.inr rfl, Or.inr rfl, Or.inr rfl, Or.inr rfl, Or.inr rfl, Or.inr rfl, Or.inr rfl, Or.inl rfl, Or.inl rfl, Or.inl rfl, trivial⟩ (Nat.le_of_ble_eq_true rfl) ?_
                exact l_mshut1 hc hf hth hT ha8 hsy h m (k + 1) _ _ _ _ (by omega) (by omega) (hO.tr hback) hV
              · refine Zw_bipush (v := 10) dX11_shut_143 (by decide) ?_
                refine Zw_iload_7 dX11_shut_145 ?_
                refine Zw_nmul (10) ((k / 8)) dX11_shut_147 rfl rfl ?_
                refine Zw_iload_8 dX11_shut_148 ?_
                refine Zw_nadd ((10 * (k / 8))) ((k % 8)) dX11_shut_150 rfl rfl ?_
                refine Zw_istore_4 dX11_shut_151 rfl ?_
                refine Zw_iload_9 dX11_shut_153 ?_
                refine Zw_istore_5 dX11_shut_155 rfl ?_
                refine Zw_iinc_6 dX11_shut_157 rfl (zincn _) ?_
                refine Zw_goto 50 dX11_shut_160 (by decide) ?_
                rw [show 64 - k = (64 - (k + 1)) + 1 by omega, m_shk_s] at hV
                have hFv : c_sf (cutC C (k / 8) (k % 8)) w f T a = nI (c_D (cutC C (k / 8) (k % 8)) w f 40 (8 * T + a)) := c_sf_y dY
                have hl : q_lss (nI (c_D (cutC C (k / 8) (k % 8)) w f 40 (8 * T + a))) least = true := q_lss_t ⟨nI_m1 (by omega), Or.inr (i32_lt c140)⟩
                rw [if_pos (by omega), sh1_y (F := (fun i j => c_sf (cutC C i j) w f T a)) (i := k / 8) (j := k % 8) hhas hFv, if_pos hl] at hV
                refine Zw_drop (L' := [.ref 61, .int (nI f), .int 1, .int (nI a), .int (nI (10 * (k / 8) + k % 8)), .int (nI (c_D (cutC C (k / 8) (k % 8)) w f 40 (8 * T + a))), .int (nI (k + 1)), .null, .null, .null]) ⟨Or.inr rfl, Or.inr rfl, Or.inr rfl, Or.inr rfl, Or.inr rfl, Or.inr rfl, Or.inr rfl, Or.inl rfl, Or.inl rfl, Or.inl rfl, trivial⟩ (Nat.le_of_ble_eq_true rfl) ?_
                exact l_mshut1 hc hf hth hT ha8 hsy h m (k + 1) _ _ _ _ (by omega) (by omega) (hO.tr hback) hV
set_option maxRecDepth 20000 in
theorem s_mshut1 {C : mC} {w f T a : Nat} {Q : zQ} {μ : zMu} {τ : Int64} (hc : m_cx C w μ) (hf : f < cN C) (hth : μ 65 3 = nI T) (hT : T < 256) (ha : cA C f = a) (hsy : ∀ p q, p < 8 → q < 8 → q_has (C.2.1 p) q = q_has (C.2.1 q) p) (h : ∀ μ2 τ2, nOff [69, 70] μ μ2 → Q (some (.int (q_p2 (q_shx C.2.1 (fun i j => c_sf (cutC C i j) w f T a) 100 0 1 (-1, c_sf C w f T a)) 1))) μ2 τ2) : Zc 46 yX11_shut cX11_shut 10 (some .int) [.ref 61, .int (nI f), .int 1] μ τ Q := by
  refine Zc.mk 7 [.ref 61, .int (nI f), .int 1, .null, .null, .null, .null, .null, .null, .null] rfl (by decide) (Nat.le_of_ble_eq_true rfl) ?_
  have hA8 : a < 8 := by rw [← ha]; exact (hc.fd hf).2.2.2.2.2
  have hn5 := hc.n5.1
  refine Zw_aload_0 dX11_shut_0 ?_
  refine Zw_iload_1 dX11_shut_1 ?_
  refine Zw_V1 (k := 1) lm_X11_86 dX11_shut_2 (by decide) (by first | decide | assumption | omega) (by first | rfl | assumption) (by rfl) (Nat.le_of_ble_eq_true rfl) ?_
  refine s_isOne (cN C) hc.n5.1 hc.n5.2.1 (fun _ => ?_) (fun a0 => absurd (vp_in_nI hf (by have := hc.n5.1; omega)) a0)
  refine Zw_if_eq 18 dX11_shut_5 (by decide) (fun c => absurd c (by decide)) (fun _ => ?_)
  refine Zw_iload_2 dX11_shut_8 ?_
  refine Zw_i2l dX11_shut_9 ?_
  refine Zw_lconst (v := 0) dX11_shut_10 (by decide) ?_
  refine Zw_lconst (v := 1) dX11_shut_11 (by decide) ?_
  refine Zw_S3 (k := 0) lm_X11_76 dX11_shut_12 (by decide) (Nat.le_of_ble_eq_true rfl) ?_
  refine s_in0 2 (by decide) (fun _ => ?_) (fun a0 => absurd (by unfold vp_in; decide) a0)
  refine Zw_if_ne 21 dX11_shut_15 (by decide) (fun _ => ?_) (fun c => absurd c (by decide))
  refine Zw_aload_0 dX11_shut_21 ?_
  refine Zw_getr 68 lf_X11_32 dX11_shut_22 (by first | decide | assumption | omega) (by first | rfl | assumption) (by rfl) ?_
  refine Zw_iconst (v := 3) dX11_shut_25 (by decide) ?_
  refine Zw_iload_1 dX11_shut_26 ?_
  refine Zw_nmul (3) (f) dX11_shut_27 rfl rfl ?_
  refine Zw_iconst (v := 1) dX11_shut_28 (by decide) ?_
  refine Zw_nadd ((3 * f)) (1) dX11_shut_29 rfl rfl ?_
  refine Zw_ialdnv (((3 * f) + 1)) (nI a) dX11_shut_30 (by first | decide | assumption | omega) (by first | rfl | assumption) rfl (by omega) (by decide) (by rw [(hc.fd hf).2.2.1, ha]) ?_
  refine Zw_istore_3 dX11_shut_31 rfl ?_
  refine Zw_aload_0 dX11_shut_32 ?_
  refine Zw_iload_1 dX11_shut_33 ?_
  refine Zw_V1 (k := 45) lm_X11_362 dX11_shut_34 (by decide) (by first | decide | assumption | omega) (by first | rfl | assumption) (by rfl) (Nat.le_of_ble_eq_true rfl) ?_
  refine s_counts hc hf (fun μ1 τ1 o1 s1 hD1 => ?_)
  refine Zw_iconst (v := (-1)) dX11_shut_37 (by decide) ?_
  refine Zw_istore_4 dX11_shut_38 rfl ?_
  refine Zw_aload_0 dX11_shut_40 ?_
  refine Zw_iload_3 dX11_shut_41 ?_
  refine Zw_V1 (k := 0) lm_X11_366 dX11_shut_42 (by decide) (by first | decide | assumption | omega) (by first | rfl | assumption) (by rfl) (Nat.le_of_ble_eq_true rfl) ?_
  refine s_sureFrom hD1 (by rw [o1.fr (by decide) (by simp)]; exact hth) hT hA8 (fun dN => ?_) (fun dY => ?_)
  · refine Zw_istore_5 dX11_shut_45 rfl ?_
    refine Zw_iconst (v := 0) dX11_shut_47 (by decide) ?_
    refine Zw_istore_6 dX11_shut_48 rfl ?_
    refine l_mshut1 (hc.off o1 (by simp)) hf (by rw [o1.fr (by decide) (by simp)]; exact hth) hT hA8 hsy (fun μ2 τ2 o2 => h μ2 τ2 (o1.tr o2)) 65 0 _ _ _ _ (by omega) (by omega) (nOff.refl _ _) ?_
    rw [c_sf_n dN, ← m_shk_q]
  · refine Zw_istore_5 dX11_shut_45 rfl ?_
    refine Zw_iconst (v := 0) dX11_shut_47 (by decide) ?_
    refine Zw_istore_6 dX11_shut_48 rfl ?_
    refine l_mshut1 (hc.off o1 (by simp)) hf (by rw [o1.fr (by decide) (by simp)]; exact hth) hT hA8 hsy (fun μ2 τ2 o2 => h μ2 τ2 (o1.tr o2)) 65 0 _ _ _ _ (by omega) (by omega) (nOff.refl _ _) ?_
    rw [c_sf_y dY, ← m_shk_q]
set_option maxRecDepth 20000 in
theorem s_mshutB {x what : Int32} {Q : zQ} {μ : zMu} {τ : Int64} (n : Nat) (hn5 : n ≤ 5) (hn : μ 61 11 = nI n) (hbad : ¬ (vp_in x n ∧ vp_in what 2)) (h : Q (some (.int (-2))) μ τ) : Zc 46 yX11_shut cX11_shut 10 (some .int) [.ref 61, .int x, .int what] μ τ Q := by
  refine Zc.mk 7 [.ref 61, .int x, .int what, .null, .null, .null, .null, .null, .null, .null] rfl (by decide) (Nat.le_of_ble_eq_true rfl) ?_
  refine Zw_aload_0 dX11_shut_0 ?_
  refine Zw_iload_1 dX11_shut_1 ?_
  refine Zw_V1 (k := 1) lm_X11_86 dX11_shut_2 (by decide) (by first | decide | assumption | omega) (by first | rfl | assumption) (by rfl) (Nat.le_of_ble_eq_true rfl) ?_
  refine s_isOne n hn5 hn (fun b1 => ?_) (fun b1 => ?_)
  · refine Zw_if_eq 18 dX11_shut_5 (by decide) (fun c => absurd c (by decide)) (fun _ => ?_)
    refine Zw_iload_2 dX11_shut_8 ?_
    refine Zw_i2l dX11_shut_9 ?_
    refine Zw_lconst (v := 0) dX11_shut_10 (by decide) ?_
    refine Zw_lconst (v := 1) dX11_shut_11 (by decide) ?_
    refine Zw_S3 (k := 0) lm_X11_76 dX11_shut_12 (by decide) (Nat.le_of_ble_eq_true rfl) ?_
    refine s_in0 2 (by decide) (fun b2 => ?_) (fun b2 => ?_)
    · refine Zw_if_ne 21 dX11_shut_15 (by decide) (fun _ => ?_) (fun c => absurd c (by decide))
      exact absurd ⟨b1, b2⟩ hbad
    · refine Zw_if_ne 21 dX11_shut_15 (by decide) (fun c => absurd c (by decide)) (fun _ => ?_)
      refine Zw_bipush (v := (-2)) dX11_shut_18 (by decide) ?_
      refine Zw_ireturn dX11_shut_20 (by first | rfl | assumption) ?_
      exact h
  · refine Zw_if_eq 18 dX11_shut_5 (by decide) (fun _ => ?_) (fun c => absurd c (by decide))
    refine Zw_bipush (v := (-2)) dX11_shut_18 (by decide) ?_
    refine Zw_ireturn dX11_shut_20 (by first | rfl | assumption) ?_
    exact h
