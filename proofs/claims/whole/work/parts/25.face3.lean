set_option maxRecDepth 20000 in
theorem s_X_copy {s i o j n : Int32} {Q : zQ} {μ : zMu} {τ : Int64} (hrw : ∀ i, i < 4 → ∃ k, k ≤ 40 ∧ μ (53 + 2 * i) 2 = nI k) (hbad : ¬ (vp_in s 4 ∧ vp_in o 4) → Q (some (.int (-2))) μ τ) (hno : ∀ a b, a < 4 → b < 4 → s = nI a → o = nI b → (μ (53 + 2 * a) 1 = -1 ∨ μ (53 + 2 * b) 1 = -1) → Q (some (.int (-11))) μ τ) (hun : ∀ a b, a < 4 → b < 4 → s = nI a → o = nI b → μ (53 + 2 * a) 1 ≠ -1 → μ (53 + 2 * b) 1 ≠ -1 → μ (53 + 2 * a) 1 ≠ μ (53 + 2 * b) 1 → Q (some (.int (-13))) μ τ) (hout : ∀ a b ka kb, a < 4 → b < 4 → s = nI a → o = nI b → μ (53 + 2 * a) 1 ≠ -1 → μ (53 + 2 * b) 1 ≠ -1 → μ (53 + 2 * a) 1 = μ (53 + 2 * b) 1 → μ (53 + 2 * a) 2 = nI ka → μ (53 + 2 * b) 2 = nI kb → ka ≤ 40 → kb ≤ 40 → ¬ (0 ≤ i.toInt ∧ 0 ≤ j.toInt ∧ 0 ≤ n.toInt ∧ i.toInt + n.toInt ≤ ka ∧ j.toInt + n.toInt ≤ kb) → Q (some (.int (-12))) μ τ) (h : ∀ a b ka kb ii jj nn, a < 4 → b < 4 → s = nI a → o = nI b → μ (53 + 2 * a) 1 ≠ -1 → μ (53 + 2 * b) 1 ≠ -1 → μ (53 + 2 * a) 1 = μ (53 + 2 * b) 1 → μ (53 + 2 * a) 2 = nI ka → μ (53 + 2 * b) 2 = nI kb → ka ≤ 40 → kb ≤ 40 → i = nI ii → j = nI jj → n = nI nn → ii + nn ≤ ka → jj + nn ≤ kb → Q (some (.int (nI nn))) (zar μ (54 + 2 * b) (va_cpy (μ (54 + 2 * a)) (μ (54 + 2 * b)) ii jj nn)) τ) : Zc 1 yX10_copy cX10_copy 8 (some .int) [.ref 0, .int s, .int i, .int o, .int j, .int n] μ τ Q := by
  refine Zc.mk 2 [.ref 0, .int s, .int i, .int o, .int j, .int n, .null, .null] rfl (by decide) (Nat.le_of_ble_eq_true rfl) ?_
  refine Zw_iload_1 dX10_copy_0 ?_
  refine Zw_iconst (v := 4) dX10_copy_1 (by decide) ?_
  refine Zw_S2 (k := 0) lm_X10_76 dX10_copy_2 (by decide) (Nat.le_of_ble_eq_true rfl) ?_
  refine s_within 4 (by decide) (fun b1 => ?_) (fun b1 => ?_)
  · refine Zw_if_eq 16 dX10_copy_5 (by decide) (fun c => absurd c (by decide)) (fun _ => ?_)
    refine Zw_iload_3 dX10_copy_8 ?_
    refine Zw_iconst (v := 4) dX10_copy_9 (by decide) ?_
    refine Zw_S2 (k := 0) lm_X10_76 dX10_copy_10 (by decide) (Nat.le_of_ble_eq_true rfl) ?_
    refine s_within 4 (by decide) (fun b2 => ?_) (fun b2 => ?_)
    · refine Zw_if_ne 19 dX10_copy_13 (by decide) (fun _ => ?_) (fun c => absurd c (by decide))
      obtain ⟨a, ha, rfl⟩ := vp_in_of b1 (by decide)
      obtain ⟨b, hb, rfl⟩ := vp_in_of b2 (by decide)
      have hra := zRow_of ha
      have hrb := zRow_of hb
      obtain ⟨ka, hka, ea⟩ := hrw a ha
      obtain ⟨kb, hkb, eb⟩ := hrw b hb
      obtain ⟨a1, a2, a3, a4, a5⟩ := id hra
      obtain ⟨q1, q2, q3, q4, q5⟩ := id hrb
      refine Zw_aload_0 dX10_copy_19 ?_
      refine Zw_getr 52 lf_X10_67 dX10_copy_20 (by first | decide | assumption | omega) (by first | rfl | assumption) (by rfl) ?_
      refine Zw_iload_1 dX10_copy_23 ?_
      refine Zw_aaldn (a) (53 + 2 * a) dX10_copy_24 (by first | decide | assumption | omega) (by first | rfl | assumption) rfl (by omega) (zRow_g ha) (by decide) ?_
      refine Zw_astore_6 dX10_copy_25 rfl ?_
      refine Zw_aload_0 dX10_copy_27 ?_
      refine Zw_getr 52 lf_X10_67 dX10_copy_28 (by first | decide | assumption | omega) (by first | rfl | assumption) (by rfl) ?_
      refine Zw_iload_3 dX10_copy_31 ?_
      refine Zw_aaldn (b) (53 + 2 * b) dX10_copy_32 (by first | decide | assumption | omega) (by first | rfl | assumption) rfl (by omega) (zRow_g hb) (by decide) ?_
      refine Zw_astore_7 dX10_copy_33 rfl ?_
      refine Zw_aload_6 dX10_copy_35 ?_
      refine Zw_geti lf_X10_259 dX10_copy_37 (by first | decide | assumption | omega) (by first | rfl | assumption) (by rfl) ?_
      refine Zw_iconst (v := (-1)) dX10_copy_40 (by decide) ?_
      refine Zw_icmp_eq 53 dX10_copy_41 (by decide) (fun c41 => ?_) (fun c41 => ?_)
      · refine Zw_bipush (v := (-11)) dX10_copy_53 (by decide) ?_
        refine Zw_ireturn dX10_copy_55 (by first | rfl | assumption) ?_
        exact hno a b ha hb rfl rfl (Or.inl c41)
      · refine Zw_aload_7 dX10_copy_44 ?_
        refine Zw_geti lf_X10_259 dX10_copy_46 (by first | decide | assumption | omega) (by first | rfl | assumption) (by rfl) ?_
        refine Zw_iconst (v := (-1)) dX10_copy_49 (by decide) ?_
        refine Zw_icmp_ne 56 dX10_copy_50 (by decide) (fun c50 => ?_) (fun c50 => ?_)
        · refine Zw_aload_6 dX10_copy_56 ?_
          refine Zw_geti lf_X10_259 dX10_copy_58 (by first | decide | assumption | omega) (by first | rfl | assumption) (by rfl) ?_
          refine Zw_aload_7 dX10_copy_61 ?_
          refine Zw_geti lf_X10_259 dX10_copy_63 (by first | decide | assumption | omega) (by first | rfl | assumption) (by rfl) ?_
          refine Zw_icmp_eq 72 dX10_copy_66 (by decide) (fun c66 => ?_) (fun c66 => ?_)
          · refine Zw_aload_6 dX10_copy_72 ?_
            refine Zw_iload_2 dX10_copy_74 ?_
            refine Zw_iload_5 dX10_copy_75 ?_
            refine Zw_V2 (k := 0) lm_X10_263 dX10_copy_77 (by decide) (by first | decide | assumption | omega) (by first | rfl | assumption) (by rfl) (Nat.le_of_ble_eq_true rfl) ?_
            refine s_rowHolds hra hka ea (fun d1 d2 d3 => ?_) (fun d0 => ?_)
            · refine Zw_if_eq 95 dX10_copy_80 (by decide) (fun c => absurd c (by decide)) (fun _ => ?_)
              refine Zw_aload_7 dX10_copy_83 ?_
              refine Zw_iload_4 dX10_copy_85 ?_
              refine Zw_iload_5 dX10_copy_87 ?_
              refine Zw_V2 (k := 0) lm_X10_263 dX10_copy_89 (by decide) (by first | decide | assumption | omega) (by first | rfl | assumption) (by rfl) (Nat.le_of_ble_eq_true rfl) ?_
              refine s_rowHolds hrb hkb eb (fun f1 f2 f3 => ?_) (fun d0 => ?_)
              · refine Zw_if_ne 98 dX10_copy_92 (by decide) (fun _ => ?_) (fun c => absurd c (by decide))
                obtain ⟨ii, hii, rfl⟩ := nI_of (x := i) (fun e => by have := Int32.lt_iff_toInt_lt.mp e; simp at this; omega)
                obtain ⟨jj, hjj, rfl⟩ := nI_of (x := j) (fun e => by have := Int32.lt_iff_toInt_lt.mp e; simp at this; omega)
                obtain ⟨nn, hnn, rfl⟩ := nI_of (x := n) (fun e => by have := Int32.lt_iff_toInt_lt.mp e; simp at this; omega)
                rw [nI_toInt hii, nI_toInt hnn] at d3
                rw [nI_toInt hjj, nI_toInt hnn] at f3
                refine Zw_aload_6 dX10_copy_98 ?_
                refine Zw_getr (54 + 2 * a) lf_X10_266 dX10_copy_100 (by first | decide | assumption | omega) (by first | rfl | assumption) (by first | rfl | assumption) ?_
                refine Zw_iload_2 dX10_copy_103 ?_
                refine Zw_aload_7 dX10_copy_104 ?_
                refine Zw_getr (54 + 2 * b) lf_X10_266 dX10_copy_106 (by first | decide | assumption | omega) (by first | rfl | assumption) (by first | rfl | assumption) ?_
                refine Zw_iload_4 dX10_copy_109 ?_
                refine Zw_iload_5 dX10_copy_111 ?_
                refine Zw_copy lcp_RX10 dX10_copy_113 (by decide) (Nat.le_of_ble_eq_true rfl) a3 a4 q3 q4 (Int32.not_lt.mpr (nI_pos' (by omega))) (Int32.not_lt.mpr (nI_pos' (by omega))) (Int32.not_lt.mpr (nI_pos' (by omega))) (by rw [nI_clamp (by omega), nI_clamp (by omega)]; omega) (by rw [nI_clamp (by omega), nI_clamp (by omega)]; omega) ?_
                rw [nI_clamp (n := ii) (by omega), nI_clamp (n := jj) (by omega), nI_clamp (n := nn) (by omega)]
                refine Zw_iload_5 dX10_copy_116 ?_
                refine Zw_ireturn dX10_copy_118 (by first | rfl | assumption) ?_
                exact h a b ka kb ii jj nn ha hb rfl rfl c41 c50 c66 ea eb hka hkb rfl rfl rfl (by omega) (by omega)
              · refine Zw_if_ne 98 dX10_copy_92 (by decide) (fun c => absurd c (by decide)) (fun _ => ?_)
                refine Zw_bipush (v := (-12)) dX10_copy_95 (by decide) ?_
                refine Zw_ireturn dX10_copy_97 (by first | rfl | assumption) ?_
                exact hout a b ka kb ha hb rfl rfl c41 c50 c66 ea eb hka hkb (fun e => d0 ⟨e.2.1, e.2.2.1, e.2.2.2.2⟩)
            · refine Zw_if_eq 95 dX10_copy_80 (by decide) (fun _ => ?_) (fun c => absurd c (by decide))
              refine Zw_bipush (v := (-12)) dX10_copy_95 (by decide) ?_
              refine Zw_ireturn dX10_copy_97 (by first | rfl | assumption) ?_
              exact hout a b ka kb ha hb rfl rfl c41 c50 c66 ea eb hka hkb (fun e => d0 ⟨e.1, e.2.2.1, e.2.2.2.1⟩)
          · refine Zw_bipush (v := (-13)) dX10_copy_69 (by decide) ?_
            refine Zw_ireturn dX10_copy_71 (by first | rfl | assumption) ?_
            exact hun a b ha hb rfl rfl c41 c50 c66
        · refine Zw_bipush (v := (-11)) dX10_copy_53 (by decide) ?_
          refine Zw_ireturn dX10_copy_55 (by first | rfl | assumption) ?_
          exact hno a b ha hb rfl rfl (Or.inr c50)
    · refine Zw_if_ne 19 dX10_copy_13 (by decide) (fun c => absurd c (by decide)) (fun _ => ?_)
      refine Zw_bipush (v := (-2)) dX10_copy_16 (by decide) ?_
      refine Zw_ireturn dX10_copy_18 (by first | rfl | assumption) ?_
      exact hbad (fun e => b2 e.2)
  · refine Zw_if_eq 16 dX10_copy_5 (by decide) (fun _ => ?_) (fun c => absurd c (by decide))
    refine Zw_bipush (v := (-2)) dX10_copy_16 (by decide) ?_
    refine Zw_ireturn dX10_copy_18 (by first | rfl | assumption) ?_
    exact hbad (fun e => b1 e.1)
def q_in (x : Int32) (n : Nat) : Bool := decide (0 ≤ x.toInt ∧ x.toInt < n)
theorem q_in_iff {x : Int32} {n : Nat} : q_in x n = true ↔ vp_in x n := by rw [vp_in_iff]; simp [q_in]
def q_okF (kd nu on : Int32) : Bool := q_in kd 6 && (q_in nu 10 && q_in on 8)
theorem q_okF_iff {kd nu on : Int32} : q_okF kd nu on = true ↔ (vp_in kd 6 ∧ vp_in nu 10 ∧ vp_in on 8) := by
  simp only [q_okF, Bool.and_eq_true, q_in_iff]
def x_new (μ : zMu) (n : Nat) (kd nu on : Int32) : zMu := zup (zup (zup (zup (zup μ (4 + n) 0 kd) (4 + n) 1 nu) (4 + n) 2 on) (4 + n) 3 0) 1 2 (nI (n + 1))
/-- finders by a sheet: k-th three of m; (how many came, or -12; the world; how many there are) -/
def x_fl (it : Nat → Int32) (sz fr : Nat) : Nat → Nat → Nat → zMu → Nat → Int32 × zMu × Nat
  | 0, _, came, μ, n => (nI came, μ, n)
  | m + 1, k, came, μ, n => if fr + 3 * k + 3 ≤ sz then
      (if q_okF (it (fr + 3 * k)) (it (fr + 3 * k + 1)) (it (fr + 3 * k + 2)) = true ∧ n < 5 then x_fl it sz fr m (k + 1) (came + 1) (x_new μ n (it (fr + 3 * k)) (it (fr + 3 * k + 1)) (it (fr + 3 * k + 2))) (n + 1)
       else x_fl it sz fr m (k + 1) came μ n)
      else (-12, μ, n)
theorem x_fl_s (it : Nat → Int32) (sz fr m k came : Nat) (μ : zMu) (n : Nat) : x_fl it sz fr (m + 1) k came μ n = if fr + 3 * k + 3 ≤ sz then
      (if q_okF (it (fr + 3 * k)) (it (fr + 3 * k + 1)) (it (fr + 3 * k + 2)) = true ∧ n < 5 then x_fl it sz fr m (k + 1) (came + 1) (x_new μ n (it (fr + 3 * k)) (it (fr + 3 * k + 1)) (it (fr + 3 * k + 2))) (n + 1)
       else x_fl it sz fr m (k + 1) came μ n)
      else (-12, μ, n) := rfl
set_option maxRecDepth 20000 in
theorem l_fl {Q : zQ} {τ : Int64} {a fr m0 sz : Nat} {so : Int32} {it : Nat → Int32} {R : Int32 × zMu × Nat} (ha : a < 4) (hszb : sz ≤ 40) (hfr : fr < 2 ^ 31) (hm6 : m0 ≤ 5) (h : Q (some (.int R.1)) R.2.1 τ) : ∀ m k came μ n, m0 - k < m → k ≤ m0 → came ≤ k → n ≤ 5 → μ 1 2 = nI n → μ (54 + 2 * a) = it → μ (53 + 2 * a) 2 = nI sz → x_fl it sz fr (m0 - k) k came μ n = R → Zw 2 RX10 cX10_finders 9 (some .int) Q 76 [.ref 0, .int (nI a), .int so, .int (nI fr), .int (nI m0), .ref (53 + 2 * a), .int (nI came), .int (nI k), .null] [] μ τ
  | 0, k, _, _, _, hm, _, _, _, _, _, _, _ => absurd hm (by omega)
  | m + 1, k, came, μ, n, hm, hk, hck, hn5, hn, hit, hsz, hV => by
    have hra := zRow_of ha
    refine Zw_iload_7 dX10_finders_76 ?_
    refine Zw_iload_4 dX10_finders_78 ?_
    refine Zw_nicmp_ge (k) (m0) 168 dX10_finders_80 (by decide) rfl rfl (by omega) (by omega) (fun c80 => ?_) (fun c80 => ?_)
    · refine Zw_iload_6 dX10_finders_168 ?_
      refine Zw_ireturn dX10_finders_170 (by first | rfl | assumption) ?_
      rw [show m0 - k = 0 by omega] at hV
      subst hV
      exact h
    · obtain ⟨a1, a2, a3, a4, a5⟩ := id hra
      refine Zw_iload_3 dX10_finders_83 ?_
      refine Zw_aload_5 dX10_finders_84 ?_
      refine Zw_geti lf_X10_262 dX10_finders_86 (by first | decide | assumption | omega) (by first | rfl | assumption) (by rfl) ?_
      refine Zw_S2 (k := 0) lm_X10_76 dX10_finders_89 (by decide) (Nat.le_of_ble_eq_true rfl) ?_
      refine s_within sz (by rw [hsz]; exact nI_toInt (by omega)) (fun g1 => ?_) (fun g1 => ?_)
      · refine Zw_if_eq 110 dX10_finders_92 (by decide) (fun c => absurd c (by decide)) (fun _ => ?_)
        have hfs : fr < sz := by have h9 := (vp_in_iff.mp g1).2; rw [nI_toInt hfr] at h9; omega
        refine Zw_aload_5 dX10_finders_95 ?_
        refine Zw_iload_3 dX10_finders_97 ?_
        refine Zw_iconst (v := 3) dX10_finders_98 (by decide) ?_
        refine Zw_iload_7 dX10_finders_99 ?_
        refine Zw_nmul (3) (k) dX10_finders_101 rfl rfl ?_
        refine Zw_nadd (fr) ((3 * k)) dX10_finders_102 rfl rfl ?_
        refine Zw_iconst (v := 3) dX10_finders_103 (by decide) ?_
        refine Zw_V2 (k := 0) lm_X10_263 dX10_finders_104 (by decide) (by first | decide | assumption | omega) (by first | rfl | assumption) (by rfl) (Nat.le_of_ble_eq_true rfl) ?_
        refine s_rowHolds hra hszb hsz (fun d1 d2 d3 => ?_) (fun d0 => ?_)
        · refine Zw_if_ne 113 dX10_finders_107 (by decide) (fun _ => ?_) (fun c => absurd c (by decide))
          rw [nI_toInt (by omega)] at d3
          simp at d3
          have hV2 := hV
          rw [show m0 - k = (m0 - (k + 1)) + 1 by omega, x_fl_s, if_pos (show fr + 3 * k + 3 ≤ sz by omega)] at hV2
          refine Zw_iload_3 dX10_finders_113 ?_
          refine Zw_iconst (v := 3) dX10_finders_114 (by decide) ?_
          refine Zw_iload_7 dX10_finders_115 ?_
          refine Zw_nmul (3) (k) dX10_finders_117 rfl rfl ?_
          refine Zw_nadd (fr) ((3 * k)) dX10_finders_118 rfl rfl ?_
          refine Zw_istore_8 dX10_finders_119 rfl ?_
          refine Zw_aload_0 dX10_finders_121 ?_
          refine Zw_getr 1 lf_X10_10 dX10_finders_122 (by first | decide | assumption | omega) (by first | rfl | assumption) (by rfl) ?_
          refine Zw_aload_5 dX10_finders_125 ?_
          refine Zw_getr (54 + 2 * a) lf_X10_266 dX10_finders_127 (by first | decide | assumption | omega) (by first | rfl | assumption) (by first | rfl | assumption) ?_
          refine Zw_iload_8 dX10_finders_130 ?_
          refine Zw_ialdnv ((fr + (3 * k))) (it (fr + 3 * k)) dX10_finders_132 (by first | decide | assumption | omega) (by first | rfl | assumption) rfl (by omega) (by decide) (by rw [hit]) ?_
          refine Zw_aload_5 dX10_finders_133 ?_
          refine Zw_getr (54 + 2 * a) lf_X10_266 dX10_finders_135 (by first | decide | assumption | omega) (by first | rfl | assumption) (by first | rfl | assumption) ?_
          refine Zw_iload_8 dX10_finders_138 ?_
          refine Zw_iconst (v := 1) dX10_finders_140 (by decide) ?_
          refine Zw_nadd ((fr + (3 * k))) (1) dX10_finders_141 rfl rfl ?_
          refine Zw_ialdnv (((fr + (3 * k)) + 1)) (it (fr + 3 * k + 1)) dX10_finders_142 (by first | decide | assumption | omega) (by first | rfl | assumption) rfl (by omega) (by decide) (by rw [hit]) ?_
          refine Zw_aload_5 dX10_finders_143 ?_
          refine Zw_getr (54 + 2 * a) lf_X10_266 dX10_finders_145 (by first | decide | assumption | omega) (by first | rfl | assumption) (by first | rfl | assumption) ?_
          refine Zw_iload_8 dX10_finders_148 ?_
          refine Zw_iconst (v := 2) dX10_finders_150 (by decide) ?_
          refine Zw_nadd ((fr + (3 * k))) (2) dX10_finders_151 rfl rfl ?_
          refine Zw_ialdnv (((fr + (3 * k)) + 2)) (it (fr + 3 * k + 2)) dX10_finders_152 (by first | decide | assumption | omega) (by first | rfl | assumption) rfl (by omega) (by decide) (by rw [hit]) ?_
          refine Zw_V3 (k := 1) lm_X10_99 dX10_finders_153 (by decide) (by first | decide | assumption | omega) (by first | rfl | assumption) (by rfl) (Nat.le_of_ble_eq_true rfl) ?_
          refine s_addFinder n hn5 hn (fun e0 => ?_) (fun e1 e2 => ?_) (fun e1 e2 => ?_)
          · refine Zw_if_lt 162 dX10_finders_156 (by decide) (fun c156 => ?_) (fun c156 => absurd c156 (not_not_intro (by decide)))
            refine Zw_iinc_7 dX10_finders_162 rfl (zincn _) ?_
            refine Zw_goto 76 dX10_finders_165 (by decide) ?_
            refine Zw_drop (L' := [.ref 0, .int (nI a), .int so, .int (nI fr), .int (nI m0), .ref (53 + 2 * a), .int (nI came), .int (nI (k + 1)), .null]) ⟨Or.inr rfl, Or.inr rfl, Or.inr rfl, Or.inr rfl, Or.inr rfl, Or.inr rfl, Or.inr rfl, Or.inr rfl, Or.inl rfl, trivial⟩ (Nat.le_of_ble_eq_true rfl) ?_
            rw [if_neg (fun e => e0 (q_okF_iff.mp e.1))] at hV2
            exact l_fl ha hszb hfr hm6 h m (k + 1) came _ n (by omega) (by omega) (by omega) hn5 hn hit hsz hV2
          · refine Zw_if_lt 162 dX10_finders_156 (by decide) (fun c156 => ?_) (fun c156 => absurd c156 (not_not_intro (by decide)))
            refine Zw_iinc_7 dX10_finders_162 rfl (zincn _) ?_
            refine Zw_goto 76 dX10_finders_165 (by decide) ?_
            refine Zw_drop (L' := [.ref 0, .int (nI a), .int so, .int (nI fr), .int (nI m0), .ref (53 + 2 * a), .int (nI came), .int (nI (k + 1)), .null]) ⟨Or.inr rfl, Or.inr rfl, Or.inr rfl, Or.inr rfl, Or.inr rfl, Or.inr rfl, Or.inr rfl, Or.inr rfl, Or.inl rfl, trivial⟩ (Nat.le_of_ble_eq_true rfl) ?_
            rw [if_neg (fun e => by omega)] at hV2
            exact l_fl ha hszb hfr hm6 h m (k + 1) came _ n (by omega) (by omega) (by omega) hn5 hn hit hsz hV2
          · refine Zw_if_lt 162 dX10_finders_156 (by decide) (fun c156 => absurd c156 (Int32.not_lt.mpr (nI_pos' (by omega)))) (fun c156 => ?_)
            refine Zw_iinc_6 dX10_finders_159 rfl (zincn _) ?_
            refine Zw_iinc_7 dX10_finders_162 rfl (zincn _) ?_
            refine Zw_goto 76 dX10_finders_165 (by decide) ?_
            refine Zw_drop (L' := [.ref 0, .int (nI a), .int so, .int (nI fr), .int (nI m0), .ref (53 + 2 * a), .int (nI (came + 1)), .int (nI (k + 1)), .null]) ⟨Or.inr rfl, Or.inr rfl, Or.inr rfl, Or.inr rfl, Or.inr rfl, Or.inr rfl, Or.inr rfl, Or.inr rfl, Or.inl rfl, trivial⟩ (Nat.le_of_ble_eq_true rfl) ?_
            rw [if_pos ⟨q_okF_iff.mpr e1, e2⟩] at hV2
            exact l_fl ha hszb hfr hm6 h m (k + 1) (came + 1) _ (n + 1) (by omega) (by omega) (by omega) (by omega) (by simp [x_new, zup_at]) (by rw [zup_ne (by omega), zup_ne (by omega), zup_ne (by omega), zup_ne (by omega), zup_ne (by omega)]; exact hit) (by rw [zup_ne (by omega), zup_ne (by omega), zup_ne (by omega), zup_ne (by omega), zup_ne (by omega)]; exact hsz) hV2
        · refine Zw_if_ne 113 dX10_finders_107 (by decide) (fun c => absurd c (by decide)) (fun _ => ?_)
          refine Zw_bipush (v := (-12)) dX10_finders_110 (by decide) ?_
          refine Zw_ireturn dX10_finders_112 (by first | rfl | assumption) ?_
          rw [show m0 - k = (m0 - (k + 1)) + 1 by omega, x_fl_s, if_neg (by intro hle; exact d0 ⟨by rw [nI_toInt (by omega)]; omega, by decide, by rw [nI_toInt (by omega)]; simp; omega⟩)] at hV
          subst hV
          exact h
      · refine Zw_if_eq 110 dX10_finders_92 (by decide) (fun _ => ?_) (fun c => absurd c (by decide))
        refine Zw_bipush (v := (-12)) dX10_finders_110 (by decide) ?_
        refine Zw_ireturn dX10_finders_112 (by first | rfl | assumption) ?_
        rw [show m0 - k = (m0 - (k + 1)) + 1 by omega, x_fl_s, if_neg (by intro hle; exact g1 (vp_in_nI (by omega) (by omega)))] at hV
        subst hV
        exact h
set_option maxRecDepth 20000 in
theorem f_fl {Q : zQ} {μ : zMu} {τ : Int64} {a m0 sz n : Nat} {so fm : Int32} (hn5 : n ≤ 5) (hn : μ 1 2 = nI n) (ha : a < 4) (hszb : sz ≤ 40) (hsz : μ (53 + 2 * a) 2 = nI sz) (hm6 : m0 ≤ 5) (h0 : m0 = 0 → Q (some (.int 0)) μ τ) (hneg : m0 ≠ 0 → fm < 0 → Q (some (.int (-12))) μ τ) (h : ∀ fr, fr < 2 ^ 31 → fm = nI fr → Q (some (.int (x_fl (μ (54 + 2 * a)) sz fr m0 0 0 μ n).1)) (x_fl (μ (54 + 2 * a)) sz fr m0 0 0 μ n).2.1 τ) : Zw 2 RX10 cX10_finders 9 (some .int) Q 76 [.ref 0, .int (nI a), .int so, .int fm, .int (nI m0), .ref (53 + 2 * a), .int 0, .int 0, .null] [] μ τ := by
  have hra := zRow_of ha
  obtain ⟨a1, a2, a3, a4, a5⟩ := id hra
  by_cases hf : fm < 0
  · refine Zw_iload_7 dX10_finders_76 ?_
    refine Zw_iload_4 dX10_finders_78 ?_
    refine Zw_nicmp_ge (0) (m0) 168 dX10_finders_80 (by decide) rfl rfl (by omega) (by omega) (fun c80 => ?_) (fun c80 => ?_)
    · refine Zw_iload_6 dX10_finders_168 ?_
      refine Zw_ireturn dX10_finders_170 (by first | rfl | assumption) ?_
      exact h0 (by omega)
    · refine Zw_iload_3 dX10_finders_83 ?_
      refine Zw_aload_5 dX10_finders_84 ?_
      refine Zw_geti lf_X10_262 dX10_finders_86 (by first | decide | assumption | omega) (by first | rfl | assumption) (by rfl) ?_
      refine Zw_S2 (k := 0) lm_X10_76 dX10_finders_89 (by decide) (Nat.le_of_ble_eq_true rfl) ?_
      refine s_within sz (by rw [hsz]; exact nI_toInt (by omega)) (fun g1 => ?_) (fun g1 => ?_)
      · refine Zw_if_eq 110 dX10_finders_92 (by decide) (fun c => absurd c (by decide)) (fun _ => ?_)
        exact absurd (vp_in_iff.mp g1).1 (by have := Int32.lt_iff_toInt_lt.mp hf; simp at this; omega)
      · refine Zw_if_eq 110 dX10_finders_92 (by decide) (fun _ => ?_) (fun c => absurd c (by decide))
        refine Zw_bipush (v := (-12)) dX10_finders_110 (by decide) ?_
        refine Zw_ireturn dX10_finders_112 (by first | rfl | assumption) ?_
        exact hneg (by omega) hf
  · obtain ⟨fr, hfr, rfl⟩ := nI_of hf
    exact l_fl (it := μ (54 + 2 * a)) ha hszb hfr hm6 (h fr hfr rfl) (m0 + 1) 0 0 μ n (by omega) (by omega) (by omega) hn5 hn rfl hsz rfl
set_option maxRecDepth 20000 in
theorem s_X_finders {s so fm m : Int32} {n : Nat} {Q : zQ} {μ : zMu} {τ : Int64} (hn5 : n ≤ 5) (hn : μ 1 2 = nI n) (hrw : ∀ i, i < 4 → ∃ k, k ≤ 40 ∧ μ (53 + 2 * i) 2 = nI k) (hbad : ¬ (vp_in s 4 ∧ vp_in so 3 ∧ vp_in m 6) → Q (some (.int (-2))) μ τ) (hun : ∀ a, a < 4 → s = nI a → vp_in so 3 → vp_in m 6 → μ (53 + 2 * a) 1 ≠ -1 → μ (53 + 2 * a) 1 ≠ so → Q (some (.int (-13))) μ τ) (hno : ∀ a, a < 4 → s = nI a → vp_in so 3 → vp_in m 6 → μ (53 + 2 * a) 1 = -1 → Q (some (.int (-11))) μ τ) (h0 : ∀ a, a < 4 → s = nI a → vp_in so 3 → μ (53 + 2 * a) 1 = so → m = 0 → Q (some (.int 0)) μ τ) (hneg : ∀ a m0, a < 4 → s = nI a → vp_in so 3 → μ (53 + 2 * a) 1 = so → m = nI m0 → m0 ≠ 0 → m0 ≤ 5 → fm < 0 → Q (some (.int (-12))) μ τ) (h : ∀ a m0 fr sz, a < 4 → s = nI a → vp_in so 3 → μ (53 + 2 * a) 1 = so → m = nI m0 → m0 ≤ 5 → fr < 2 ^ 31 → fm = nI fr → μ (53 + 2 * a) 2 = nI sz → sz ≤ 40 → Q (some (.int (x_fl (μ (54 + 2 * a)) sz fr m0 0 0 μ n).1)) (x_fl (μ (54 + 2 * a)) sz fr m0 0 0 μ n).2.1 τ) : Zc 2 yX10_finders cX10_finders 9 (some .int) [.ref 0, .int s, .int so, .int fm, .int m] μ τ Q := by
  refine Zc.mk 4 [.ref 0, .int s, .int so, .int fm, .int m, .null, .null, .null, .null] rfl (by decide) (Nat.le_of_ble_eq_true rfl) ?_
  refine Zw_iload_1 dX10_finders_0 ?_
  refine Zw_iconst (v := 4) dX10_finders_1 (by decide) ?_
  refine Zw_S2 (k := 0) lm_X10_76 dX10_finders_2 (by decide) (Nat.le_of_ble_eq_true rfl) ?_
  refine s_within 4 (by decide) (fun b1 => ?_) (fun b1 => ?_)
  · refine Zw_if_eq 26 dX10_finders_5 (by decide) (fun c => absurd c (by decide)) (fun _ => ?_)
    refine Zw_iload_2 dX10_finders_8 ?_
    refine Zw_iconst (v := 3) dX10_finders_9 (by decide) ?_
    refine Zw_S2 (k := 0) lm_X10_76 dX10_finders_10 (by decide) (Nat.le_of_ble_eq_true rfl) ?_
    refine s_within 3 (by decide) (fun b2 => ?_) (fun b2 => ?_)
    · refine Zw_if_eq 26 dX10_finders_13 (by decide) (fun c => absurd c (by decide)) (fun _ => ?_)
      refine Zw_iload_4 dX10_finders_16 ?_
      refine Zw_bipush (v := 6) dX10_finders_18 (by decide) ?_
      refine Zw_S2 (k := 0) lm_X10_76 dX10_finders_20 (by decide) (Nat.le_of_ble_eq_true rfl) ?_
      refine s_within 6 (by decide) (fun b3 => ?_) (fun b3 => ?_)
      · refine Zw_if_ne 29 dX10_finders_23 (by decide) (fun _ => ?_) (fun c => absurd c (by decide))
        obtain ⟨a, ha, rfl⟩ := vp_in_of b1 (by decide)
        have hra := zRow_of ha
        obtain ⟨a1, a2, a3, a4, a5⟩ := id hra
        obtain ⟨sz, hsz, es⟩ := hrw a ha
        refine Zw_aload_0 dX10_finders_29 ?_
        refine Zw_getr 52 lf_X10_67 dX10_finders_30 (by first | decide | assumption | omega) (by first | rfl | assumption) (by rfl) ?_
        refine Zw_iload_1 dX10_finders_33 ?_
        refine Zw_aaldn (a) (53 + 2 * a) dX10_finders_34 (by first | decide | assumption | omega) (by first | rfl | assumption) rfl (by omega) (zRow_g ha) (by decide) ?_
        refine Zw_astore_5 dX10_finders_35 rfl ?_
        refine Zw_aload_5 dX10_finders_37 ?_
        refine Zw_geti lf_X10_259 dX10_finders_39 (by first | decide | assumption | omega) (by first | rfl | assumption) (by rfl) ?_
        refine Zw_iconst (v := (-1)) dX10_finders_42 (by decide) ?_
        refine Zw_icmp_eq 58 dX10_finders_43 (by decide) (fun c43 => ?_) (fun c43 => ?_)
        · refine Zw_aload_5 dX10_finders_58 ?_
          refine Zw_geti lf_X10_259 dX10_finders_60 (by first | decide | assumption | omega) (by first | rfl | assumption) (by rfl) ?_
          refine Zw_iconst (v := (-1)) dX10_finders_63 (by decide) ?_
          refine Zw_icmp_ne 70 dX10_finders_64 (by decide) (fun c64 => absurd c64 (not_not_intro c43)) (fun c64 => ?_)
          refine Zw_bipush (v := (-11)) dX10_finders_67 (by decide) ?_
          refine Zw_ireturn dX10_finders_69 (by first | rfl | assumption) ?_
          exact hno a ha rfl b2 b3 c43
        · refine Zw_aload_5 dX10_finders_46 ?_
          refine Zw_geti lf_X10_259 dX10_finders_48 (by first | decide | assumption | omega) (by first | rfl | assumption) (by rfl) ?_
          refine Zw_iload_2 dX10_finders_51 ?_
          refine Zw_icmp_eq 58 dX10_finders_52 (by decide) (fun c52 => ?_) (fun c52 => ?_)
          · refine Zw_aload_5 dX10_finders_58 ?_
            refine Zw_geti lf_X10_259 dX10_finders_60 (by first | decide | assumption | omega) (by first | rfl | assumption) (by rfl) ?_
            refine Zw_iconst (v := (-1)) dX10_finders_63 (by decide) ?_
            refine Zw_icmp_ne 70 dX10_finders_64 (by decide) (fun c64 => ?_) (fun c64 => absurd c64 c43)
            refine Zw_iconst (v := 0) dX10_finders_70 (by decide) ?_
            refine Zw_istore_6 dX10_finders_71 rfl ?_
            refine Zw_iconst (v := 0) dX10_finders_73 (by decide) ?_
            refine Zw_istore_7 dX10_finders_74 rfl ?_
            obtain ⟨m0, hm0, rfl⟩ := vp_in_of b3 (by decide)
            exact f_fl hn5 hn ha hsz es (by omega) (fun e => h0 a ha rfl b2 c52 (by rw [e]; rfl)) (fun e1 e2 => hneg a m0 ha rfl b2 c52 rfl e1 (by omega) e2) (fun fr e1 e2 => h a m0 fr sz ha rfl b2 c52 rfl (by omega) e1 e2 es hsz)
          · refine Zw_bipush (v := (-13)) dX10_finders_55 (by decide) ?_
            refine Zw_ireturn dX10_finders_57 (by first | rfl | assumption) ?_
            exact hun a ha rfl b2 b3 c43 c52
      · refine Zw_if_ne 29 dX10_finders_23 (by decide) (fun c => absurd c (by decide)) (fun _ => ?_)
        refine Zw_bipush (v := (-2)) dX10_finders_26 (by decide) ?_
        refine Zw_ireturn dX10_finders_28 (by first | rfl | assumption) ?_
        exact hbad (fun e => b3 e.2.2)
    · refine Zw_if_eq 26 dX10_finders_13 (by decide) (fun _ => ?_) (fun c => absurd c (by decide))
      refine Zw_bipush (v := (-2)) dX10_finders_26 (by decide) ?_
      refine Zw_ireturn dX10_finders_28 (by first | rfl | assumption) ?_
      exact hbad (fun e => b2 e.2.1)
  · refine Zw_if_eq 26 dX10_finders_5 (by decide) (fun _ => ?_) (fun c => absurd c (by decide))
    refine Zw_bipush (v := (-2)) dX10_finders_26 (by decide) ?_
    refine Zw_ireturn dX10_finders_28 (by first | rfl | assumption) ?_
    exact hbad (fun e => b1 e.1)
