theorem s_in0 {x : Int32} {b : Int64} {Q : zQ} {μ : zMu} {τ : Int64} (n : Nat) (hb : b.toInt + 1 = n) (h1 : vp_in x n → Q (some (.int 1)) μ τ) (h0 : ¬ vp_in x n → Q (some (.int 0)) μ τ) : Zc 0 yX11_in cX11_in 6 (some .boolean) [.long x.toInt64, .long 0, .long b] μ τ Q := by
  have z0 : (0 : Int64).toInt = 0 := by decide
  refine s_in (fun a1 a2 => h1 (vp_in_iff.mpr ?_)) (fun a => h0 (fun e => a ?_))
  · rw [z32] at a1 a2
    rw [z0] at a1
    exact ⟨a1, by omega⟩
  · have := vp_in_iff.mp e
    rw [z32, z0]
    omega
theorem in_m1 : ∀ n, n ≤ 40 → (nI n - 1).toInt64.toInt + 1 = n := by decide +kernel
def q_up (s : Int32) : Nat → Nat → Nat
  | 0, _ => 0
  | m + 1, i => (if q_has s i then 1 else 0) + q_up s m (i + 1)
theorem q_up_pop : ∀ v, v < 256 → q_up (nI v) 8 0 = pop8 v := by decide +kernel
theorem pop8_pos : ∀ v, v < 256 → v ≠ 0 → 0 < pop8 v := by decide +kernel
theorem pop8_le : ∀ v, v < 256 → pop8 v ≤ 8 := by decide +kernel
theorem q_up_le (s : Int32) : ∀ m i, q_up s m i ≤ m
  | 0, _ => Nat.le_refl 0
  | m + 1, i => by
    have := q_up_le s m (i + 1)
    unfold q_up
    split <;> omega
theorem q_z9_n (z : Int32) : ∃ y, y < 2 ^ 31 ∧ q_z9 z = nI y := by
  refine ⟨z.toBitVec.toNat / 2 ^ 9, ?_, ?_⟩
  · have := z.toBitVec.isLt
    omega
  · apply Int32.toBitVec_inj.mp
    apply BitVec.eq_of_toNat_eq
    have h := z.toBitVec.isLt
    rw [pk_tn (by omega)]
    exact pk_ushr z 9 9 (by decide)
theorem q_next_n0 (sy : zSy) (ln : Nat → Int32) (ps wk : Int32) {p : Nat} (hp : p < 8) : q_next sy ln ps wk p ≠ 0 := by
  unfold q_next
  split
  · intro e
    have hb : q_bit p ≠ 0 := by
      have key : ∀ p, p < 8 → q_bit p ≠ 0 := by decide +kernel
      exact key p hp
    apply hb
    have hb2 : q_bit p = q_bit p &&& (q_orf (q_go sy ln ps wk p) 8 ||| q_bit p) := by
      apply Int32.toBitVec_inj.mp
      simp only [Int32.toBitVec_and, Int32.toBitVec_or]
      apply BitVec.eq_of_getLsbD_eq
      intro i hi
      simp only [BitVec.getLsbD_and, BitVec.getLsbD_or]
      cases (q_bit p).toBitVec.getLsbD i <;> simp
    rw [e] at hb2
    rw [hb2]
    apply Int32.toBitVec_inj.mp
    simp
  · rename_i h
    exact fun e => h (Or.inr e)
theorem q_pick_n {s z : Int32} {p : Nat} {v y : Nat} (hv : v < 256) (h0 : v ≠ 0) (hs : s = nI v) (hy : y < 2 ^ 31) (hz : q_z9 z = nI y) : q_pick s p z = q_pk s p 8 0 (nI (y % pop8 v)) ∧ q_ways s = nI (pop8 v) := by
  have h1 := pop8_pos v hv h0
  have h2 := pop8_le v hv
  have hw : q_ways s = nI (pop8 v) := by
    unfold q_ways
    rw [hs, q_bc_pop v hv]
    by_cases h : pop8 v = 1
    · rw [h]; decide
    · rw [if_pos (by show nI 1 < nI (pop8 v); exact (nI_ltI (by omega) (by omega)).mpr (by omega))]
  refine ⟨?_, hw⟩
  unfold q_pick
  rw [hw, hz, pk_rem hy h1 (by omega)]
set_option maxRecDepth 20000 in
theorem s_isOne {v : Int32} {Q : zQ} {μ : zMu} {τ : Int64} (n : Nat) (hn5 : n ≤ 5) (hn : μ 61 11 = nI n) (h1 : vp_in v n → Q (some (.int 1)) μ τ) (h0 : ¬ vp_in v n → Q (some (.int 0)) μ τ) : Zc 1 yX11_isOne cX11_isOne 2 (some .boolean) [.ref 61, .int v] μ τ Q := by
  refine Zc.mk 0 [.ref 61, .int v] rfl (by decide) (Nat.le_of_ble_eq_true rfl) ?_
  refine Zw_iload_1 dX11_isOne_0 ?_
  refine Zw_i2l dX11_isOne_1 ?_
  refine Zw_lconst (v := 0) dX11_isOne_2 (by decide) ?_
  refine Zw_aload_0 dX11_isOne_3 ?_
  refine Zw_getv (nI n) lf_X11_73 dX11_isOne_4 (by first | decide | assumption | omega) (by first | rfl | assumption) (by rfl) hn ?_
  refine Zw_iconst (v := 1) dX11_isOne_7 (by decide) ?_
  refine Zw_isub dX11_isOne_8 ?_
  refine Zw_i2l dX11_isOne_9 ?_
  refine Zw_S3 (k := 0) lm_X11_76 dX11_isOne_10 (by decide) (Nat.le_of_ble_eq_true rfl) ?_
  refine s_in0 n (in_m1 n (by omega)) (fun a1 => ?_) (fun a0 => ?_)
  · refine Zw_ireturn dX11_isOne_13 (by first | rfl | assumption) ?_
    exact h1 a1
  · refine Zw_ireturn dX11_isOne_13 (by first | rfl | assumption) ?_
    exact h0 a0
set_option maxRecDepth 20000 in
theorem l_steps {Q : zQ} {μ : zMu} {τ : Int64} {p R : Nat} {z s : Int32} (h : Q (some (.int (nI R))) μ τ) (hs : r8 s) : ∀ m i a, 8 - i < m → i ≤ 8 → a < q_up s (8 - i) i → q_pk s p (8 - i) i (nI a) = R → Zw 44 RX11 cX11_stepsBy 6 (some .int) Q 20 [.ref 61, .int (nI p), .int z, .int s, .int (nI a), .int (nI i)] [] μ τ
  | 0, i, _, hm, _, _, _ => absurd hm (by omega)
  | m + 1, i, a, hm, hi, hu, hV => by
    have hu8 := q_up_le s (8 - i) i
    have hi8 : i < 8 := by
      rcases Nat.lt_or_ge i 8 with h8 | h8
      · exact h8
      · rw [show 8 - i = 0 by omega] at hu; exact absurd hu (Nat.not_lt_zero _)
    have hm8 : 8 - i = (8 - (i + 1)) + 1 := by omega
    refine Zw_iload_3 dX11_stepsBy_20 ?_
    refine Zw_iload_5 dX11_stepsBy_21 ?_
    refine Zw_ishr dX11_stepsBy_23 ?_
    refine Zw_iconst (v := 1) dX11_stepsBy_24 (by decide) ?_
    refine Zw_iand dX11_stepsBy_25 ?_
    refine Zw_if_eq 34 dX11_stepsBy_26 (by decide) (fun c26 => ?_) (fun c26 => ?_)
    · 
      refine Zw_iload_4 dX11_stepsBy_34 ?_
      refine Zw_iload_3 dX11_stepsBy_36 ?_
      refine Zw_iload_5 dX11_stepsBy_37 ?_
      refine Zw_ishr dX11_stepsBy_39 ?_
      refine Zw_iconst (v := 1) dX11_stepsBy_40 (by decide) ?_
      refine Zw_iand dX11_stepsBy_41 ?_
      refine Zw_isub dX11_stepsBy_42 ?_
      refine Zw_istore_4 dX11_stepsBy_43 rfl ?_
      refine Zw_iinc_5 dX11_stepsBy_45 rfl (zincn _) ?_
      refine Zw_goto 20 dX11_stepsBy_48 (by decide) ?_
      have hh : q_has s i = false := q_has_no c26
      have e0 : nI a - ((s >>> (nI i &&& 31)) &&& 1) = nI a := by rw [c26]; exact pk_sub (b := 0) (by omega)
      rw [e0]
      rw [hm8, q_pk_s, if_neg (by rw [hh]; decide)] at hV
      rw [hm8] at hu
      unfold q_up at hu
      rw [if_neg (by rw [hh]; decide)] at hu
      exact l_steps h hs m (i + 1) a (by omega) (by omega) (by omega) hV
    · refine Zw_iload_4 dX11_stepsBy_29 ?_
      refine Zw_if_le 51 dX11_stepsBy_31 (by decide) (fun c31 => ?_) (fun c31 => ?_)
      · refine Zw_iload_5 dX11_stepsBy_51 ?_
        refine Zw_ireturn dX11_stepsBy_53 (by first | rfl | assumption) ?_
        have ha0 : a = 0 := by
          rcases Nat.eq_zero_or_pos a with e | e
          · exact e
          · exact absurd c31 (nI_nle e (by omega))
        subst ha0
        have hh : q_has s i = true := q_has_of c26
        rw [hm8, q_pk_s, if_pos hh, if_pos (by decide)] at hV
        rw [hV]
        exact h
      · have ha0 : 0 < a := by
          rcases Nat.eq_zero_or_pos a with e | e
          · subst e; exact absurd (by decide) c31
          · exact e
        refine Zw_iload_4 dX11_stepsBy_34 ?_
        refine Zw_iload_3 dX11_stepsBy_36 ?_
        refine Zw_iload_5 dX11_stepsBy_37 ?_
        refine Zw_ishr dX11_stepsBy_39 ?_
        refine Zw_iconst (v := 1) dX11_stepsBy_40 (by decide) ?_
        refine Zw_iand dX11_stepsBy_41 ?_
        refine Zw_isub dX11_stepsBy_42 ?_
        refine Zw_istore_4 dX11_stepsBy_43 rfl ?_
        refine Zw_iinc_5 dX11_stepsBy_45 rfl (zincn _) ?_
        refine Zw_goto 20 dX11_stepsBy_48 (by decide) ?_
        have hh : q_has s i = true := q_has_of c26
        have e1 : (s >>> (nI i &&& 31)) &&& 1 = nI 1 := (r8_h1 hs hi8).mpr hh
        rw [e1, pk_sub (by omega)]
        rw [hm8, q_pk_s, if_pos hh, if_neg (nI_ne0 (by omega) (by omega)), show a = (a - 1) + 1 by omega, pk_m1] at hV
        rw [hm8] at hu
        unfold q_up at hu
        rw [if_pos hh] at hu
        exact l_steps h hs m (i + 1) (a - 1) (by omega) (by omega) (by omega) hV
set_option maxRecDepth 20000 in
theorem s_steps {C : mC} {w p : Nat} {z : Int32} {Q : zQ} {μ : zMu} {τ : Int64} (hc : m_cx C w μ) (hp : p < 8) (h : ∀ μ2 τ2, nOff [] μ μ2 → Q (some (.int (nI (q_pick (c_mv C w p) p z)))) μ2 τ2) : Zc 44 yX11_stepsBy cX11_stepsBy 6 (some .int) [.ref 61, .int (nI p), .int z] μ τ Q := by
  refine Zc.mk 3 [.ref 61, .int (nI p), .int z, .null, .null, .null] rfl (by decide) (Nat.le_of_ble_eq_true rfl) ?_
  refine Zw_aload_0 dX11_stepsBy_0 ?_
  refine Zw_iload_1 dX11_stepsBy_1 ?_
  refine Zw_V1 (k := 43) lm_X11_120 dX11_stepsBy_2 (by decide) (by first | decide | assumption | omega) (by first | rfl | assumption) (by rfl) (Nat.le_of_ble_eq_true rfl) ?_
  refine s_c_cb hc hp (fun μ1 τ1 o1 => ?_)
  refine Zw_istore_3 dX11_stepsBy_5 rfl ?_
  refine Zw_iload_2 dX11_stepsBy_6 ?_
  refine Zw_bipush (v := 9) dX11_stepsBy_7 (by decide) ?_
  refine Zw_iushr dX11_stepsBy_9 ?_
  refine Zw_iload_3 dX11_stepsBy_10 ?_
  refine Zw_S1 (k := 0) lm_X11_329 dX11_stepsBy_11 (by decide) (Nat.le_of_ble_eq_true rfl) ?_
  refine s_bits (r8_mv C w hp) ?_
  obtain ⟨v, hv, ev⟩ := r8_mv C w hp
  obtain ⟨y, hy, ey⟩ := q_z9_n z
  have hv0 : v ≠ 0 := fun e => q_next_n0 C.1 C.2.1 C.2.2.1 (nI w) hp (show c_mv C w p = 0 by rw [ev, e]; rfl)
  have hpk := q_pick_n (p := p) hv hv0 ev hy ey
  have p1 := pop8_pos v hv hv0
  have p2 := pop8_le v hv
  have hbc : q_bc (c_mv C w p) = nI (pop8 v) := by rw [ev]; exact q_bc_pop v hv
  rw [hbc]
  have hne : ¬ nI (pop8 v) = 0 := nI_ne0 p1 (by omega)
  refine Zw_irem dX11_stepsBy_14 (by first | decide | assumption) ?_
  refine Zw_istore_4 dX11_stepsBy_15 rfl ?_
  refine Zw_iconst (v := 0) dX11_stepsBy_17 (by decide) ?_
  refine Zw_istore_5 dX11_stepsBy_18 rfl ?_
  have e2 : (z.toUInt32 >>> ((9 : Int32).toUInt32 &&& Int32.toUInt32 31)).toInt32 = nI y := ey
  rw [e2, pk_rem hy p1 (by omega)]
  have hmod := Nat.mod_lt y p1
  exact l_steps (h μ1 τ1 o1) (r8_mv C w hp) 9 0 (y % pop8 v) (by omega) (by omega) (by rw [ev, q_up_pop v hv]; exact hmod) hpk.1.symm
