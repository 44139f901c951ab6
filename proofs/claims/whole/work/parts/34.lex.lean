theorem Zw_baldv {d : Nat} {own : String} {cc : ByteArray} {nL : Nat} {rt : Option FieldType} {Q : zQ} {pc : Nat} {L st : List Value} {μ : zMu} {τ : Int64} {i : Nat} {j x : Int32} (hi : i < 2) (hd : decode cc pc = .ok (.baload, 1)) (hin : vp_in j (zByl i)) (hx : (zByt i).getD j.toNatClampNeg 0 = x) (h : Zw d own cc nL rt Q (pc + 1) L (.int x :: st) μ τ) : Zw d own cc nL rt Q pc L (.int j :: .ref (86 + i) :: st) μ τ := Zw_bald hi hd hin (by rw [hx]; exact h)
def kWl : List Int32 := [103, 111, 101, 115, 32, 32, 115, 116, 97, 121, 115, 32, 115, 101, 101, 115, 32, 32, 111, 114, 32, 32, 32, 32, 97, 110, 100, 32, 32, 32, 110, 111, 116, 32, 32, 32, 112, 108, 97, 99, 101, 32, 116, 111, 32, 32, 32, 32, 119, 101, 101, 107, 32, 32, 110, 117, 109, 98, 101, 114, 119, 97, 121, 115, 32, 32, 112, 111, 115, 101, 32, 32]
def kW (j : Nat) : Int32 := kWl.getD j 0
theorem kW_b : zByt 0 = kWl := by decide +kernel
theorem kW_c : ∀ j, j < 72 → ((kW j &&& 255).toUInt32 % 65536).toInt32 = kW j ∧ narrow .char (.int (kW j)) = .int (kW j) := by decide +kernel
def k_ix (x : Int32) : Int32 := if x = 40 then 0 else if x = 41 then 1 else if x = 59 then 2 else if x = 43 then 3 else if x = 45 then 4 else if x = 42 then 5 else if x = 60 then 6 else if x = 61 then 7 else -1
set_option maxRecDepth 20000 in
theorem s_isLat0 {Q : zQ} {μ : zMu} {τ : Int64} (h : Q (some (.int 1)) μ τ) : Zc 0 yJ0_isLatin1_aae02 cJ0_isLatin1_aae02 1 (some .boolean) [.ref 84] μ τ Q := by
  refine Zc.mk 0 [.ref 84] rfl (by decide) (Nat.le_of_ble_eq_true rfl) ?_
  refine Zw_getC dJ0_isLatin1_aae02_0 ?_
  refine Zw_if_eq 17 dJ0_isLatin1_aae02_3 (by decide) (fun c => absurd c (by decide)) (fun _ => ?_)
  refine Zw_aload_0 dJ0_isLatin1_aae02_6 ?_
  refine Zw_scod (i := 0) (by decide) dJ0_isLatin1_aae02_7 ?_
  refine Zw_if_ne 17 dJ0_isLatin1_aae02_10 (by decide) (fun c => absurd c (by decide)) (fun _ => ?_)
  refine Zw_iconst (v := 1) dJ0_isLatin1_aae02_13 (by decide) ?_
  refine Zw_goto 18 dJ0_isLatin1_aae02_14 (by decide) ?_
  refine Zw_ireturn dJ0_isLatin1_aae02_18 (by first | rfl | assumption) ?_
  exact h
set_option maxRecDepth 20000 in
theorem s_isLat1 {Q : zQ} {μ : zMu} {τ : Int64} (h : Q (some (.int 1)) μ τ) : Zc 0 yJ0_isLatin1_aae02 cJ0_isLatin1_aae02 1 (some .boolean) [.ref 85] μ τ Q := by
  refine Zc.mk 0 [.ref 85] rfl (by decide) (Nat.le_of_ble_eq_true rfl) ?_
  refine Zw_getC dJ0_isLatin1_aae02_0 ?_
  refine Zw_if_eq 17 dJ0_isLatin1_aae02_3 (by decide) (fun c => absurd c (by decide)) (fun _ => ?_)
  refine Zw_aload_0 dJ0_isLatin1_aae02_6 ?_
  refine Zw_scod (i := 1) (by decide) dJ0_isLatin1_aae02_7 ?_
  refine Zw_if_ne 17 dJ0_isLatin1_aae02_10 (by decide) (fun c => absurd c (by decide)) (fun _ => ?_)
  refine Zw_iconst (v := 1) dJ0_isLatin1_aae02_13 (by decide) ?_
  refine Zw_goto 18 dJ0_isLatin1_aae02_14 (by decide) ?_
  refine Zw_ireturn dJ0_isLatin1_aae02_18 (by first | rfl | assumption) ?_
  exact h
set_option maxRecDepth 20000 in
theorem s_coder1 {Q : zQ} {μ : zMu} {τ : Int64} (h : Q (some (.int 0)) μ τ) : Zc 0 yJ0_coder_7d493 cJ0_coder_7d493 1 (some .byte) [.ref 85] μ τ Q := by
  refine Zc.mk 0 [.ref 85] rfl (by decide) (Nat.le_of_ble_eq_true rfl) ?_
  refine Zw_getC dJ0_coder_7d493_0 ?_
  refine Zw_if_eq 13 dJ0_coder_7d493_3 (by decide) (fun c => absurd c (by decide)) (fun _ => ?_)
  refine Zw_aload_0 dJ0_coder_7d493_6 ?_
  refine Zw_scod (i := 1) (by decide) dJ0_coder_7d493_7 ?_
  refine Zw_goto 14 dJ0_coder_7d493_10 (by decide) ?_
  refine Zw_ireturn dJ0_coder_7d493_14 (by first | rfl | assumption) ?_
  exact h
set_option maxRecDepth 20000 in
theorem s_slen1 {Q : zQ} {μ : zMu} {τ : Int64} (h : Q (some (.int 8)) μ τ) : Zc 1 yJ0_length_8abf5 cJ0_length_8abf5 1 (some .int) [.ref 85] μ τ Q := by
  refine Zc.mk 0 [.ref 85] rfl (by decide) (Nat.le_of_ble_eq_true rfl) ?_
  refine Zw_aload_0 dJ0_length_8abf5_0 ?_
  refine Zw_sval (i := 1) (by decide) dJ0_length_8abf5_1 ?_
  refine Zw_blen (i := 1) (by decide) dJ0_length_8abf5_4 ?_
  refine Zw_aload_0 dJ0_length_8abf5_5 ?_
  refine Zw_VS0 (i := 1) (k := 0) (by decide) lm_J0_335 dJ0_length_8abf5_6 (by decide) rfl (Nat.le_of_ble_eq_true rfl) ?_
  refine s_coder1 ?_
  refine Zw_ishr dJ0_length_8abf5_9 ?_
  refine Zw_ireturn dJ0_length_8abf5_10 (by first | rfl | assumption) ?_
  exact h
set_option maxRecDepth 20000 in
theorem s_chk {i n : Int32} {Q : zQ} {μ : zMu} {τ : Int64} (h0 : ¬ i < 0) (h1 : i < n) (h : Q none μ τ) : Zc 2 yJ0_checkIndex_df160 cJ0_checkIndex_df160 2 none [.int i, .int n] μ τ Q := by
  refine Zc.mk 0 [.int i, .int n] rfl (by decide) (Nat.le_of_ble_eq_true rfl) ?_
  refine Zw_iload_0 dJ0_checkIndex_df160_0 ?_
  refine Zw_iload_1 dJ0_checkIndex_df160_1 ?_
  refine Zw_chk dJ0_checkIndex_df160_2 dJ0_checkIndex_df160_5 (by decide) h0 h1 (Nat.le_of_ble_eq_true rfl) ?_
  refine Zw_pop dJ0_checkIndex_df160_8 rfl ?_
  refine Zw_return dJ0_checkIndex_df160_9 ?_
  exact h
set_option maxRecDepth 20000 in
theorem s_sl1 {j : Nat} {Q : zQ} {μ : zMu} {τ : Int64} (hj : j < 72) (h : Q (some (.int (kW j))) μ τ) : Zc 3 yJ1_charAt_3b067 cJ1_charAt_3b067 2 (some .char) [.ref 86, .int (nI j)] μ τ Q := by
  refine Zc.mk 0 [.ref 86, .int (nI j)] rfl (by decide) (Nat.le_of_ble_eq_true rfl) ?_
  refine Zw_iload_1 dJ1_charAt_3b067_0 ?_
  refine Zw_aload_0 dJ1_charAt_3b067_1 ?_
  refine Zw_blen (i := 0) (by decide) dJ1_charAt_3b067_2 ?_
  refine Zw_S2 (k := 2) lm_J1_9 dJ1_charAt_3b067_3 (by decide) (Nat.le_of_ble_eq_true rfl) ?_
  refine s_chk (nI_pos (by omega)) (nI_lt (b := 72) hj (by decide)) ?_
  refine Zw_aload_0 dJ1_charAt_3b067_6 ?_
  refine Zw_iload_1 dJ1_charAt_3b067_7 ?_
  have hin : vp_in (nI j) (zByl 0) := vp_in_nI (N := 72) hj (by decide)
  refine Zw_bald (i := 0) (by decide) dJ1_charAt_3b067_8 (by first | assumption | exact vp_in_nI (by omega) (by omega) | exact vp_in_nI (by simp; omega) (by decide) | (unfold vp_in; decide)) ?_
  rw [kW_b, nI_clamp (by omega)]
  change Zw _ _ _ _ _ _ _ _ (.int (kW j) :: []) _ _
  refine Zw_sipush (v := 255) dJ1_charAt_3b067_9 (by decide) ?_
  refine Zw_iand dJ1_charAt_3b067_12 ?_
  refine Zw_i2c dJ1_charAt_3b067_13 ?_
  have hk := kW_c j hj
  rw [hk.1]
  have hk2 := hk.2
  refine Zw_ireturn dJ1_charAt_3b067_14 (by first | rfl | assumption) ?_
  exact h
set_option maxRecDepth 20000 in
theorem s_charAt {j : Nat} {Q : zQ} {μ : zMu} {τ : Int64} (hj : j < 72) (h : Q (some (.int (kW j))) μ τ) : Zc 5 yJ0_charAt_5068e cJ0_charAt_5068e 2 (some .char) [.ref 84, .int (nI j)] μ τ Q := by
  refine Zc.mk 0 [.ref 84, .int (nI j)] rfl (by decide) (Nat.le_of_ble_eq_true rfl) ?_
  refine Zw_aload_0 dJ0_charAt_5068e_0 ?_
  refine Zw_VS0 (i := 0) (k := 0) (by decide) lm_J0_492 dJ0_charAt_5068e_1 (by decide) rfl (Nat.le_of_ble_eq_true rfl) ?_
  refine s_isLat0 ?_
  refine Zw_if_eq 16 dJ0_charAt_5068e_4 (by decide) (fun c => absurd c (by decide)) (fun _ => ?_)
  refine Zw_aload_0 dJ0_charAt_5068e_7 ?_
  refine Zw_sval (i := 0) (by decide) dJ0_charAt_5068e_8 ?_
  refine Zw_iload_1 dJ0_charAt_5068e_11 ?_
  refine Zw_S2 (k := 3) lm_J0_495 dJ0_charAt_5068e_12 (by decide) (Nat.le_of_ble_eq_true rfl) ?_
  refine s_sl1 hj ?_
  have hk := (kW_c j hj).2
  refine Zw_ireturn dJ0_charAt_5068e_15 (by first | rfl | assumption) ?_
  exact h
set_option maxRecDepth 20000 in
theorem s_canE {x : Int32} {Q : zQ} {μ : zMu} {τ : Int64} (h0 : ¬ x < 0) (h1 : ¬ 255 < x) (h : Q (some (.int 1)) μ τ) : Zc 0 yJ1_canEncode_9a6ad cJ1_canEncode_9a6ad 1 (some .boolean) [.int x] μ τ Q := by
  refine Zc.mk 0 [.int x] rfl (by decide) (Nat.le_of_ble_eq_true rfl) ?_
  refine Zw_iload_0 dJ1_canEncode_9a6ad_0 ?_
  refine Zw_if_lt 15 dJ1_canEncode_9a6ad_1 (by decide) (fun c1 => absurd c1 h0) (fun c1 => ?_)
  refine Zw_iload_0 dJ1_canEncode_9a6ad_4 ?_
  refine Zw_sipush (v := 255) dJ1_canEncode_9a6ad_5 (by decide) ?_
  refine Zw_icmp_gt 15 dJ1_canEncode_9a6ad_8 (by decide) (fun c8 => absurd c8 h1) (fun c8 => ?_)
  refine Zw_iconst (v := 1) dJ1_canEncode_9a6ad_11 (by decide) ?_
  refine Zw_goto 16 dJ1_canEncode_9a6ad_12 (by decide) ?_
  refine Zw_ireturn dJ1_canEncode_9a6ad_16 (by first | rfl | assumption) ?_
  exact h
set_option maxRecDepth 20000 in
theorem s_ioc {x : Int32} {Q : zQ} {μ : zMu} {τ : Int64} (h : Q (some (.int (k_ix x.toInt8.toInt32))) μ τ) : Zc 0 yJ1_indexOfChar_4cfef cJ1_indexOfChar_4cfef 6 (some .int) [.ref 87, .int x, .int 0, .int 8] μ τ Q := by
  refine Zc.mk 2 [.ref 87, .int x, .int 0, .int 8, .null, .null] rfl (by decide) (Nat.le_of_ble_eq_true rfl) ?_
  refine Zw_iload_1 dJ1_indexOfChar_4cfef_0 ?_
  refine Zw_i2b dJ1_indexOfChar_4cfef_1 ?_
  refine Zw_istore_4 dJ1_indexOfChar_4cfef_2 rfl ?_
  refine Zw_iload_2 dJ1_indexOfChar_4cfef_4 ?_
  refine Zw_istore_5 dJ1_indexOfChar_4cfef_5 rfl ?_
  refine Zw_iload_5 dJ1_indexOfChar_4cfef_7 ?_
  refine Zw_iload_3 dJ1_indexOfChar_4cfef_9 ?_
  refine Zw_icmp_ge 31 dJ1_indexOfChar_4cfef_10 (by decide) (fun c => absurd c (by decide)) (fun _ => ?_)
  refine Zw_aload_0 dJ1_indexOfChar_4cfef_13 ?_
  refine Zw_iload_5 dJ1_indexOfChar_4cfef_14 ?_
  refine Zw_baldv (i := 1) (x := 40) (by decide) dJ1_indexOfChar_4cfef_16 (by first | assumption | exact vp_in_nI (by omega) (by omega) | exact vp_in_nI (by simp; omega) (by decide) | (unfold vp_in; decide)) (by decide +kernel) ?_
  refine Zw_iload_4 dJ1_indexOfChar_4cfef_17 ?_
  refine Zw_icmp_ne 25 dJ1_indexOfChar_4cfef_19 (by decide) (fun c19 => ?_) (fun c19 => ?_)
  · refine Zw_iinc_5 (y := 1) dJ1_indexOfChar_4cfef_25 rfl (by decide) ?_
    refine Zw_goto 7 dJ1_indexOfChar_4cfef_28 (by decide) ?_
    refine Zw_iload_5 dJ1_indexOfChar_4cfef_7 ?_
    refine Zw_iload_3 dJ1_indexOfChar_4cfef_9 ?_
    refine Zw_icmp_ge 31 dJ1_indexOfChar_4cfef_10 (by decide) (fun c => absurd c (by decide)) (fun _ => ?_)
    refine Zw_aload_0 dJ1_indexOfChar_4cfef_13 ?_
    refine Zw_iload_5 dJ1_indexOfChar_4cfef_14 ?_
    refine Zw_baldv (i := 1) (x := 41) (by decide) dJ1_indexOfChar_4cfef_16 (by first | assumption | exact vp_in_nI (by omega) (by omega) | exact vp_in_nI (by simp; omega) (by decide) | (unfold vp_in; decide)) (by decide +kernel) ?_
    refine Zw_iload_4 dJ1_indexOfChar_4cfef_17 ?_
    refine Zw_icmp_ne 25 dJ1_indexOfChar_4cfef_19 (by decide) (fun c19_2 => ?_) (fun c19_2 => ?_)
    · refine Zw_iinc_5 (y := 2) dJ1_indexOfChar_4cfef_25 rfl (by decide) ?_
      refine Zw_goto 7 dJ1_indexOfChar_4cfef_28 (by decide) ?_
      refine Zw_iload_5 dJ1_indexOfChar_4cfef_7 ?_
      refine Zw_iload_3 dJ1_indexOfChar_4cfef_9 ?_
      refine Zw_icmp_ge 31 dJ1_indexOfChar_4cfef_10 (by decide) (fun c => absurd c (by decide)) (fun _ => ?_)
      refine Zw_aload_0 dJ1_indexOfChar_4cfef_13 ?_
      refine Zw_iload_5 dJ1_indexOfChar_4cfef_14 ?_
      refine Zw_baldv (i := 1) (x := 59) (by decide) dJ1_indexOfChar_4cfef_16 (by first | assumption | exact vp_in_nI (by omega) (by omega) | exact vp_in_nI (by simp; omega) (by decide) | (unfold vp_in; decide)) (by decide +kernel) ?_
      refine Zw_iload_4 dJ1_indexOfChar_4cfef_17 ?_
      refine Zw_icmp_ne 25 dJ1_indexOfChar_4cfef_19 (by decide) (fun c19_3 => ?_) (fun c19_3 => ?_)
      · refine Zw_iinc_5 (y := 3) dJ1_indexOfChar_4cfef_25 rfl (by decide) ?_
        refine Zw_goto 7 dJ1_indexOfChar_4cfef_28 (by decide) ?_
        refine Zw_iload_5 dJ1_indexOfChar_4cfef_7 ?_
        refine Zw_iload_3 dJ1_indexOfChar_4cfef_9 ?_
        refine Zw_icmp_ge 31 dJ1_indexOfChar_4cfef_10 (by decide) (fun c => absurd c (by decide)) (fun _ => ?_)
        refine Zw_aload_0 dJ1_indexOfChar_4cfef_13 ?_
        refine Zw_iload_5 dJ1_indexOfChar_4cfef_14 ?_
        refine Zw_baldv (i := 1) (x := 43) (by decide) dJ1_indexOfChar_4cfef_16 (by first | assumption | exact vp_in_nI (by omega) (by omega) | exact vp_in_nI (by simp; omega) (by decide) | (unfold vp_in; decide)) (by decide +kernel) ?_
        refine Zw_iload_4 dJ1_indexOfChar_4cfef_17 ?_
        refine Zw_icmp_ne 25 dJ1_indexOfChar_4cfef_19 (by decide) (fun c19_4 => ?_) (fun c19_4 => ?_)
        · refine Zw_iinc_5 (y := 4) dJ1_indexOfChar_4cfef_25 rfl (by decide) ?_
          refine Zw_goto 7 dJ1_indexOfChar_4cfef_28 (by decide) ?_
          refine Zw_iload_5 dJ1_indexOfChar_4cfef_7 ?_
          refine Zw_iload_3 dJ1_indexOfChar_4cfef_9 ?_
          refine Zw_icmp_ge 31 dJ1_indexOfChar_4cfef_10 (by decide) (fun c => absurd c (by decide)) (fun _ => ?_)
          refine Zw_aload_0 dJ1_indexOfChar_4cfef_13 ?_
          refine Zw_iload_5 dJ1_indexOfChar_4cfef_14 ?_
          refine Zw_baldv (i := 1) (x := 45) (by decide) dJ1_indexOfChar_4cfef_16 (by first | assumption | exact vp_in_nI (by omega) (by omega) | exact vp_in_nI (by simp; omega) (by decide) | (unfold vp_in; decide)) (by decide +kernel) ?_
          refine Zw_iload_4 dJ1_indexOfChar_4cfef_17 ?_
          refine Zw_icmp_ne 25 dJ1_indexOfChar_4cfef_19 (by decide) (fun c19_5 => ?_) (fun c19_5 => ?_)
          · refine Zw_iinc_5 (y := 5) dJ1_indexOfChar_4cfef_25 rfl (by decide) ?_
            refine Zw_goto 7 dJ1_indexOfChar_4cfef_28 (by decide) ?_
            refine Zw_iload_5 dJ1_indexOfChar_4cfef_7 ?_
            refine Zw_iload_3 dJ1_indexOfChar_4cfef_9 ?_
            refine Zw_icmp_ge 31 dJ1_indexOfChar_4cfef_10 (by decide) (fun c => absurd c (by decide)) (fun _ => ?_)
            refine Zw_aload_0 dJ1_indexOfChar_4cfef_13 ?_
            refine Zw_iload_5 dJ1_indexOfChar_4cfef_14 ?_
            refine Zw_baldv (i := 1) (x := 42) (by decide) dJ1_indexOfChar_4cfef_16 (by first | assumption | exact vp_in_nI (by omega) (by omega) | exact vp_in_nI (by simp; omega) (by decide) | (unfold vp_in; decide)) (by decide +kernel) ?_
            refine Zw_iload_4 dJ1_indexOfChar_4cfef_17 ?_
            refine Zw_icmp_ne 25 dJ1_indexOfChar_4cfef_19 (by decide) (fun c19_6 => ?_) (fun c19_6 => ?_)
            · refine Zw_iinc_5 (y := 6) dJ1_indexOfChar_4cfef_25 rfl (by decide) ?_
              refine Zw_goto 7 dJ1_indexOfChar_4cfef_28 (by decide) ?_
              refine Zw_iload_5 dJ1_indexOfChar_4cfef_7 ?_
              refine Zw_iload_3 dJ1_indexOfChar_4cfef_9 ?_
              refine Zw_icmp_ge 31 dJ1_indexOfChar_4cfef_10 (by decide) (fun c => absurd c (by decide)) (fun _ => ?_)
              refine Zw_aload_0 dJ1_indexOfChar_4cfef_13 ?_
              refine Zw_iload_5 dJ1_indexOfChar_4cfef_14 ?_
              refine Zw_baldv (i := 1) (x := 60) (by decide) dJ1_indexOfChar_4cfef_16 (by first | assumption | exact vp_in_nI (by omega) (by omega) | exact vp_in_nI (by simp; omega) (by decide) | (unfold vp_in; decide)) (by decide +kernel) ?_
              refine Zw_iload_4 dJ1_indexOfChar_4cfef_17 ?_
              refine Zw_icmp_ne 25 dJ1_indexOfChar_4cfef_19 (by decide) (fun c19_7 => ?_) (fun c19_7 => ?_)
              · refine Zw_iinc_5 (y := 7) dJ1_indexOfChar_4cfef_25 rfl (by decide) ?_
                refine Zw_goto 7 dJ1_indexOfChar_4cfef_28 (by decide) ?_
                refine Zw_iload_5 dJ1_indexOfChar_4cfef_7 ?_
                refine Zw_iload_3 dJ1_indexOfChar_4cfef_9 ?_
                refine Zw_icmp_ge 31 dJ1_indexOfChar_4cfef_10 (by decide) (fun c => absurd c (by decide)) (fun _ => ?_)
                refine Zw_aload_0 dJ1_indexOfChar_4cfef_13 ?_
                refine Zw_iload_5 dJ1_indexOfChar_4cfef_14 ?_
                refine Zw_baldv (i := 1) (x := 61) (by decide) dJ1_indexOfChar_4cfef_16 (by first | assumption | exact vp_in_nI (by omega) (by omega) | exact vp_in_nI (by simp; omega) (by decide) | (unfold vp_in; decide)) (by decide +kernel) ?_
                refine Zw_iload_4 dJ1_indexOfChar_4cfef_17 ?_
                refine Zw_icmp_ne 25 dJ1_indexOfChar_4cfef_19 (by decide) (fun c19_8 => ?_) (fun c19_8 => ?_)
                · refine Zw_iinc_5 (y := 8) dJ1_indexOfChar_4cfef_25 rfl (by decide) ?_
                  refine Zw_goto 7 dJ1_indexOfChar_4cfef_28 (by decide) ?_
                  refine Zw_iload_5 dJ1_indexOfChar_4cfef_7 ?_
                  refine Zw_iload_3 dJ1_indexOfChar_4cfef_9 ?_
                  refine Zw_icmp_ge 31 dJ1_indexOfChar_4cfef_10 (by decide) (fun _ => ?_) (fun c => absurd c (by decide))
                  refine Zw_iconst (v := (-1)) dJ1_indexOfChar_4cfef_31 (by decide) ?_
                  refine Zw_ireturn dJ1_indexOfChar_4cfef_32 (by first | rfl | assumption) ?_
                  unfold k_ix at h
                  have e0 := c19
                  have e1 := c19_2
                  have e2 := c19_3
                  have e3 := c19_4
                  have e4 := c19_5
                  have e5 := c19_6
                  have e6 := c19_7
                  have e7 := c19_8
                  rw [if_neg (fun q => e0 q.symm), if_neg (fun q => e1 q.symm), if_neg (fun q => e2 q.symm), if_neg (fun q => e3 q.symm), if_neg (fun q => e4 q.symm), if_neg (fun q => e5 q.symm), if_neg (fun q => e6 q.symm), if_neg (fun q => e7 q.symm)] at h
                  exact h
                · refine Zw_iload_5 dJ1_indexOfChar_4cfef_22 ?_
                  refine Zw_ireturn dJ1_indexOfChar_4cfef_24 (by first | rfl | assumption) ?_
                  unfold k_ix at h
                  have e0 := c19
                  have e1 := c19_2
                  have e2 := c19_3
                  have e3 := c19_4
                  have e4 := c19_5
                  have e5 := c19_6
                  have e6 := c19_7
                  have e7 := c19_8
                  rw [if_neg (fun q => e0 q.symm), if_neg (fun q => e1 q.symm), if_neg (fun q => e2 q.symm), if_neg (fun q => e3 q.symm), if_neg (fun q => e4 q.symm), if_neg (fun q => e5 q.symm), if_neg (fun q => e6 q.symm), if_pos e7.symm] at h
                  exact h
              · refine Zw_iload_5 dJ1_indexOfChar_4cfef_22 ?_
                refine Zw_ireturn dJ1_indexOfChar_4cfef_24 (by first | rfl | assumption) ?_
                unfold k_ix at h
                have e0 := c19
                have e1 := c19_2
                have e2 := c19_3
                have e3 := c19_4
                have e4 := c19_5
                have e5 := c19_6
                have e6 := c19_7
                rw [if_neg (fun q => e0 q.symm), if_neg (fun q => e1 q.symm), if_neg (fun q => e2 q.symm), if_neg (fun q => e3 q.symm), if_neg (fun q => e4 q.symm), if_neg (fun q => e5 q.symm), if_pos e6.symm] at h
                exact h
            · refine Zw_iload_5 dJ1_indexOfChar_4cfef_22 ?_
              refine Zw_ireturn dJ1_indexOfChar_4cfef_24 (by first | rfl | assumption) ?_
              unfold k_ix at h
              have e0 := c19
              have e1 := c19_2
              have e2 := c19_3
              have e3 := c19_4
              have e4 := c19_5
              have e5 := c19_6
              rw [if_neg (fun q => e0 q.symm), if_neg (fun q => e1 q.symm), if_neg (fun q => e2 q.symm), if_neg (fun q => e3 q.symm), if_neg (fun q => e4 q.symm), if_pos e5.symm] at h
              exact h
          · refine Zw_iload_5 dJ1_indexOfChar_4cfef_22 ?_
            refine Zw_ireturn dJ1_indexOfChar_4cfef_24 (by first | rfl | assumption) ?_
            unfold k_ix at h
            have e0 := c19
            have e1 := c19_2
            have e2 := c19_3
            have e3 := c19_4
            have e4 := c19_5
            rw [if_neg (fun q => e0 q.symm), if_neg (fun q => e1 q.symm), if_neg (fun q => e2 q.symm), if_neg (fun q => e3 q.symm), if_pos e4.symm] at h
            exact h
        · refine Zw_iload_5 dJ1_indexOfChar_4cfef_22 ?_
          refine Zw_ireturn dJ1_indexOfChar_4cfef_24 (by first | rfl | assumption) ?_
          unfold k_ix at h
          have e0 := c19
          have e1 := c19_2
          have e2 := c19_3
          have e3 := c19_4
          rw [if_neg (fun q => e0 q.symm), if_neg (fun q => e1 q.symm), if_neg (fun q => e2 q.symm), if_pos e3.symm] at h
          exact h
      · refine Zw_iload_5 dJ1_indexOfChar_4cfef_22 ?_
        refine Zw_ireturn dJ1_indexOfChar_4cfef_24 (by first | rfl | assumption) ?_
        unfold k_ix at h
        have e0 := c19
        have e1 := c19_2
        have e2 := c19_3
        rw [if_neg (fun q => e0 q.symm), if_neg (fun q => e1 q.symm), if_pos e2.symm] at h
        exact h
    · refine Zw_iload_5 dJ1_indexOfChar_4cfef_22 ?_
      refine Zw_ireturn dJ1_indexOfChar_4cfef_24 (by first | rfl | assumption) ?_
      unfold k_ix at h
      have e0 := c19
      have e1 := c19_2
      rw [if_neg (fun q => e0 q.symm), if_pos e1.symm] at h
      exact h
  · refine Zw_iload_5 dJ1_indexOfChar_4cfef_22 ?_
    refine Zw_ireturn dJ1_indexOfChar_4cfef_24 (by first | rfl | assumption) ?_
    unfold k_ix at h
    have e0 := c19
    rw [if_pos e0.symm] at h
    exact h
set_option maxRecDepth 20000 in
theorem s_io1 {x : Int32} {Q : zQ} {μ : zMu} {τ : Int64} (h0 : ¬ x < 0) (h1 : ¬ 255 < x) (h : Q (some (.int (k_ix x.toInt8.toInt32))) μ τ) : Zc 1 yJ1_indexOf_4cfef cJ1_indexOf_4cfef 4 (some .int) [.ref 87, .int x, .int 0, .int 8] μ τ Q := by
  refine Zc.mk 0 [.ref 87, .int x, .int 0, .int 8] rfl (by decide) (Nat.le_of_ble_eq_true rfl) ?_
  refine Zw_iload_1 dJ1_indexOf_4cfef_0 ?_
  refine Zw_S1 (k := 0) lm_J1_88 dJ1_indexOf_4cfef_1 (by decide) (Nat.le_of_ble_eq_true rfl) ?_
  refine s_canE h0 h1 ?_
  refine Zw_if_ne 9 dJ1_indexOf_4cfef_4 (by decide) (fun _ => ?_) (fun c => absurd c (by decide))
  refine Zw_iload_2 dJ1_indexOf_4cfef_9 ?_
  refine Zw_iconst (v := 0) dJ1_indexOf_4cfef_10 (by decide) ?_
  refine Zw_max lcm_J1_92 dJ1_indexOf_4cfef_11 (by decide) (Nat.le_of_ble_eq_true rfl) ?_
  rw [show (if (0 : Int32) < 0 then (0 : Int32) else 0) = 0 by decide]
  refine Zw_istore_2 dJ1_indexOf_4cfef_14 rfl ?_
  refine Zw_iload_3 dJ1_indexOf_4cfef_15 ?_
  refine Zw_aload_0 dJ1_indexOf_4cfef_16 ?_
  refine Zw_blen (i := 1) (by decide) dJ1_indexOf_4cfef_17 ?_
  refine Zw_min lcm_J1_38 dJ1_indexOf_4cfef_18 (by decide) (Nat.le_of_ble_eq_true rfl) ?_
  rw [show (if nI (zByl 1) < (8 : Int32) then nI (zByl 1) else (8 : Int32)) = 8 by decide]
  refine Zw_istore_3 dJ1_indexOf_4cfef_21 rfl ?_
  refine Zw_iload_2 dJ1_indexOf_4cfef_22 ?_
  refine Zw_iload_3 dJ1_indexOf_4cfef_23 ?_
  refine Zw_icmp_lt 29 dJ1_indexOf_4cfef_24 (by decide) (fun _ => ?_) (fun c => absurd c (by decide))
  refine Zw_aload_0 dJ1_indexOf_4cfef_29 ?_
  refine Zw_iload_1 dJ1_indexOf_4cfef_30 ?_
  refine Zw_iload_2 dJ1_indexOf_4cfef_31 ?_
  refine Zw_iload_3 dJ1_indexOf_4cfef_32 ?_
  refine Zw_S4 (k := 0) lm_J1_95 dJ1_indexOf_4cfef_33 (by decide) (Nat.le_of_ble_eq_true rfl) ?_
  refine s_ioc ?_
  refine Zw_ireturn dJ1_indexOf_4cfef_36 (by first | rfl | assumption) ?_
  exact h
set_option maxRecDepth 20000 in
theorem s_io2 {x : Int32} {Q : zQ} {μ : zMu} {τ : Int64} (h0 : ¬ x < 0) (h1 : ¬ 255 < x) (h : Q (some (.int (k_ix x.toInt8.toInt32))) μ τ) : Zc 6 yJ0_indexOf_7cf53 cJ0_indexOf_7cf53 3 (some .int) [.ref 85, .int x, .int 0] μ τ Q := by
  refine Zc.mk 0 [.ref 85, .int x, .int 0] rfl (by decide) (Nat.le_of_ble_eq_true rfl) ?_
  refine Zw_aload_0 dJ0_indexOf_7cf53_0 ?_
  refine Zw_VS0 (i := 1) (k := 0) (by decide) lm_J0_492 dJ0_indexOf_7cf53_1 (by decide) rfl (Nat.le_of_ble_eq_true rfl) ?_
  refine s_isLat1 ?_
  refine Zw_if_eq 23 dJ0_indexOf_7cf53_4 (by decide) (fun c => absurd c (by decide)) (fun _ => ?_)
  refine Zw_aload_0 dJ0_indexOf_7cf53_7 ?_
  refine Zw_sval (i := 1) (by decide) dJ0_indexOf_7cf53_8 ?_
  refine Zw_iload_1 dJ0_indexOf_7cf53_11 ?_
  refine Zw_iload_2 dJ0_indexOf_7cf53_12 ?_
  refine Zw_aload_0 dJ0_indexOf_7cf53_13 ?_
  refine Zw_VS0 (i := 1) (k := 1) (by decide) lm_J0_505 dJ0_indexOf_7cf53_14 (by decide) rfl (Nat.le_of_ble_eq_true rfl) ?_
  refine s_slen1 ?_
  refine Zw_S4 (k := 1) lm_J0_637 dJ0_indexOf_7cf53_17 (by decide) (Nat.le_of_ble_eq_true rfl) ?_
  refine s_io1 h0 h1 ?_
  refine Zw_goto 36 dJ0_indexOf_7cf53_20 (by decide) ?_
  refine Zw_ireturn dJ0_indexOf_7cf53_36 (by first | rfl | assumption) ?_
  exact h
set_option maxRecDepth 20000 in
theorem s_indexOf {x : Int32} {Q : zQ} {μ : zMu} {τ : Int64} (h0 : ¬ x < 0) (h1 : ¬ 255 < x) (h : Q (some (.int (k_ix x.toInt8.toInt32))) μ τ) : Zc 7 yJ0_indexOf_0f7a4 cJ0_indexOf_0f7a4 2 (some .int) [.ref 85, .int x] μ τ Q := by
  refine Zc.mk 0 [.ref 85, .int x] rfl (by decide) (Nat.le_of_ble_eq_true rfl) ?_
  refine Zw_aload_0 dJ0_indexOf_0f7a4_0 ?_
  refine Zw_iload_1 dJ0_indexOf_0f7a4_1 ?_
  refine Zw_iconst (v := 0) dJ0_indexOf_0f7a4_2 (by decide) ?_
  refine Zw_VS2 (i := 1) (k := 6) (by decide) lm_J0_633 dJ0_indexOf_0f7a4_3 (by decide) rfl (Nat.le_of_ble_eq_true rfl) ?_
  refine s_io2 h0 h1 ?_
  refine Zw_ireturn dJ0_indexOf_0f7a4_6 (by first | rfl | assumption) ?_
  exact h
