theorem or_m (x y : Int32) : (x &&& (y ^^^ (-1))) ||| y = x ||| y := by
  apply Int32.toBitVec_inj.mp
  simp only [Int32.toBitVec_and, Int32.toBitVec_or, Int32.toBitVec_xor]
  apply BitVec.eq_of_getLsbD_eq
  intro i hi
  have h1 : (-1 : Int32).toBitVec = BitVec.allOnes 32 := by decide
  simp only [BitVec.getLsbD_and, BitVec.getLsbD_or, BitVec.getLsbD_xor, h1, BitVec.getLsbD_allOnes]
  simp only [hi, decide_true]
  cases x.toBitVec.getLsbD i <;> cases y.toBitVec.getLsbD i <;> rfl
set_option maxRecDepth 20000 in
theorem s_isOf0 {v : Int32} {Q : zQ} {μ : zMu} {τ : Int64} (h : Q (some (.int 1)) μ τ) : Zc 2 yX11_isOf cX11_isOf 3 (some .boolean) [.ref 61, .int 0, .int v] μ τ Q := by
  refine Zc.mk 0 [.ref 61, .int 0, .int v] rfl (by decide) (Nat.le_of_ble_eq_true rfl) ?_
  refine Zw_iload_1 dX11_isOf_0 ?_
  refine Zw_iconst (v := 4) dX11_isOf_1 (by decide) ?_
  refine Zw_icmp_lt 29 dX11_isOf_2 (by decide) (fun _ => ?_) (fun c => absurd c (by decide))
  refine Zw_iconst (v := 1) dX11_isOf_29 (by decide) ?_
  refine Zw_goto 34 dX11_isOf_30 (by decide) ?_
  refine Zw_ireturn dX11_isOf_34 (by first | rfl | assumption) ?_
  exact h
set_option maxRecDepth 20000 in
theorem s_isOf1 {v : Int32} {Q : zQ} {μ : zMu} {τ : Int64} (h : Q (some (.int 1)) μ τ) : Zc 2 yX11_isOf cX11_isOf 3 (some .boolean) [.ref 61, .int 1, .int v] μ τ Q := by
  refine Zc.mk 0 [.ref 61, .int 1, .int v] rfl (by decide) (Nat.le_of_ble_eq_true rfl) ?_
  refine Zw_iload_1 dX11_isOf_0 ?_
  refine Zw_iconst (v := 4) dX11_isOf_1 (by decide) ?_
  refine Zw_icmp_lt 29 dX11_isOf_2 (by decide) (fun _ => ?_) (fun c => absurd c (by decide))
  refine Zw_iconst (v := 1) dX11_isOf_29 (by decide) ?_
  refine Zw_goto 34 dX11_isOf_30 (by decide) ?_
  refine Zw_ireturn dX11_isOf_34 (by first | rfl | assumption) ?_
  exact h
set_option maxRecDepth 20000 in
theorem s_isOf2 {v : Int32} {Q : zQ} {μ : zMu} {τ : Int64} (h : Q (some (.int 1)) μ τ) : Zc 2 yX11_isOf cX11_isOf 3 (some .boolean) [.ref 61, .int 2, .int v] μ τ Q := by
  refine Zc.mk 0 [.ref 61, .int 2, .int v] rfl (by decide) (Nat.le_of_ble_eq_true rfl) ?_
  refine Zw_iload_1 dX11_isOf_0 ?_
  refine Zw_iconst (v := 4) dX11_isOf_1 (by decide) ?_
  refine Zw_icmp_lt 29 dX11_isOf_2 (by decide) (fun _ => ?_) (fun c => absurd c (by decide))
  refine Zw_iconst (v := 1) dX11_isOf_29 (by decide) ?_
  refine Zw_goto 34 dX11_isOf_30 (by decide) ?_
  refine Zw_ireturn dX11_isOf_34 (by first | rfl | assumption) ?_
  exact h
set_option maxRecDepth 20000 in
theorem s_isOf3 {v : Int32} {Q : zQ} {μ : zMu} {τ : Int64} (h : Q (some (.int 1)) μ τ) : Zc 2 yX11_isOf cX11_isOf 3 (some .boolean) [.ref 61, .int 3, .int v] μ τ Q := by
  refine Zc.mk 0 [.ref 61, .int 3, .int v] rfl (by decide) (Nat.le_of_ble_eq_true rfl) ?_
  refine Zw_iload_1 dX11_isOf_0 ?_
  refine Zw_iconst (v := 4) dX11_isOf_1 (by decide) ?_
  refine Zw_icmp_lt 29 dX11_isOf_2 (by decide) (fun _ => ?_) (fun c => absurd c (by decide))
  refine Zw_iconst (v := 1) dX11_isOf_29 (by decide) ?_
  refine Zw_goto 34 dX11_isOf_30 (by decide) ?_
  refine Zw_ireturn dX11_isOf_34 (by first | rfl | assumption) ?_
  exact h
set_option maxRecDepth 20000 in
theorem s_isOf4 {v : Int32} {Q : zQ} {μ : zMu} {τ : Int64} (n : Nat) (hn5 : n ≤ 5) (hn : μ 61 11 = nI n) (h1 : vp_in v n → Q (some (.int 1)) μ τ) (h0 : ¬ vp_in v n → Q (some (.int 0)) μ τ) : Zc 2 yX11_isOf cX11_isOf 3 (some .boolean) [.ref 61, .int 4, .int v] μ τ Q := by
  refine Zc.mk 0 [.ref 61, .int 4, .int v] rfl (by decide) (Nat.le_of_ble_eq_true rfl) ?_
  refine Zw_iload_1 dX11_isOf_0 ?_
  refine Zw_iconst (v := 4) dX11_isOf_1 (by decide) ?_
  refine Zw_icmp_lt 29 dX11_isOf_2 (by decide) (fun c => absurd c (by decide)) (fun _ => ?_)
  refine Zw_iload_1 dX11_isOf_5 ?_
  refine Zw_bipush (v := 8) dX11_isOf_6 (by decide) ?_
  refine Zw_icmp_le 21 dX11_isOf_8 (by decide) (fun _ => ?_) (fun c => absurd c (by decide))
  refine Zw_aload_0 dX11_isOf_21 ?_
  refine Zw_iload_2 dX11_isOf_22 ?_
  refine Zw_V1 (k := 1) lm_X11_86 dX11_isOf_23 (by decide) (by first | decide | assumption | omega) (by first | rfl | assumption) (by rfl) (Nat.le_of_ble_eq_true rfl) ?_
  refine s_isOne n hn5 hn (fun a1 => ?_) (fun a1 => ?_)
  · refine Zw_if_eq 33 dX11_isOf_26 (by decide) (fun c => absurd c (by decide)) (fun _ => ?_)
    refine Zw_iconst (v := 1) dX11_isOf_29 (by decide) ?_
    refine Zw_goto 34 dX11_isOf_30 (by decide) ?_
    refine Zw_ireturn dX11_isOf_34 (by first | rfl | assumption) ?_
    exact h1 a1
  · refine Zw_if_eq 33 dX11_isOf_26 (by decide) (fun _ => ?_) (fun c => absurd c (by decide))
    refine Zw_iconst (v := 0) dX11_isOf_33 (by decide) ?_
    refine Zw_ireturn dX11_isOf_34 (by first | rfl | assumption) ?_
    exact h0 a1
set_option maxRecDepth 20000 in
theorem s_isOf5 {v : Int32} {Q : zQ} {μ : zMu} {τ : Int64} (n : Nat) (hn5 : n ≤ 5) (hn : μ 61 11 = nI n) (h1 : vp_in v n → Q (some (.int 1)) μ τ) (h0 : ¬ vp_in v n → Q (some (.int 0)) μ τ) : Zc 2 yX11_isOf cX11_isOf 3 (some .boolean) [.ref 61, .int 5, .int v] μ τ Q := by
  refine Zc.mk 0 [.ref 61, .int 5, .int v] rfl (by decide) (Nat.le_of_ble_eq_true rfl) ?_
  refine Zw_iload_1 dX11_isOf_0 ?_
  refine Zw_iconst (v := 4) dX11_isOf_1 (by decide) ?_
  refine Zw_icmp_lt 29 dX11_isOf_2 (by decide) (fun c => absurd c (by decide)) (fun _ => ?_)
  refine Zw_iload_1 dX11_isOf_5 ?_
  refine Zw_bipush (v := 8) dX11_isOf_6 (by decide) ?_
  refine Zw_icmp_le 21 dX11_isOf_8 (by decide) (fun _ => ?_) (fun c => absurd c (by decide))
  refine Zw_aload_0 dX11_isOf_21 ?_
  refine Zw_iload_2 dX11_isOf_22 ?_
  refine Zw_V1 (k := 1) lm_X11_86 dX11_isOf_23 (by decide) (by first | decide | assumption | omega) (by first | rfl | assumption) (by rfl) (Nat.le_of_ble_eq_true rfl) ?_
  refine s_isOne n hn5 hn (fun a1 => ?_) (fun a1 => ?_)
  · refine Zw_if_eq 33 dX11_isOf_26 (by decide) (fun c => absurd c (by decide)) (fun _ => ?_)
    refine Zw_iconst (v := 1) dX11_isOf_29 (by decide) ?_
    refine Zw_goto 34 dX11_isOf_30 (by decide) ?_
    refine Zw_ireturn dX11_isOf_34 (by first | rfl | assumption) ?_
    exact h1 a1
  · refine Zw_if_eq 33 dX11_isOf_26 (by decide) (fun _ => ?_) (fun c => absurd c (by decide))
    refine Zw_iconst (v := 0) dX11_isOf_33 (by decide) ?_
    refine Zw_ireturn dX11_isOf_34 (by first | rfl | assumption) ?_
    exact h0 a1
set_option maxRecDepth 20000 in
theorem s_isOf6 {v : Int32} {Q : zQ} {μ : zMu} {τ : Int64} (n : Nat) (hn5 : n ≤ 5) (hn : μ 61 11 = nI n) (h1 : vp_in v n → Q (some (.int 1)) μ τ) (h0 : ¬ vp_in v n → Q (some (.int 0)) μ τ) : Zc 2 yX11_isOf cX11_isOf 3 (some .boolean) [.ref 61, .int 6, .int v] μ τ Q := by
  refine Zc.mk 0 [.ref 61, .int 6, .int v] rfl (by decide) (Nat.le_of_ble_eq_true rfl) ?_
  refine Zw_iload_1 dX11_isOf_0 ?_
  refine Zw_iconst (v := 4) dX11_isOf_1 (by decide) ?_
  refine Zw_icmp_lt 29 dX11_isOf_2 (by decide) (fun c => absurd c (by decide)) (fun _ => ?_)
  refine Zw_iload_1 dX11_isOf_5 ?_
  refine Zw_bipush (v := 8) dX11_isOf_6 (by decide) ?_
  refine Zw_icmp_le 21 dX11_isOf_8 (by decide) (fun _ => ?_) (fun c => absurd c (by decide))
  refine Zw_aload_0 dX11_isOf_21 ?_
  refine Zw_iload_2 dX11_isOf_22 ?_
  refine Zw_V1 (k := 1) lm_X11_86 dX11_isOf_23 (by decide) (by first | decide | assumption | omega) (by first | rfl | assumption) (by rfl) (Nat.le_of_ble_eq_true rfl) ?_
  refine s_isOne n hn5 hn (fun a1 => ?_) (fun a1 => ?_)
  · refine Zw_if_eq 33 dX11_isOf_26 (by decide) (fun c => absurd c (by decide)) (fun _ => ?_)
    refine Zw_iconst (v := 1) dX11_isOf_29 (by decide) ?_
    refine Zw_goto 34 dX11_isOf_30 (by decide) ?_
    refine Zw_ireturn dX11_isOf_34 (by first | rfl | assumption) ?_
    exact h1 a1
  · refine Zw_if_eq 33 dX11_isOf_26 (by decide) (fun _ => ?_) (fun c => absurd c (by decide))
    refine Zw_iconst (v := 0) dX11_isOf_33 (by decide) ?_
    refine Zw_ireturn dX11_isOf_34 (by first | rfl | assumption) ?_
    exact h0 a1
set_option maxRecDepth 20000 in
theorem s_isOf7 {v : Int32} {Q : zQ} {μ : zMu} {τ : Int64} (n : Nat) (hn5 : n ≤ 5) (hn : μ 61 11 = nI n) (h1 : vp_in v n → Q (some (.int 1)) μ τ) (h0 : ¬ vp_in v n → Q (some (.int 0)) μ τ) : Zc 2 yX11_isOf cX11_isOf 3 (some .boolean) [.ref 61, .int 7, .int v] μ τ Q := by
  refine Zc.mk 0 [.ref 61, .int 7, .int v] rfl (by decide) (Nat.le_of_ble_eq_true rfl) ?_
  refine Zw_iload_1 dX11_isOf_0 ?_
  refine Zw_iconst (v := 4) dX11_isOf_1 (by decide) ?_
  refine Zw_icmp_lt 29 dX11_isOf_2 (by decide) (fun c => absurd c (by decide)) (fun _ => ?_)
  refine Zw_iload_1 dX11_isOf_5 ?_
  refine Zw_bipush (v := 8) dX11_isOf_6 (by decide) ?_
  refine Zw_icmp_le 21 dX11_isOf_8 (by decide) (fun _ => ?_) (fun c => absurd c (by decide))
  refine Zw_aload_0 dX11_isOf_21 ?_
  refine Zw_iload_2 dX11_isOf_22 ?_
  refine Zw_V1 (k := 1) lm_X11_86 dX11_isOf_23 (by decide) (by first | decide | assumption | omega) (by first | rfl | assumption) (by rfl) (Nat.le_of_ble_eq_true rfl) ?_
  refine s_isOne n hn5 hn (fun a1 => ?_) (fun a1 => ?_)
  · refine Zw_if_eq 33 dX11_isOf_26 (by decide) (fun c => absurd c (by decide)) (fun _ => ?_)
    refine Zw_iconst (v := 1) dX11_isOf_29 (by decide) ?_
    refine Zw_goto 34 dX11_isOf_30 (by decide) ?_
    refine Zw_ireturn dX11_isOf_34 (by first | rfl | assumption) ?_
    exact h1 a1
  · refine Zw_if_eq 33 dX11_isOf_26 (by decide) (fun _ => ?_) (fun c => absurd c (by decide))
    refine Zw_iconst (v := 0) dX11_isOf_33 (by decide) ?_
    refine Zw_ireturn dX11_isOf_34 (by first | rfl | assumption) ?_
    exact h0 a1
set_option maxRecDepth 20000 in
theorem s_isOf8 {v : Int32} {Q : zQ} {μ : zMu} {τ : Int64} (n : Nat) (hn5 : n ≤ 5) (hn : μ 61 11 = nI n) (h1 : vp_in v n → Q (some (.int 1)) μ τ) (h0 : ¬ vp_in v n → Q (some (.int 0)) μ τ) : Zc 2 yX11_isOf cX11_isOf 3 (some .boolean) [.ref 61, .int 8, .int v] μ τ Q := by
  refine Zc.mk 0 [.ref 61, .int 8, .int v] rfl (by decide) (Nat.le_of_ble_eq_true rfl) ?_
  refine Zw_iload_1 dX11_isOf_0 ?_
  refine Zw_iconst (v := 4) dX11_isOf_1 (by decide) ?_
  refine Zw_icmp_lt 29 dX11_isOf_2 (by decide) (fun c => absurd c (by decide)) (fun _ => ?_)
  refine Zw_iload_1 dX11_isOf_5 ?_
  refine Zw_bipush (v := 8) dX11_isOf_6 (by decide) ?_
  refine Zw_icmp_le 21 dX11_isOf_8 (by decide) (fun _ => ?_) (fun c => absurd c (by decide))
  refine Zw_aload_0 dX11_isOf_21 ?_
  refine Zw_iload_2 dX11_isOf_22 ?_
  refine Zw_V1 (k := 1) lm_X11_86 dX11_isOf_23 (by decide) (by first | decide | assumption | omega) (by first | rfl | assumption) (by rfl) (Nat.le_of_ble_eq_true rfl) ?_
  refine s_isOne n hn5 hn (fun a1 => ?_) (fun a1 => ?_)
  · refine Zw_if_eq 33 dX11_isOf_26 (by decide) (fun c => absurd c (by decide)) (fun _ => ?_)
    refine Zw_iconst (v := 1) dX11_isOf_29 (by decide) ?_
    refine Zw_goto 34 dX11_isOf_30 (by decide) ?_
    refine Zw_ireturn dX11_isOf_34 (by first | rfl | assumption) ?_
    exact h1 a1
  · refine Zw_if_eq 33 dX11_isOf_26 (by decide) (fun _ => ?_) (fun c => absurd c (by decide))
    refine Zw_iconst (v := 0) dX11_isOf_33 (by decide) ?_
    refine Zw_ireturn dX11_isOf_34 (by first | rfl | assumption) ?_
    exact h0 a1
set_option maxRecDepth 20000 in
theorem s_isOf9 {v : Int32} {Q : zQ} {μ : zMu} {τ : Int64} (h1 : vp_in v 8 → Q (some (.int 1)) μ τ) (h0 : ¬ vp_in v 8 → Q (some (.int 0)) μ τ) : Zc 2 yX11_isOf cX11_isOf 3 (some .boolean) [.ref 61, .int 9, .int v] μ τ Q := by
  refine Zc.mk 0 [.ref 61, .int 9, .int v] rfl (by decide) (Nat.le_of_ble_eq_true rfl) ?_
  refine Zw_iload_1 dX11_isOf_0 ?_
  refine Zw_iconst (v := 4) dX11_isOf_1 (by decide) ?_
  refine Zw_icmp_lt 29 dX11_isOf_2 (by decide) (fun c => absurd c (by decide)) (fun _ => ?_)
  refine Zw_iload_1 dX11_isOf_5 ?_
  refine Zw_bipush (v := 8) dX11_isOf_6 (by decide) ?_
  refine Zw_icmp_le 21 dX11_isOf_8 (by decide) (fun c => absurd c (by decide)) (fun _ => ?_)
  refine Zw_iload_2 dX11_isOf_11 ?_
  refine Zw_S1 (k := 1) lm_X11_82 dX11_isOf_12 (by decide) (Nat.le_of_ble_eq_true rfl) ?_
  refine s_isPlace (fun a1 => ?_) (fun a1 => ?_)
  · refine Zw_if_eq 33 dX11_isOf_15 (by decide) (fun c => absurd c (by decide)) (fun _ => ?_)
    refine Zw_goto 29 dX11_isOf_18 (by decide) ?_
    refine Zw_iconst (v := 1) dX11_isOf_29 (by decide) ?_
    refine Zw_goto 34 dX11_isOf_30 (by decide) ?_
    refine Zw_ireturn dX11_isOf_34 (by first | rfl | assumption) ?_
    exact h1 a1
  · refine Zw_if_eq 33 dX11_isOf_15 (by decide) (fun _ => ?_) (fun c => absurd c (by decide))
    refine Zw_iconst (v := 0) dX11_isOf_33 (by decide) ?_
    refine Zw_ireturn dX11_isOf_34 (by first | rfl | assumption) ?_
    exact h0 a1
set_option maxRecDepth 20000 in
theorem s_isOf10 {v : Int32} {Q : zQ} {μ : zMu} {τ : Int64} (h1 : vp_in v 8 → Q (some (.int 1)) μ τ) (h0 : ¬ vp_in v 8 → Q (some (.int 0)) μ τ) : Zc 2 yX11_isOf cX11_isOf 3 (some .boolean) [.ref 61, .int 10, .int v] μ τ Q := by
  refine Zc.mk 0 [.ref 61, .int 10, .int v] rfl (by decide) (Nat.le_of_ble_eq_true rfl) ?_
  refine Zw_iload_1 dX11_isOf_0 ?_
  refine Zw_iconst (v := 4) dX11_isOf_1 (by decide) ?_
  refine Zw_icmp_lt 29 dX11_isOf_2 (by decide) (fun c => absurd c (by decide)) (fun _ => ?_)
  refine Zw_iload_1 dX11_isOf_5 ?_
  refine Zw_bipush (v := 8) dX11_isOf_6 (by decide) ?_
  refine Zw_icmp_le 21 dX11_isOf_8 (by decide) (fun c => absurd c (by decide)) (fun _ => ?_)
  refine Zw_iload_2 dX11_isOf_11 ?_
  refine Zw_S1 (k := 1) lm_X11_82 dX11_isOf_12 (by decide) (Nat.le_of_ble_eq_true rfl) ?_
  refine s_isPlace (fun a1 => ?_) (fun a1 => ?_)
  · refine Zw_if_eq 33 dX11_isOf_15 (by decide) (fun c => absurd c (by decide)) (fun _ => ?_)
    refine Zw_goto 29 dX11_isOf_18 (by decide) ?_
    refine Zw_iconst (v := 1) dX11_isOf_29 (by decide) ?_
    refine Zw_goto 34 dX11_isOf_30 (by decide) ?_
    refine Zw_ireturn dX11_isOf_34 (by first | rfl | assumption) ?_
    exact h1 a1
  · refine Zw_if_eq 33 dX11_isOf_15 (by decide) (fun _ => ?_) (fun c => absurd c (by decide))
    refine Zw_iconst (v := 0) dX11_isOf_33 (by decide) ?_
    refine Zw_ireturn dX11_isOf_34 (by first | rfl | assumption) ?_
    exact h0 a1
set_option maxRecDepth 20000 in
theorem s_mostOf0 {Q : zQ} {μ : zMu} {τ : Int64} (h : Q (some (.int 999)) μ τ) : Zc 0 yX11_mostOf cX11_mostOf 1 (some .int) [.int 0] μ τ Q := by
  refine Zc.mk 0 [.int 0] rfl (by decide) (Nat.le_of_ble_eq_true rfl) ?_
  refine Zw_iload_0 dX11_mostOf_0 ?_
  refine Zw_if_ne 10 dX11_mostOf_1 (by decide) (fun c => absurd c (by decide)) (fun _ => ?_)
  refine Zw_sipush (v := 999) dX11_mostOf_4 (by decide) ?_
  refine Zw_goto 38 dX11_mostOf_7 (by decide) ?_
  refine Zw_ireturn dX11_mostOf_38 (by first | rfl | assumption) ?_
  exact h
set_option maxRecDepth 20000 in
theorem s_mostOf1 {Q : zQ} {μ : zMu} {τ : Int64} (h : Q (some (.int 9)) μ τ) : Zc 0 yX11_mostOf cX11_mostOf 1 (some .int) [.int 1] μ τ Q := by
  refine Zc.mk 0 [.int 1] rfl (by decide) (Nat.le_of_ble_eq_true rfl) ?_
  refine Zw_iload_0 dX11_mostOf_0 ?_
  refine Zw_if_ne 10 dX11_mostOf_1 (by decide) (fun _ => ?_) (fun c => absurd c (by decide))
  refine Zw_iload_0 dX11_mostOf_10 ?_
  refine Zw_iconst (v := 3) dX11_mostOf_11 (by decide) ?_
  refine Zw_icmp_ne 21 dX11_mostOf_12 (by decide) (fun _ => ?_) (fun c => absurd c (by decide))
  refine Zw_iload_0 dX11_mostOf_21 ?_
  refine Zw_iconst (v := 2) dX11_mostOf_22 (by decide) ?_
  refine Zw_icmp_eq 31 dX11_mostOf_23 (by decide) (fun c => absurd c (by decide)) (fun _ => ?_)
  refine Zw_iload_0 dX11_mostOf_26 ?_
  refine Zw_iconst (v := 5) dX11_mostOf_27 (by decide) ?_
  refine Zw_icmp_ne 36 dX11_mostOf_28 (by decide) (fun _ => ?_) (fun c => absurd c (by decide))
  refine Zw_bipush (v := 9) dX11_mostOf_36 (by decide) ?_
  refine Zw_ireturn dX11_mostOf_38 (by first | rfl | assumption) ?_
  exact h
set_option maxRecDepth 20000 in
theorem s_mostOf2 {Q : zQ} {μ : zMu} {τ : Int64} (h : Q (some (.int 7)) μ τ) : Zc 0 yX11_mostOf cX11_mostOf 1 (some .int) [.int 2] μ τ Q := by
  refine Zc.mk 0 [.int 2] rfl (by decide) (Nat.le_of_ble_eq_true rfl) ?_
  refine Zw_iload_0 dX11_mostOf_0 ?_
  refine Zw_if_ne 10 dX11_mostOf_1 (by decide) (fun _ => ?_) (fun c => absurd c (by decide))
  refine Zw_iload_0 dX11_mostOf_10 ?_
  refine Zw_iconst (v := 3) dX11_mostOf_11 (by decide) ?_
  refine Zw_icmp_ne 21 dX11_mostOf_12 (by decide) (fun _ => ?_) (fun c => absurd c (by decide))
  refine Zw_iload_0 dX11_mostOf_21 ?_
  refine Zw_iconst (v := 2) dX11_mostOf_22 (by decide) ?_
  refine Zw_icmp_eq 31 dX11_mostOf_23 (by decide) (fun _ => ?_) (fun c => absurd c (by decide))
  refine Zw_bipush (v := 7) dX11_mostOf_31 (by decide) ?_
  refine Zw_goto 38 dX11_mostOf_33 (by decide) ?_
  refine Zw_ireturn dX11_mostOf_38 (by first | rfl | assumption) ?_
  exact h
set_option maxRecDepth 20000 in
theorem s_mostOf3 {Q : zQ} {μ : zMu} {τ : Int64} (h : Q (some (.int 255)) μ τ) : Zc 0 yX11_mostOf cX11_mostOf 1 (some .int) [.int 3] μ τ Q := by
  refine Zc.mk 0 [.int 3] rfl (by decide) (Nat.le_of_ble_eq_true rfl) ?_
  refine Zw_iload_0 dX11_mostOf_0 ?_
  refine Zw_if_ne 10 dX11_mostOf_1 (by decide) (fun _ => ?_) (fun c => absurd c (by decide))
  refine Zw_iload_0 dX11_mostOf_10 ?_
  refine Zw_iconst (v := 3) dX11_mostOf_11 (by decide) ?_
  refine Zw_icmp_ne 21 dX11_mostOf_12 (by decide) (fun c => absurd c (by decide)) (fun _ => ?_)
  refine Zw_sipush (v := 255) dX11_mostOf_15 (by decide) ?_
  refine Zw_goto 38 dX11_mostOf_18 (by decide) ?_
  refine Zw_ireturn dX11_mostOf_38 (by first | rfl | assumption) ?_
  exact h
set_option maxRecDepth 20000 in
theorem s_mostOf4 {Q : zQ} {μ : zMu} {τ : Int64} (h : Q (some (.int 9)) μ τ) : Zc 0 yX11_mostOf cX11_mostOf 1 (some .int) [.int 4] μ τ Q := by
  refine Zc.mk 0 [.int 4] rfl (by decide) (Nat.le_of_ble_eq_true rfl) ?_
  refine Zw_iload_0 dX11_mostOf_0 ?_
  refine Zw_if_ne 10 dX11_mostOf_1 (by decide) (fun _ => ?_) (fun c => absurd c (by decide))
  refine Zw_iload_0 dX11_mostOf_10 ?_
  refine Zw_iconst (v := 3) dX11_mostOf_11 (by decide) ?_
  refine Zw_icmp_ne 21 dX11_mostOf_12 (by decide) (fun _ => ?_) (fun c => absurd c (by decide))
  refine Zw_iload_0 dX11_mostOf_21 ?_
  refine Zw_iconst (v := 2) dX11_mostOf_22 (by decide) ?_
  refine Zw_icmp_eq 31 dX11_mostOf_23 (by decide) (fun c => absurd c (by decide)) (fun _ => ?_)
  refine Zw_iload_0 dX11_mostOf_26 ?_
  refine Zw_iconst (v := 5) dX11_mostOf_27 (by decide) ?_
  refine Zw_icmp_ne 36 dX11_mostOf_28 (by decide) (fun _ => ?_) (fun c => absurd c (by decide))
  refine Zw_bipush (v := 9) dX11_mostOf_36 (by decide) ?_
  refine Zw_ireturn dX11_mostOf_38 (by first | rfl | assumption) ?_
  exact h
set_option maxRecDepth 20000 in
theorem s_mostOf5 {Q : zQ} {μ : zMu} {τ : Int64} (h : Q (some (.int 7)) μ τ) : Zc 0 yX11_mostOf cX11_mostOf 1 (some .int) [.int 5] μ τ Q := by
  refine Zc.mk 0 [.int 5] rfl (by decide) (Nat.le_of_ble_eq_true rfl) ?_
  refine Zw_iload_0 dX11_mostOf_0 ?_
  refine Zw_if_ne 10 dX11_mostOf_1 (by decide) (fun _ => ?_) (fun c => absurd c (by decide))
  refine Zw_iload_0 dX11_mostOf_10 ?_
  refine Zw_iconst (v := 3) dX11_mostOf_11 (by decide) ?_
  refine Zw_icmp_ne 21 dX11_mostOf_12 (by decide) (fun _ => ?_) (fun c => absurd c (by decide))
  refine Zw_iload_0 dX11_mostOf_21 ?_
  refine Zw_iconst (v := 2) dX11_mostOf_22 (by decide) ?_
  refine Zw_icmp_eq 31 dX11_mostOf_23 (by decide) (fun c => absurd c (by decide)) (fun _ => ?_)
  refine Zw_iload_0 dX11_mostOf_26 ?_
  refine Zw_iconst (v := 5) dX11_mostOf_27 (by decide) ?_
  refine Zw_icmp_ne 36 dX11_mostOf_28 (by decide) (fun c => absurd c (by decide)) (fun _ => ?_)
  refine Zw_bipush (v := 7) dX11_mostOf_31 (by decide) ?_
  refine Zw_goto 38 dX11_mostOf_33 (by decide) ?_
  refine Zw_ireturn dX11_mostOf_38 (by first | rfl | assumption) ?_
  exact h
set_option maxRecDepth 20000 in
theorem s_lays0 {of v : Int32} {Q : zQ} {μ : zMu} {τ : Int64} (h : Q none (zup μ 65 0 v) τ) : Zc 0 yX11_lays cX11_lays 4 none [.ref 61, .int 0, .int of, .int v] μ τ Q := by
  refine Zc.mk 0 [.ref 61, .int 0, .int of, .int v] rfl (by decide) (Nat.le_of_ble_eq_true rfl) ?_
  refine Zw_iload_1 dX11_lays_0 ?_
  refine Zw_iconst (v := 4) dX11_lays_1 (by decide) ?_
  refine Zw_icmp_ge 15 dX11_lays_2 (by decide) (fun c => absurd c (by decide)) (fun _ => ?_)
  refine Zw_aload_0 dX11_lays_5 ?_
  refine Zw_getr 65 lf_X11_23 dX11_lays_6 (by first | decide | assumption | omega) (by first | rfl | assumption) (by rfl) ?_
  refine Zw_iload_1 dX11_lays_9 ?_
  refine Zw_iload_3 dX11_lays_10 ?_
  refine Zw_iastn (0) dX11_lays_11 (by first | decide | assumption | omega) (by first | rfl | assumption) rfl (by omega) (by decide) ?_
  refine Zw_goto 58 dX11_lays_12 (by decide) ?_
  refine Zw_return dX11_lays_58 ?_
  exact h
set_option maxRecDepth 20000 in
theorem s_lays1 {of v : Int32} {Q : zQ} {μ : zMu} {τ : Int64} (h : Q none (zup μ 65 1 v) τ) : Zc 0 yX11_lays cX11_lays 4 none [.ref 61, .int 1, .int of, .int v] μ τ Q := by
  refine Zc.mk 0 [.ref 61, .int 1, .int of, .int v] rfl (by decide) (Nat.le_of_ble_eq_true rfl) ?_
  refine Zw_iload_1 dX11_lays_0 ?_
  refine Zw_iconst (v := 4) dX11_lays_1 (by decide) ?_
  refine Zw_icmp_ge 15 dX11_lays_2 (by decide) (fun c => absurd c (by decide)) (fun _ => ?_)
  refine Zw_aload_0 dX11_lays_5 ?_
  refine Zw_getr 65 lf_X11_23 dX11_lays_6 (by first | decide | assumption | omega) (by first | rfl | assumption) (by rfl) ?_
  refine Zw_iload_1 dX11_lays_9 ?_
  refine Zw_iload_3 dX11_lays_10 ?_
  refine Zw_iastn (1) dX11_lays_11 (by first | decide | assumption | omega) (by first | rfl | assumption) rfl (by omega) (by decide) ?_
  refine Zw_goto 58 dX11_lays_12 (by decide) ?_
  refine Zw_return dX11_lays_58 ?_
  exact h
set_option maxRecDepth 20000 in
theorem s_lays2 {of v : Int32} {Q : zQ} {μ : zMu} {τ : Int64} (h : Q none (zup μ 65 2 v) τ) : Zc 0 yX11_lays cX11_lays 4 none [.ref 61, .int 2, .int of, .int v] μ τ Q := by
  refine Zc.mk 0 [.ref 61, .int 2, .int of, .int v] rfl (by decide) (Nat.le_of_ble_eq_true rfl) ?_
  refine Zw_iload_1 dX11_lays_0 ?_
  refine Zw_iconst (v := 4) dX11_lays_1 (by decide) ?_
  refine Zw_icmp_ge 15 dX11_lays_2 (by decide) (fun c => absurd c (by decide)) (fun _ => ?_)
  refine Zw_aload_0 dX11_lays_5 ?_
  refine Zw_getr 65 lf_X11_23 dX11_lays_6 (by first | decide | assumption | omega) (by first | rfl | assumption) (by rfl) ?_
  refine Zw_iload_1 dX11_lays_9 ?_
  refine Zw_iload_3 dX11_lays_10 ?_
  refine Zw_iastn (2) dX11_lays_11 (by first | decide | assumption | omega) (by first | rfl | assumption) rfl (by omega) (by decide) ?_
  refine Zw_goto 58 dX11_lays_12 (by decide) ?_
  refine Zw_return dX11_lays_58 ?_
  exact h
set_option maxRecDepth 20000 in
theorem s_lays3 {of v : Int32} {Q : zQ} {μ : zMu} {τ : Int64} (h : Q none (zup μ 65 3 v) τ) : Zc 0 yX11_lays cX11_lays 4 none [.ref 61, .int 3, .int of, .int v] μ τ Q := by
  refine Zc.mk 0 [.ref 61, .int 3, .int of, .int v] rfl (by decide) (Nat.le_of_ble_eq_true rfl) ?_
  refine Zw_iload_1 dX11_lays_0 ?_
  refine Zw_iconst (v := 4) dX11_lays_1 (by decide) ?_
  refine Zw_icmp_ge 15 dX11_lays_2 (by decide) (fun c => absurd c (by decide)) (fun _ => ?_)
  refine Zw_aload_0 dX11_lays_5 ?_
  refine Zw_getr 65 lf_X11_23 dX11_lays_6 (by first | decide | assumption | omega) (by first | rfl | assumption) (by rfl) ?_
  refine Zw_iload_1 dX11_lays_9 ?_
  refine Zw_iload_3 dX11_lays_10 ?_
  refine Zw_iastn (3) dX11_lays_11 (by first | decide | assumption | omega) (by first | rfl | assumption) rfl (by omega) (by decide) ?_
  refine Zw_goto 58 dX11_lays_12 (by decide) ?_
  refine Zw_return dX11_lays_58 ?_
  exact h
set_option maxRecDepth 20000 in
theorem s_lays4 {f : Nat} {v : Int32} {Q : zQ} {μ : zMu} {τ : Int64} (hf : f < 5) (h : Q none (zup μ 68 (3 * f + 0) v) τ) : Zc 0 yX11_lays cX11_lays 4 none [.ref 61, .int 4, .int (nI f), .int v] μ τ Q := by
  refine Zc.mk 0 [.ref 61, .int 4, .int (nI f), .int v] rfl (by decide) (Nat.le_of_ble_eq_true rfl) ?_
  refine Zw_iload_1 dX11_lays_0 ?_
  refine Zw_iconst (v := 4) dX11_lays_1 (by decide) ?_
  refine Zw_icmp_ge 15 dX11_lays_2 (by decide) (fun _ => ?_) (fun c => absurd c (by decide))
  refine Zw_iload_1 dX11_lays_15 ?_
  refine Zw_bipush (v := 6) dX11_lays_16 (by decide) ?_
  refine Zw_icmp_ge 37 dX11_lays_18 (by decide) (fun c => absurd c (by decide)) (fun _ => ?_)
  refine Zw_aload_0 dX11_lays_21 ?_
  refine Zw_getr 68 lf_X11_32 dX11_lays_22 (by first | decide | assumption | omega) (by first | rfl | assumption) (by rfl) ?_
  refine Zw_iconst (v := 3) dX11_lays_25 (by decide) ?_
  refine Zw_iload_2 dX11_lays_26 ?_
  refine Zw_nmul (3) (f) dX11_lays_27 rfl rfl ?_
  refine Zw_iload_1 dX11_lays_28 ?_
  refine Zw_nadd ((3 * f)) (4) dX11_lays_29 rfl rfl ?_
  refine Zw_iconst (v := 4) dX11_lays_30 (by decide) ?_
  refine Zw_nsub (((3 * f) + 4)) (4) dX11_lays_31 rfl rfl (by omega) ?_
  refine Zw_iload_3 dX11_lays_32 ?_
  refine Zw_iastn ((((3 * f) + 4) - 4)) dX11_lays_33 (by first | decide | assumption | omega) (by first | rfl | assumption) rfl (by omega) (by decide) ?_
  refine Zw_goto 58 dX11_lays_34 (by decide) ?_
  refine Zw_return dX11_lays_58 ?_
  rw [show 3 * f + 4 - 4 = 3 * f + 0 by omega]
  exact h
set_option maxRecDepth 20000 in
theorem s_lays5 {f : Nat} {v : Int32} {Q : zQ} {μ : zMu} {τ : Int64} (hf : f < 5) (h : Q none (zup μ 68 (3 * f + 1) v) τ) : Zc 0 yX11_lays cX11_lays 4 none [.ref 61, .int 5, .int (nI f), .int v] μ τ Q := by
  refine Zc.mk 0 [.ref 61, .int 5, .int (nI f), .int v] rfl (by decide) (Nat.le_of_ble_eq_true rfl) ?_
  refine Zw_iload_1 dX11_lays_0 ?_
  refine Zw_iconst (v := 4) dX11_lays_1 (by decide) ?_
  refine Zw_icmp_ge 15 dX11_lays_2 (by decide) (fun _ => ?_) (fun c => absurd c (by decide))
  refine Zw_iload_1 dX11_lays_15 ?_
  refine Zw_bipush (v := 6) dX11_lays_16 (by decide) ?_
  refine Zw_icmp_ge 37 dX11_lays_18 (by decide) (fun c => absurd c (by decide)) (fun _ => ?_)
  refine Zw_aload_0 dX11_lays_21 ?_
  refine Zw_getr 68 lf_X11_32 dX11_lays_22 (by first | decide | assumption | omega) (by first | rfl | assumption) (by rfl) ?_
  refine Zw_iconst (v := 3) dX11_lays_25 (by decide) ?_
  refine Zw_iload_2 dX11_lays_26 ?_
  refine Zw_nmul (3) (f) dX11_lays_27 rfl rfl ?_
  refine Zw_iload_1 dX11_lays_28 ?_
  refine Zw_nadd ((3 * f)) (5) dX11_lays_29 rfl rfl ?_
  refine Zw_iconst (v := 4) dX11_lays_30 (by decide) ?_
  refine Zw_nsub (((3 * f) + 5)) (4) dX11_lays_31 rfl rfl (by omega) ?_
  refine Zw_iload_3 dX11_lays_32 ?_
  refine Zw_iastn ((((3 * f) + 5) - 4)) dX11_lays_33 (by first | decide | assumption | omega) (by first | rfl | assumption) rfl (by omega) (by decide) ?_
  refine Zw_goto 58 dX11_lays_34 (by decide) ?_
  refine Zw_return dX11_lays_58 ?_
  rw [show 3 * f + 5 - 4 = 3 * f + 1 by omega]
  exact h
set_option maxRecDepth 20000 in
theorem s_lays6 {f : Nat} {v : Int32} {Q : zQ} {μ : zMu} {τ : Int64} (hf : f < 5) (h : Q none (zup μ 67 f v) τ) : Zc 0 yX11_lays cX11_lays 4 none [.ref 61, .int 6, .int (nI f), .int v] μ τ Q := by
  refine Zc.mk 0 [.ref 61, .int 6, .int (nI f), .int v] rfl (by decide) (Nat.le_of_ble_eq_true rfl) ?_
  refine Zw_iload_1 dX11_lays_0 ?_
  refine Zw_iconst (v := 4) dX11_lays_1 (by decide) ?_
  refine Zw_icmp_ge 15 dX11_lays_2 (by decide) (fun _ => ?_) (fun c => absurd c (by decide))
  refine Zw_iload_1 dX11_lays_15 ?_
  refine Zw_bipush (v := 6) dX11_lays_16 (by decide) ?_
  refine Zw_icmp_ge 37 dX11_lays_18 (by decide) (fun _ => ?_) (fun c => absurd c (by decide))
  refine Zw_iload_1 dX11_lays_37 ?_
  refine Zw_bipush (v := 6) dX11_lays_38 (by decide) ?_
  refine Zw_icmp_ne 53 dX11_lays_40 (by decide) (fun c => absurd c (by decide)) (fun _ => ?_)
  refine Zw_aload_0 dX11_lays_43 ?_
  refine Zw_getr 67 lf_X11_29 dX11_lays_44 (by first | decide | assumption | omega) (by first | rfl | assumption) (by rfl) ?_
  refine Zw_iload_2 dX11_lays_47 ?_
  refine Zw_iload_3 dX11_lays_48 ?_
  refine Zw_iastn (f) dX11_lays_49 (by first | decide | assumption | omega) (by first | rfl | assumption) rfl (by omega) (by decide) ?_
  refine Zw_goto 58 dX11_lays_50 (by decide) ?_
  refine Zw_return dX11_lays_58 ?_
  exact h
set_option maxRecDepth 20000 in
theorem s_lays7 {of v : Int32} {Q : zQ} {μ : zMu} {τ : Int64} (h : Q none (zup μ 61 4 v) τ) : Zc 0 yX11_lays cX11_lays 4 none [.ref 61, .int 7, .int of, .int v] μ τ Q := by
  refine Zc.mk 0 [.ref 61, .int 7, .int of, .int v] rfl (by decide) (Nat.le_of_ble_eq_true rfl) ?_
  refine Zw_iload_1 dX11_lays_0 ?_
  refine Zw_iconst (v := 4) dX11_lays_1 (by decide) ?_
  refine Zw_icmp_ge 15 dX11_lays_2 (by decide) (fun _ => ?_) (fun c => absurd c (by decide))
  refine Zw_iload_1 dX11_lays_15 ?_
  refine Zw_bipush (v := 6) dX11_lays_16 (by decide) ?_
  refine Zw_icmp_ge 37 dX11_lays_18 (by decide) (fun _ => ?_) (fun c => absurd c (by decide))
  refine Zw_iload_1 dX11_lays_37 ?_
  refine Zw_bipush (v := 6) dX11_lays_38 (by decide) ?_
  refine Zw_icmp_ne 53 dX11_lays_40 (by decide) (fun _ => ?_) (fun c => absurd c (by decide))
  refine Zw_aload_0 dX11_lays_53 ?_
  refine Zw_iload_3 dX11_lays_54 ?_
  refine Zw_put lp_X11_107 dX11_lays_55 (by first | decide | assumption | omega) (by first | rfl | assumption) (by rfl) (by first | rfl | assumption) (by first | rfl | assumption) ?_
  refine Zw_return dX11_lays_58 ?_
  exact h
set_option maxRecDepth 20000 in
theorem s_mtold0 {of : Int32} {Q : zQ} {μ : zMu} {τ : Int64} (h : Q (some (.int (μ 65 0))) μ τ) : Zc 45 yX11_told cX11_told 3 (some .int) [.ref 61, .int of, .int 0] μ τ Q := by
  refine Zc.mk 0 [.ref 61, .int of, .int 0] rfl (by decide) (Nat.le_of_ble_eq_true rfl) ?_
  refine Zw_iload_2 dX11_told_0 ?_
  refine Zw_i2l dX11_told_1 ?_
  refine Zw_lconst (v := 0) dX11_told_2 (by decide) ?_
  refine Zw_ldc2 dX11_told_3 zw11 ?_
  refine Zw_S3 (k := 0) lm_X11_76 dX11_told_6 (by decide) (Nat.le_of_ble_eq_true rfl) ?_
  refine s_in0 11 (by decide) (fun _ => ?_) (fun a0 => absurd (by unfold vp_in; decide) a0)
  refine Zw_if_eq 21 dX11_told_9 (by decide) (fun c => absurd c (by decide)) (fun _ => ?_)
  refine Zw_aload_0 dX11_told_12 ?_
  refine Zw_iload_2 dX11_told_13 ?_
  refine Zw_iload_1 dX11_told_14 ?_
  refine Zw_V2 (k := 2) lm_X11_91 dX11_told_15 (by decide) (by first | decide | assumption | omega) (by first | rfl | assumption) (by rfl) (Nat.le_of_ble_eq_true rfl) ?_
  refine s_isOf0 ?_
  refine Zw_if_ne 24 dX11_told_18 (by decide) (fun _ => ?_) (fun c => absurd c (by decide))
  refine Zw_iload_2 dX11_told_24 ?_
  refine Zw_iconst (v := 4) dX11_told_25 (by decide) ?_
  refine Zw_icmp_ge 36 dX11_told_26 (by decide) (fun c => absurd c (by decide)) (fun _ => ?_)
  refine Zw_aload_0 dX11_told_29 ?_
  refine Zw_getr 65 lf_X11_23 dX11_told_30 (by first | decide | assumption | omega) (by first | rfl | assumption) (by rfl) ?_
  refine Zw_iload_2 dX11_told_33 ?_
  refine Zw_ialdn (0) dX11_told_34 (by first | decide | assumption | omega) (by first | rfl | assumption) rfl (by omega) (by decide) ?_
  refine Zw_ireturn dX11_told_35 (by first | rfl | assumption) ?_
  exact h
set_option maxRecDepth 20000 in
theorem s_mtold1 {of : Int32} {Q : zQ} {μ : zMu} {τ : Int64} (h : Q (some (.int (μ 65 1))) μ τ) : Zc 45 yX11_told cX11_told 3 (some .int) [.ref 61, .int of, .int 1] μ τ Q := by
  refine Zc.mk 0 [.ref 61, .int of, .int 1] rfl (by decide) (Nat.le_of_ble_eq_true rfl) ?_
  refine Zw_iload_2 dX11_told_0 ?_
  refine Zw_i2l dX11_told_1 ?_
  refine Zw_lconst (v := 0) dX11_told_2 (by decide) ?_
  refine Zw_ldc2 dX11_told_3 zw11 ?_
  refine Zw_S3 (k := 0) lm_X11_76 dX11_told_6 (by decide) (Nat.le_of_ble_eq_true rfl) ?_
  refine s_in0 11 (by decide) (fun _ => ?_) (fun a0 => absurd (by unfold vp_in; decide) a0)
  refine Zw_if_eq 21 dX11_told_9 (by decide) (fun c => absurd c (by decide)) (fun _ => ?_)
  refine Zw_aload_0 dX11_told_12 ?_
  refine Zw_iload_2 dX11_told_13 ?_
  refine Zw_iload_1 dX11_told_14 ?_
  refine Zw_V2 (k := 2) lm_X11_91 dX11_told_15 (by decide) (by first | decide | assumption | omega) (by first | rfl | assumption) (by rfl) (Nat.le_of_ble_eq_true rfl) ?_
  refine s_isOf1 ?_
  refine Zw_if_ne 24 dX11_told_18 (by decide) (fun _ => ?_) (fun c => absurd c (by decide))
  refine Zw_iload_2 dX11_told_24 ?_
  refine Zw_iconst (v := 4) dX11_told_25 (by decide) ?_
  refine Zw_icmp_ge 36 dX11_told_26 (by decide) (fun c => absurd c (by decide)) (fun _ => ?_)
  refine Zw_aload_0 dX11_told_29 ?_
  refine Zw_getr 65 lf_X11_23 dX11_told_30 (by first | decide | assumption | omega) (by first | rfl | assumption) (by rfl) ?_
  refine Zw_iload_2 dX11_told_33 ?_
  refine Zw_ialdn (1) dX11_told_34 (by first | decide | assumption | omega) (by first | rfl | assumption) rfl (by omega) (by decide) ?_
  refine Zw_ireturn dX11_told_35 (by first | rfl | assumption) ?_
  exact h
set_option maxRecDepth 20000 in
theorem s_mtold2 {of : Int32} {Q : zQ} {μ : zMu} {τ : Int64} (h : Q (some (.int (μ 65 2))) μ τ) : Zc 45 yX11_told cX11_told 3 (some .int) [.ref 61, .int of, .int 2] μ τ Q := by
  refine Zc.mk 0 [.ref 61, .int of, .int 2] rfl (by decide) (Nat.le_of_ble_eq_true rfl) ?_
  refine Zw_iload_2 dX11_told_0 ?_
  refine Zw_i2l dX11_told_1 ?_
  refine Zw_lconst (v := 0) dX11_told_2 (by decide) ?_
  refine Zw_ldc2 dX11_told_3 zw11 ?_
  refine Zw_S3 (k := 0) lm_X11_76 dX11_told_6 (by decide) (Nat.le_of_ble_eq_true rfl) ?_
  refine s_in0 11 (by decide) (fun _ => ?_) (fun a0 => absurd (by unfold vp_in; decide) a0)
  refine Zw_if_eq 21 dX11_told_9 (by decide) (fun c => absurd c (by decide)) (fun _ => ?_)
  refine Zw_aload_0 dX11_told_12 ?_
  refine Zw_iload_2 dX11_told_13 ?_
  refine Zw_iload_1 dX11_told_14 ?_
  refine Zw_V2 (k := 2) lm_X11_91 dX11_told_15 (by decide) (by first | decide | assumption | omega) (by first | rfl | assumption) (by rfl) (Nat.le_of_ble_eq_true rfl) ?_
  refine s_isOf2 ?_
  refine Zw_if_ne 24 dX11_told_18 (by decide) (fun _ => ?_) (fun c => absurd c (by decide))
  refine Zw_iload_2 dX11_told_24 ?_
  refine Zw_iconst (v := 4) dX11_told_25 (by decide) ?_
  refine Zw_icmp_ge 36 dX11_told_26 (by decide) (fun c => absurd c (by decide)) (fun _ => ?_)
  refine Zw_aload_0 dX11_told_29 ?_
  refine Zw_getr 65 lf_X11_23 dX11_told_30 (by first | decide | assumption | omega) (by first | rfl | assumption) (by rfl) ?_
  refine Zw_iload_2 dX11_told_33 ?_
  refine Zw_ialdn (2) dX11_told_34 (by first | decide | assumption | omega) (by first | rfl | assumption) rfl (by omega) (by decide) ?_
  refine Zw_ireturn dX11_told_35 (by first | rfl | assumption) ?_
  exact h
set_option maxRecDepth 20000 in
theorem s_mtold3 {of : Int32} {Q : zQ} {μ : zMu} {τ : Int64} (h : Q (some (.int (μ 65 3))) μ τ) : Zc 45 yX11_told cX11_told 3 (some .int) [.ref 61, .int of, .int 3] μ τ Q := by
  refine Zc.mk 0 [.ref 61, .int of, .int 3] rfl (by decide) (Nat.le_of_ble_eq_true rfl) ?_
  refine Zw_iload_2 dX11_told_0 ?_
  refine Zw_i2l dX11_told_1 ?_
  refine Zw_lconst (v := 0) dX11_told_2 (by decide) ?_
  refine Zw_ldc2 dX11_told_3 zw11 ?_
  refine Zw_S3 (k := 0) lm_X11_76 dX11_told_6 (by decide) (Nat.le_of_ble_eq_true rfl) ?_
  refine s_in0 11 (by decide) (fun _ => ?_) (fun a0 => absurd (by unfold vp_in; decide) a0)
  refine Zw_if_eq 21 dX11_told_9 (by decide) (fun c => absurd c (by decide)) (fun _ => ?_)
  refine Zw_aload_0 dX11_told_12 ?_
  refine Zw_iload_2 dX11_told_13 ?_
  refine Zw_iload_1 dX11_told_14 ?_
  refine Zw_V2 (k := 2) lm_X11_91 dX11_told_15 (by decide) (by first | decide | assumption | omega) (by first | rfl | assumption) (by rfl) (Nat.le_of_ble_eq_true rfl) ?_
  refine s_isOf3 ?_
  refine Zw_if_ne 24 dX11_told_18 (by decide) (fun _ => ?_) (fun c => absurd c (by decide))
  refine Zw_iload_2 dX11_told_24 ?_
  refine Zw_iconst (v := 4) dX11_told_25 (by decide) ?_
  refine Zw_icmp_ge 36 dX11_told_26 (by decide) (fun c => absurd c (by decide)) (fun _ => ?_)
  refine Zw_aload_0 dX11_told_29 ?_
  refine Zw_getr 65 lf_X11_23 dX11_told_30 (by first | decide | assumption | omega) (by first | rfl | assumption) (by rfl) ?_
  refine Zw_iload_2 dX11_told_33 ?_
  refine Zw_ialdn (3) dX11_told_34 (by first | decide | assumption | omega) (by first | rfl | assumption) rfl (by omega) (by decide) ?_
  refine Zw_ireturn dX11_told_35 (by first | rfl | assumption) ?_
  exact h
set_option maxRecDepth 20000 in
theorem s_mtold4 {f : Nat} {Q : zQ} {μ : zMu} {τ : Int64} (n : Nat) (hn5 : n ≤ 5) (hn : μ 61 11 = nI n) (hf : f < n) (h : Q (some (.int (μ 68 (3 * f)))) μ τ) : Zc 45 yX11_told cX11_told 3 (some .int) [.ref 61, .int (nI f), .int 4] μ τ Q := by
  refine Zc.mk 0 [.ref 61, .int (nI f), .int 4] rfl (by decide) (Nat.le_of_ble_eq_true rfl) ?_
  refine Zw_iload_2 dX11_told_0 ?_
  refine Zw_i2l dX11_told_1 ?_
  refine Zw_lconst (v := 0) dX11_told_2 (by decide) ?_
  refine Zw_ldc2 dX11_told_3 zw11 ?_
  refine Zw_S3 (k := 0) lm_X11_76 dX11_told_6 (by decide) (Nat.le_of_ble_eq_true rfl) ?_
  refine s_in0 11 (by decide) (fun _ => ?_) (fun a0 => absurd (by unfold vp_in; decide) a0)
  refine Zw_if_eq 21 dX11_told_9 (by decide) (fun c => absurd c (by decide)) (fun _ => ?_)
  refine Zw_aload_0 dX11_told_12 ?_
  refine Zw_iload_2 dX11_told_13 ?_
  refine Zw_iload_1 dX11_told_14 ?_
  refine Zw_V2 (k := 2) lm_X11_91 dX11_told_15 (by decide) (by first | decide | assumption | omega) (by first | rfl | assumption) (by rfl) (Nat.le_of_ble_eq_true rfl) ?_
  refine s_isOf4 n hn5 hn (fun _ => ?_) (fun a0 => absurd (vp_in_nI hf (by omega)) a0)
  refine Zw_if_ne 24 dX11_told_18 (by decide) (fun _ => ?_) (fun c => absurd c (by decide))
  refine Zw_iload_2 dX11_told_24 ?_
  refine Zw_iconst (v := 4) dX11_told_25 (by decide) ?_
  refine Zw_icmp_ge 36 dX11_told_26 (by decide) (fun _ => ?_) (fun c => absurd c (by decide))
  refine Zw_iload_2 dX11_told_36 ?_
  refine Zw_bipush (v := 8) dX11_told_37 (by decide) ?_
  refine Zw_icmp_ge 89 dX11_told_39 (by decide) (fun c => absurd c (by decide)) (fun _ => ?_)
  refine Zw_iload_2 dX11_told_42 ?_
  refine Zw_bipush (v := 6) dX11_told_43 (by decide) ?_
  refine Zw_icmp_ge 63 dX11_told_45 (by decide) (fun c => absurd c (by decide)) (fun _ => ?_)
  refine Zw_aload_0 dX11_told_48 ?_
  refine Zw_getr 68 lf_X11_32 dX11_told_49 (by first | decide | assumption | omega) (by first | rfl | assumption) (by rfl) ?_
  refine Zw_iconst (v := 3) dX11_told_52 (by decide) ?_
  refine Zw_iload_1 dX11_told_53 ?_
  refine Zw_nmul (3) (f) dX11_told_54 rfl rfl ?_
  refine Zw_iload_2 dX11_told_55 ?_
  refine Zw_nadd ((3 * f)) (4) dX11_told_56 rfl rfl ?_
  refine Zw_iconst (v := 4) dX11_told_57 (by decide) ?_
  refine Zw_nsub (((3 * f) + 4)) (4) dX11_told_58 rfl rfl (by omega) ?_
  refine Zw_ialdn ((((3 * f) + 4) - 4)) dX11_told_59 (by first | decide | assumption | omega) (by first | rfl | assumption) rfl (by omega) (by decide) ?_
  refine Zw_goto 88 dX11_told_60 (by decide) ?_
  refine Zw_ireturn dX11_told_88 (by first | rfl | assumption) ?_
  rw [show 3 * f + 4 - 4 = 3 * f + 0 by omega]
  exact h
set_option maxRecDepth 20000 in
theorem s_mtold5 {f : Nat} {Q : zQ} {μ : zMu} {τ : Int64} (n : Nat) (hn5 : n ≤ 5) (hn : μ 61 11 = nI n) (hf : f < n) (h : Q (some (.int (μ 68 (3 * f + 1)))) μ τ) : Zc 45 yX11_told cX11_told 3 (some .int) [.ref 61, .int (nI f), .int 5] μ τ Q := by
  refine Zc.mk 0 [.ref 61, .int (nI f), .int 5] rfl (by decide) (Nat.le_of_ble_eq_true rfl) ?_
  refine Zw_iload_2 dX11_told_0 ?_
  refine Zw_i2l dX11_told_1 ?_
  refine Zw_lconst (v := 0) dX11_told_2 (by decide) ?_
  refine Zw_ldc2 dX11_told_3 zw11 ?_
  refine Zw_S3 (k := 0) lm_X11_76 dX11_told_6 (by decide) (Nat.le_of_ble_eq_true rfl) ?_
  refine s_in0 11 (by decide) (fun _ => ?_) (fun a0 => absurd (by unfold vp_in; decide) a0)
  refine Zw_if_eq 21 dX11_told_9 (by decide) (fun c => absurd c (by decide)) (fun _ => ?_)
  refine Zw_aload_0 dX11_told_12 ?_
  refine Zw_iload_2 dX11_told_13 ?_
  refine Zw_iload_1 dX11_told_14 ?_
  refine Zw_V2 (k := 2) lm_X11_91 dX11_told_15 (by decide) (by first | decide | assumption | omega) (by first | rfl | assumption) (by rfl) (Nat.le_of_ble_eq_true rfl) ?_
  refine s_isOf5 n hn5 hn (fun _ => ?_) (fun a0 => absurd (vp_in_nI hf (by omega)) a0)
  refine Zw_if_ne 24 dX11_told_18 (by decide) (fun _ => ?_) (fun c => absurd c (by decide))
  refine Zw_iload_2 dX11_told_24 ?_
  refine Zw_iconst (v := 4) dX11_told_25 (by decide) ?_
  refine Zw_icmp_ge 36 dX11_told_26 (by decide) (fun _ => ?_) (fun c => absurd c (by decide))
  refine Zw_iload_2 dX11_told_36 ?_
  refine Zw_bipush (v := 8) dX11_told_37 (by decide) ?_
  refine Zw_icmp_ge 89 dX11_told_39 (by decide) (fun c => absurd c (by decide)) (fun _ => ?_)
  refine Zw_iload_2 dX11_told_42 ?_
  refine Zw_bipush (v := 6) dX11_told_43 (by decide) ?_
  refine Zw_icmp_ge 63 dX11_told_45 (by decide) (fun c => absurd c (by decide)) (fun _ => ?_)
  refine Zw_aload_0 dX11_told_48 ?_
  refine Zw_getr 68 lf_X11_32 dX11_told_49 (by first | decide | assumption | omega) (by first | rfl | assumption) (by rfl) ?_
  refine Zw_iconst (v := 3) dX11_told_52 (by decide) ?_
  refine Zw_iload_1 dX11_told_53 ?_
  refine Zw_nmul (3) (f) dX11_told_54 rfl rfl ?_
  refine Zw_iload_2 dX11_told_55 ?_
  refine Zw_nadd ((3 * f)) (5) dX11_told_56 rfl rfl ?_
  refine Zw_iconst (v := 4) dX11_told_57 (by decide) ?_
  refine Zw_nsub (((3 * f) + 5)) (4) dX11_told_58 rfl rfl (by omega) ?_
  refine Zw_ialdn ((((3 * f) + 5) - 4)) dX11_told_59 (by first | decide | assumption | omega) (by first | rfl | assumption) rfl (by omega) (by decide) ?_
  refine Zw_goto 88 dX11_told_60 (by decide) ?_
  refine Zw_ireturn dX11_told_88 (by first | rfl | assumption) ?_
  rw [show 3 * f + 5 - 4 = 3 * f + 1 by omega]
  exact h
set_option maxRecDepth 20000 in
theorem s_mtold6 {f : Nat} {Q : zQ} {μ : zMu} {τ : Int64} (n : Nat) (hn5 : n ≤ 5) (hn : μ 61 11 = nI n) (hf : f < n) (h : Q (some (.int (μ 67 f))) μ τ) : Zc 45 yX11_told cX11_told 3 (some .int) [.ref 61, .int (nI f), .int 6] μ τ Q := by
  refine Zc.mk 0 [.ref 61, .int (nI f), .int 6] rfl (by decide) (Nat.le_of_ble_eq_true rfl) ?_
  refine Zw_iload_2 dX11_told_0 ?_
  refine Zw_i2l dX11_told_1 ?_
  refine Zw_lconst (v := 0) dX11_told_2 (by decide) ?_
  refine Zw_ldc2 dX11_told_3 zw11 ?_
  refine Zw_S3 (k := 0) lm_X11_76 dX11_told_6 (by decide) (Nat.le_of_ble_eq_true rfl) ?_
  refine s_in0 11 (by decide) (fun _ => ?_) (fun a0 => absurd (by unfold vp_in; decide) a0)
  refine Zw_if_eq 21 dX11_told_9 (by decide) (fun c => absurd c (by decide)) (fun _ => ?_)
  refine Zw_aload_0 dX11_told_12 ?_
  refine Zw_iload_2 dX11_told_13 ?_
  refine Zw_iload_1 dX11_told_14 ?_
  refine Zw_V2 (k := 2) lm_X11_91 dX11_told_15 (by decide) (by first | decide | assumption | omega) (by first | rfl | assumption) (by rfl) (Nat.le_of_ble_eq_true rfl) ?_
  refine s_isOf6 n hn5 hn (fun _ => ?_) (fun a0 => absurd (vp_in_nI hf (by omega)) a0)
  refine Zw_if_ne 24 dX11_told_18 (by decide) (fun _ => ?_) (fun c => absurd c (by decide))
  refine Zw_iload_2 dX11_told_24 ?_
  refine Zw_iconst (v := 4) dX11_told_25 (by decide) ?_
  refine Zw_icmp_ge 36 dX11_told_26 (by decide) (fun _ => ?_) (fun c => absurd c (by decide))
  refine Zw_iload_2 dX11_told_36 ?_
  refine Zw_bipush (v := 8) dX11_told_37 (by decide) ?_
  refine Zw_icmp_ge 89 dX11_told_39 (by decide) (fun c => absurd c (by decide)) (fun _ => ?_)
  refine Zw_iload_2 dX11_told_42 ?_
  refine Zw_bipush (v := 6) dX11_told_43 (by decide) ?_
  refine Zw_icmp_ge 63 dX11_told_45 (by decide) (fun _ => ?_) (fun c => absurd c (by decide))
  refine Zw_iload_2 dX11_told_63 ?_
  refine Zw_bipush (v := 6) dX11_told_64 (by decide) ?_
  refine Zw_icmp_ne 78 dX11_told_66 (by decide) (fun c => absurd c (by decide)) (fun _ => ?_)
  refine Zw_aload_0 dX11_told_69 ?_
  refine Zw_getr 67 lf_X11_29 dX11_told_70 (by first | decide | assumption | omega) (by first | rfl | assumption) (by rfl) ?_
  refine Zw_iload_1 dX11_told_73 ?_
  refine Zw_ialdn (f) dX11_told_74 (by first | decide | assumption | omega) (by first | rfl | assumption) rfl (by omega) (by decide) ?_
  refine Zw_goto 88 dX11_told_75 (by decide) ?_
  refine Zw_ireturn dX11_told_88 (by first | rfl | assumption) ?_
  exact h
set_option maxRecDepth 20000 in
theorem s_mtold7 {f : Nat} {Q : zQ} {μ : zMu} {τ : Int64} (n : Nat) (hn5 : n ≤ 5) (hn : μ 61 11 = nI n) (hf : f < n) (h : Q (some (.int (μ 68 (3 * f + 2)))) μ τ) : Zc 45 yX11_told cX11_told 3 (some .int) [.ref 61, .int (nI f), .int 7] μ τ Q := by
  refine Zc.mk 0 [.ref 61, .int (nI f), .int 7] rfl (by decide) (Nat.le_of_ble_eq_true rfl) ?_
  refine Zw_iload_2 dX11_told_0 ?_
  refine Zw_i2l dX11_told_1 ?_
  refine Zw_lconst (v := 0) dX11_told_2 (by decide) ?_
  refine Zw_ldc2 dX11_told_3 zw11 ?_
  refine Zw_S3 (k := 0) lm_X11_76 dX11_told_6 (by decide) (Nat.le_of_ble_eq_true rfl) ?_
  refine s_in0 11 (by decide) (fun _ => ?_) (fun a0 => absurd (by unfold vp_in; decide) a0)
  refine Zw_if_eq 21 dX11_told_9 (by decide) (fun c => absurd c (by decide)) (fun _ => ?_)
  refine Zw_aload_0 dX11_told_12 ?_
  refine Zw_iload_2 dX11_told_13 ?_
  refine Zw_iload_1 dX11_told_14 ?_
  refine Zw_V2 (k := 2) lm_X11_91 dX11_told_15 (by decide) (by first | decide | assumption | omega) (by first | rfl | assumption) (by rfl) (Nat.le_of_ble_eq_true rfl) ?_
  refine s_isOf7 n hn5 hn (fun _ => ?_) (fun a0 => absurd (vp_in_nI hf (by omega)) a0)
  refine Zw_if_ne 24 dX11_told_18 (by decide) (fun _ => ?_) (fun c => absurd c (by decide))
  refine Zw_iload_2 dX11_told_24 ?_
  refine Zw_iconst (v := 4) dX11_told_25 (by decide) ?_
  refine Zw_icmp_ge 36 dX11_told_26 (by decide) (fun _ => ?_) (fun c => absurd c (by decide))
  refine Zw_iload_2 dX11_told_36 ?_
  refine Zw_bipush (v := 8) dX11_told_37 (by decide) ?_
  refine Zw_icmp_ge 89 dX11_told_39 (by decide) (fun c => absurd c (by decide)) (fun _ => ?_)
  refine Zw_iload_2 dX11_told_42 ?_
  refine Zw_bipush (v := 6) dX11_told_43 (by decide) ?_
  refine Zw_icmp_ge 63 dX11_told_45 (by decide) (fun _ => ?_) (fun c => absurd c (by decide))
  refine Zw_iload_2 dX11_told_63 ?_
  refine Zw_bipush (v := 6) dX11_told_64 (by decide) ?_
  refine Zw_icmp_ne 78 dX11_told_66 (by decide) (fun _ => ?_) (fun c => absurd c (by decide))
  refine Zw_aload_0 dX11_told_78 ?_
  refine Zw_getr 68 lf_X11_32 dX11_told_79 (by first | decide | assumption | omega) (by first | rfl | assumption) (by rfl) ?_
  refine Zw_iconst (v := 3) dX11_told_82 (by decide) ?_
  refine Zw_iload_1 dX11_told_83 ?_
  refine Zw_nmul (3) (f) dX11_told_84 rfl rfl ?_
  refine Zw_iconst (v := 2) dX11_told_85 (by decide) ?_
  refine Zw_nadd ((3 * f)) (2) dX11_told_86 rfl rfl ?_
  refine Zw_ialdn (((3 * f) + 2)) dX11_told_87 (by first | decide | assumption | omega) (by first | rfl | assumption) rfl (by omega) (by decide) ?_
  refine Zw_ireturn dX11_told_88 (by first | rfl | assumption) ?_
  exact h
set_option maxRecDepth 20000 in
theorem s_mtold8 {C : mC} {w f : Nat} {Q : zQ} {μ : zMu} {τ : Int64} (hc : m_cx C w μ) (hf : f < cN C) (h : ∀ μ2 τ2, nOff [] μ μ2 → Q (some (.int (c_ey C w f))) μ2 τ2) : Zc 45 yX11_told cX11_told 3 (some .int) [.ref 61, .int (nI f), .int 8] μ τ Q := by
  refine Zc.mk 0 [.ref 61, .int (nI f), .int 8] rfl (by decide) (Nat.le_of_ble_eq_true rfl) ?_
  refine Zw_iload_2 dX11_told_0 ?_
  refine Zw_i2l dX11_told_1 ?_
  refine Zw_lconst (v := 0) dX11_told_2 (by decide) ?_
  refine Zw_ldc2 dX11_told_3 zw11 ?_
  refine Zw_S3 (k := 0) lm_X11_76 dX11_told_6 (by decide) (Nat.le_of_ble_eq_true rfl) ?_
  refine s_in0 11 (by decide) (fun _ => ?_) (fun a0 => absurd (by unfold vp_in; decide) a0)
  refine Zw_if_eq 21 dX11_told_9 (by decide) (fun c => absurd c (by decide)) (fun _ => ?_)
  refine Zw_aload_0 dX11_told_12 ?_
  refine Zw_iload_2 dX11_told_13 ?_
  refine Zw_iload_1 dX11_told_14 ?_
  refine Zw_V2 (k := 2) lm_X11_91 dX11_told_15 (by decide) (by first | decide | assumption | omega) (by first | rfl | assumption) (by rfl) (Nat.le_of_ble_eq_true rfl) ?_
  refine s_isOf8 _ hc.n5.1 hc.n5.2.1 (fun _ => ?_) (fun a0 => absurd (vp_in_nI hf (by have := hc.n5.1; omega)) a0)
  refine Zw_if_ne 24 dX11_told_18 (by decide) (fun _ => ?_) (fun c => absurd c (by decide))
  refine Zw_iload_2 dX11_told_24 ?_
  refine Zw_iconst (v := 4) dX11_told_25 (by decide) ?_
  refine Zw_icmp_ge 36 dX11_told_26 (by decide) (fun _ => ?_) (fun c => absurd c (by decide))
  refine Zw_iload_2 dX11_told_36 ?_
  refine Zw_bipush (v := 8) dX11_told_37 (by decide) ?_
  refine Zw_icmp_ge 89 dX11_told_39 (by decide) (fun _ => ?_) (fun c => absurd c (by decide))
  refine Zw_iload_2 dX11_told_89 ?_
  refine Zw_bipush (v := 8) dX11_told_90 (by decide) ?_
  refine Zw_icmp_ne 103 dX11_told_92 (by decide) (fun c => absurd c (by decide)) (fun _ => ?_)
  refine Zw_aload_0 dX11_told_95 ?_
  refine Zw_iload_1 dX11_told_96 ?_
  refine Zw_V1 (k := 44) lm_X11_117 dX11_told_97 (by decide) (by first | decide | assumption | omega) (by first | rfl | assumption) (by rfl) (Nat.le_of_ble_eq_true rfl) ?_
  refine s_c_eyes hc hf (fun μ1 τ1 o1 => ?_)
  refine Zw_goto 123 dX11_told_100 (by decide) ?_
  refine Zw_ireturn dX11_told_123 (by first | rfl | assumption) ?_
  exact h _ _ o1
set_option maxRecDepth 20000 in
theorem s_mtold9 {p : Nat} {Q : zQ} {μ : zMu} {τ : Int64} (hp : p < 8) (h : Q (some (.int (μ 66 p))) μ τ) : Zc 45 yX11_told cX11_told 3 (some .int) [.ref 61, .int (nI p), .int 9] μ τ Q := by
  refine Zc.mk 0 [.ref 61, .int (nI p), .int 9] rfl (by decide) (Nat.le_of_ble_eq_true rfl) ?_
  refine Zw_iload_2 dX11_told_0 ?_
  refine Zw_i2l dX11_told_1 ?_
  refine Zw_lconst (v := 0) dX11_told_2 (by decide) ?_
  refine Zw_ldc2 dX11_told_3 zw11 ?_
  refine Zw_S3 (k := 0) lm_X11_76 dX11_told_6 (by decide) (Nat.le_of_ble_eq_true rfl) ?_
  refine s_in0 11 (by decide) (fun _ => ?_) (fun a0 => absurd (by unfold vp_in; decide) a0)
  refine Zw_if_eq 21 dX11_told_9 (by decide) (fun c => absurd c (by decide)) (fun _ => ?_)
  refine Zw_aload_0 dX11_told_12 ?_
  refine Zw_iload_2 dX11_told_13 ?_
  refine Zw_iload_1 dX11_told_14 ?_
  refine Zw_V2 (k := 2) lm_X11_91 dX11_told_15 (by decide) (by first | decide | assumption | omega) (by first | rfl | assumption) (by rfl) (Nat.le_of_ble_eq_true rfl) ?_
  refine s_isOf9 (fun _ => ?_) (fun a0 => absurd (vp_in_nI hp (by omega)) a0)
  refine Zw_if_ne 24 dX11_told_18 (by decide) (fun _ => ?_) (fun c => absurd c (by decide))
  refine Zw_iload_2 dX11_told_24 ?_
  refine Zw_iconst (v := 4) dX11_told_25 (by decide) ?_
  refine Zw_icmp_ge 36 dX11_told_26 (by decide) (fun _ => ?_) (fun c => absurd c (by decide))
  refine Zw_iload_2 dX11_told_36 ?_
  refine Zw_bipush (v := 8) dX11_told_37 (by decide) ?_
  refine Zw_icmp_ge 89 dX11_told_39 (by decide) (fun _ => ?_) (fun c => absurd c (by decide))
  refine Zw_iload_2 dX11_told_89 ?_
  refine Zw_bipush (v := 8) dX11_told_90 (by decide) ?_
  refine Zw_icmp_ne 103 dX11_told_92 (by decide) (fun _ => ?_) (fun c => absurd c (by decide))
  refine Zw_iload_2 dX11_told_103 ?_
  refine Zw_bipush (v := 9) dX11_told_104 (by decide) ?_
  refine Zw_icmp_ne 118 dX11_told_106 (by decide) (fun c => absurd c (by decide)) (fun _ => ?_)
  refine Zw_aload_0 dX11_told_109 ?_
  refine Zw_getr 66 lf_X11_26 dX11_told_110 (by first | decide | assumption | omega) (by first | rfl | assumption) (by rfl) ?_
  refine Zw_iload_1 dX11_told_113 ?_
  refine Zw_ialdn (p) dX11_told_114 (by first | decide | assumption | omega) (by first | rfl | assumption) rfl (by omega) (by decide) ?_
  refine Zw_goto 123 dX11_told_115 (by decide) ?_
  refine Zw_ireturn dX11_told_123 (by first | rfl | assumption) ?_
  exact h
set_option maxRecDepth 20000 in
theorem s_mtold10 {C : mC} {w p : Nat} {Q : zQ} {μ : zMu} {τ : Int64} (hc : m_cx C w μ) (hp : p < 8) (h : ∀ μ2 τ2, nOff [] μ μ2 → Q (some (.int (c_mv C w p))) μ2 τ2) : Zc 45 yX11_told cX11_told 3 (some .int) [.ref 61, .int (nI p), .int 10] μ τ Q := by
  refine Zc.mk 0 [.ref 61, .int (nI p), .int 10] rfl (by decide) (Nat.le_of_ble_eq_true rfl) ?_
  refine Zw_iload_2 dX11_told_0 ?_
  refine Zw_i2l dX11_told_1 ?_
  refine Zw_lconst (v := 0) dX11_told_2 (by decide) ?_
  refine Zw_ldc2 dX11_told_3 zw11 ?_
  refine Zw_S3 (k := 0) lm_X11_76 dX11_told_6 (by decide) (Nat.le_of_ble_eq_true rfl) ?_
  refine s_in0 11 (by decide) (fun _ => ?_) (fun a0 => absurd (by unfold vp_in; decide) a0)
  refine Zw_if_eq 21 dX11_told_9 (by decide) (fun c => absurd c (by decide)) (fun _ => ?_)
  refine Zw_aload_0 dX11_told_12 ?_
  refine Zw_iload_2 dX11_told_13 ?_
  refine Zw_iload_1 dX11_told_14 ?_
  refine Zw_V2 (k := 2) lm_X11_91 dX11_told_15 (by decide) (by first | decide | assumption | omega) (by first | rfl | assumption) (by rfl) (Nat.le_of_ble_eq_true rfl) ?_
  refine s_isOf10 (fun _ => ?_) (fun a0 => absurd (vp_in_nI hp (by omega)) a0)
  refine Zw_if_ne 24 dX11_told_18 (by decide) (fun _ => ?_) (fun c => absurd c (by decide))
  refine Zw_iload_2 dX11_told_24 ?_
  refine Zw_iconst (v := 4) dX11_told_25 (by decide) ?_
  refine Zw_icmp_ge 36 dX11_told_26 (by decide) (fun _ => ?_) (fun c => absurd c (by decide))
  refine Zw_iload_2 dX11_told_36 ?_
  refine Zw_bipush (v := 8) dX11_told_37 (by decide) ?_
  refine Zw_icmp_ge 89 dX11_told_39 (by decide) (fun _ => ?_) (fun c => absurd c (by decide))
  refine Zw_iload_2 dX11_told_89 ?_
  refine Zw_bipush (v := 8) dX11_told_90 (by decide) ?_
  refine Zw_icmp_ne 103 dX11_told_92 (by decide) (fun _ => ?_) (fun c => absurd c (by decide))
  refine Zw_iload_2 dX11_told_103 ?_
  refine Zw_bipush (v := 9) dX11_told_104 (by decide) ?_
  refine Zw_icmp_ne 118 dX11_told_106 (by decide) (fun _ => ?_) (fun c => absurd c (by decide))
  refine Zw_aload_0 dX11_told_118 ?_
  refine Zw_iload_1 dX11_told_119 ?_
  refine Zw_V1 (k := 43) lm_X11_120 dX11_told_120 (by decide) (by first | decide | assumption | omega) (by first | rfl | assumption) (by rfl) (Nat.le_of_ble_eq_true rfl) ?_
  refine s_c_cb hc hp (fun μ1 τ1 o1 => ?_)
  refine Zw_ireturn dX11_told_123 (by first | rfl | assumption) ?_
  exact h _ _ o1
set_option maxRecDepth 20000 in
theorem s_mtoldB {of what : Int32} {Q : zQ} {μ : zMu} {τ : Int64} (n : Nat) (hn5 : n ≤ 5) (hn : μ 61 11 = nI n) (hbad : ¬ q_oktold n of what) (h : Q (some (.int (-2))) μ τ) : Zc 45 yX11_told cX11_told 3 (some .int) [.ref 61, .int of, .int what] μ τ Q := by
  refine Zc.mk 0 [.ref 61, .int of, .int what] rfl (by decide) (Nat.le_of_ble_eq_true rfl) ?_
  refine Zw_iload_2 dX11_told_0 ?_
  refine Zw_i2l dX11_told_1 ?_
  refine Zw_lconst (v := 0) dX11_told_2 (by decide) ?_
  refine Zw_ldc2 dX11_told_3 zw11 ?_
  refine Zw_S3 (k := 0) lm_X11_76 dX11_told_6 (by decide) (Nat.le_of_ble_eq_true rfl) ?_
  refine s_in0 11 (by decide) (fun b1 => ?_) (fun b1 => ?_)
  · refine Zw_if_eq 21 dX11_told_9 (by decide) (fun c => absurd c (by decide)) (fun _ => ?_)
    obtain ⟨c, hc, rfl⟩ := vp_in_of b1 (by decide)
    match c, hc with
    | 0, _ =>
      refine Zw_aload_0 dX11_told_12 ?_
      refine Zw_iload_2 dX11_told_13 ?_
      refine Zw_iload_1 dX11_told_14 ?_
      refine Zw_V2 (k := 2) lm_X11_91 dX11_told_15 (by decide) (by first | decide | assumption | omega) (by first | rfl | assumption) (by rfl) (Nat.le_of_ble_eq_true rfl) ?_
      refine s_isOf0 ?_
      refine Zw_if_ne 24 dX11_told_18 (by decide) (fun _ => ?_) (fun c => absurd c (by decide))
      exact absurd ⟨b1, fun e => absurd e (by decide), fun e => absurd e (by decide)⟩ hbad
    | 1, _ =>
      refine Zw_aload_0 dX11_told_12 ?_
      refine Zw_iload_2 dX11_told_13 ?_
      refine Zw_iload_1 dX11_told_14 ?_
      refine Zw_V2 (k := 2) lm_X11_91 dX11_told_15 (by decide) (by first | decide | assumption | omega) (by first | rfl | assumption) (by rfl) (Nat.le_of_ble_eq_true rfl) ?_
      refine s_isOf1 ?_
      refine Zw_if_ne 24 dX11_told_18 (by decide) (fun _ => ?_) (fun c => absurd c (by decide))
      exact absurd ⟨b1, fun e => absurd e (by decide), fun e => absurd e (by decide)⟩ hbad
    | 2, _ =>
      refine Zw_aload_0 dX11_told_12 ?_
      refine Zw_iload_2 dX11_told_13 ?_
      refine Zw_iload_1 dX11_told_14 ?_
      refine Zw_V2 (k := 2) lm_X11_91 dX11_told_15 (by decide) (by first | decide | assumption | omega) (by first | rfl | assumption) (by rfl) (Nat.le_of_ble_eq_true rfl) ?_
      refine s_isOf2 ?_
      refine Zw_if_ne 24 dX11_told_18 (by decide) (fun _ => ?_) (fun c => absurd c (by decide))
      exact absurd ⟨b1, fun e => absurd e (by decide), fun e => absurd e (by decide)⟩ hbad
    | 3, _ =>
      refine Zw_aload_0 dX11_told_12 ?_
      refine Zw_iload_2 dX11_told_13 ?_
      refine Zw_iload_1 dX11_told_14 ?_
      refine Zw_V2 (k := 2) lm_X11_91 dX11_told_15 (by decide) (by first | decide | assumption | omega) (by first | rfl | assumption) (by rfl) (Nat.le_of_ble_eq_true rfl) ?_
      refine s_isOf3 ?_
      refine Zw_if_ne 24 dX11_told_18 (by decide) (fun _ => ?_) (fun c => absurd c (by decide))
      exact absurd ⟨b1, fun e => absurd e (by decide), fun e => absurd e (by decide)⟩ hbad
    | 4, _ =>
      refine Zw_aload_0 dX11_told_12 ?_
      refine Zw_iload_2 dX11_told_13 ?_
      refine Zw_iload_1 dX11_told_14 ?_
      refine Zw_V2 (k := 2) lm_X11_91 dX11_told_15 (by decide) (by first | decide | assumption | omega) (by first | rfl | assumption) (by rfl) (Nat.le_of_ble_eq_true rfl) ?_
      refine s_isOf4 n hn5 hn (fun b2 => ?_) (fun b2 => ?_)
      · refine Zw_if_ne 24 dX11_told_18 (by decide) (fun _ => ?_) (fun c => absurd c (by decide))
        exact absurd ⟨b1, fun _ _ => b2, fun e => absurd e (by decide)⟩ hbad
      · refine Zw_if_ne 24 dX11_told_18 (by decide) (fun c => absurd c (by decide)) (fun _ => ?_)
        refine Zw_bipush (v := (-2)) dX11_told_21 (by decide) ?_
        refine Zw_ireturn dX11_told_23 (by first | rfl | assumption) ?_
        exact h
    | 5, _ =>
      refine Zw_aload_0 dX11_told_12 ?_
      refine Zw_iload_2 dX11_told_13 ?_
      refine Zw_iload_1 dX11_told_14 ?_
      refine Zw_V2 (k := 2) lm_X11_91 dX11_told_15 (by decide) (by first | decide | assumption | omega) (by first | rfl | assumption) (by rfl) (Nat.le_of_ble_eq_true rfl) ?_
      refine s_isOf5 n hn5 hn (fun b2 => ?_) (fun b2 => ?_)
      · refine Zw_if_ne 24 dX11_told_18 (by decide) (fun _ => ?_) (fun c => absurd c (by decide))
        exact absurd ⟨b1, fun _ _ => b2, fun e => absurd e (by decide)⟩ hbad
      · refine Zw_if_ne 24 dX11_told_18 (by decide) (fun c => absurd c (by decide)) (fun _ => ?_)
        refine Zw_bipush (v := (-2)) dX11_told_21 (by decide) ?_
        refine Zw_ireturn dX11_told_23 (by first | rfl | assumption) ?_
        exact h
    | 6, _ =>
      refine Zw_aload_0 dX11_told_12 ?_
      refine Zw_iload_2 dX11_told_13 ?_
      refine Zw_iload_1 dX11_told_14 ?_
      refine Zw_V2 (k := 2) lm_X11_91 dX11_told_15 (by decide) (by first | decide | assumption | omega) (by first | rfl | assumption) (by rfl) (Nat.le_of_ble_eq_true rfl) ?_
      refine s_isOf6 n hn5 hn (fun b2 => ?_) (fun b2 => ?_)
      · refine Zw_if_ne 24 dX11_told_18 (by decide) (fun _ => ?_) (fun c => absurd c (by decide))
        exact absurd ⟨b1, fun _ _ => b2, fun e => absurd e (by decide)⟩ hbad
      · refine Zw_if_ne 24 dX11_told_18 (by decide) (fun c => absurd c (by decide)) (fun _ => ?_)
        refine Zw_bipush (v := (-2)) dX11_told_21 (by decide) ?_
        refine Zw_ireturn dX11_told_23 (by first | rfl | assumption) ?_
        exact h
    | 7, _ =>
      refine Zw_aload_0 dX11_told_12 ?_
      refine Zw_iload_2 dX11_told_13 ?_
      refine Zw_iload_1 dX11_told_14 ?_
      refine Zw_V2 (k := 2) lm_X11_91 dX11_told_15 (by decide) (by first | decide | assumption | omega) (by first | rfl | assumption) (by rfl) (Nat.le_of_ble_eq_true rfl) ?_
      refine s_isOf7 n hn5 hn (fun b2 => ?_) (fun b2 => ?_)
      · refine Zw_if_ne 24 dX11_told_18 (by decide) (fun _ => ?_) (fun c => absurd c (by decide))
        exact absurd ⟨b1, fun _ _ => b2, fun e => absurd e (by decide)⟩ hbad
      · refine Zw_if_ne 24 dX11_told_18 (by decide) (fun c => absurd c (by decide)) (fun _ => ?_)
        refine Zw_bipush (v := (-2)) dX11_told_21 (by decide) ?_
        refine Zw_ireturn dX11_told_23 (by first | rfl | assumption) ?_
        exact h
    | 8, _ =>
      refine Zw_aload_0 dX11_told_12 ?_
      refine Zw_iload_2 dX11_told_13 ?_
      refine Zw_iload_1 dX11_told_14 ?_
      refine Zw_V2 (k := 2) lm_X11_91 dX11_told_15 (by decide) (by first | decide | assumption | omega) (by first | rfl | assumption) (by rfl) (Nat.le_of_ble_eq_true rfl) ?_
      refine s_isOf8 n hn5 hn (fun b2 => ?_) (fun b2 => ?_)
      · refine Zw_if_ne 24 dX11_told_18 (by decide) (fun _ => ?_) (fun c => absurd c (by decide))
        exact absurd ⟨b1, fun _ _ => b2, fun e => absurd e (by decide)⟩ hbad
      · refine Zw_if_ne 24 dX11_told_18 (by decide) (fun c => absurd c (by decide)) (fun _ => ?_)
        refine Zw_bipush (v := (-2)) dX11_told_21 (by decide) ?_
        refine Zw_ireturn dX11_told_23 (by first | rfl | assumption) ?_
        exact h
    | 9, _ =>
      refine Zw_aload_0 dX11_told_12 ?_
      refine Zw_iload_2 dX11_told_13 ?_
      refine Zw_iload_1 dX11_told_14 ?_
      refine Zw_V2 (k := 2) lm_X11_91 dX11_told_15 (by decide) (by first | decide | assumption | omega) (by first | rfl | assumption) (by rfl) (Nat.le_of_ble_eq_true rfl) ?_
      refine s_isOf9 (fun b2 => ?_) (fun b2 => ?_)
      · refine Zw_if_ne 24 dX11_told_18 (by decide) (fun _ => ?_) (fun c => absurd c (by decide))
        exact absurd ⟨b1, fun _ e => absurd e (by decide), fun _ => b2⟩ hbad
      · refine Zw_if_ne 24 dX11_told_18 (by decide) (fun c => absurd c (by decide)) (fun _ => ?_)
        refine Zw_bipush (v := (-2)) dX11_told_21 (by decide) ?_
        refine Zw_ireturn dX11_told_23 (by first | rfl | assumption) ?_
        exact h
    | 10, _ =>
      refine Zw_aload_0 dX11_told_12 ?_
      refine Zw_iload_2 dX11_told_13 ?_
      refine Zw_iload_1 dX11_told_14 ?_
      refine Zw_V2 (k := 2) lm_X11_91 dX11_told_15 (by decide) (by first | decide | assumption | omega) (by first | rfl | assumption) (by rfl) (Nat.le_of_ble_eq_true rfl) ?_
      refine s_isOf10 (fun b2 => ?_) (fun b2 => ?_)
      · refine Zw_if_ne 24 dX11_told_18 (by decide) (fun _ => ?_) (fun c => absurd c (by decide))
        exact absurd ⟨b1, fun _ e => absurd e (by decide), fun _ => b2⟩ hbad
      · refine Zw_if_ne 24 dX11_told_18 (by decide) (fun c => absurd c (by decide)) (fun _ => ?_)
        refine Zw_bipush (v := (-2)) dX11_told_21 (by decide) ?_
        refine Zw_ireturn dX11_told_23 (by first | rfl | assumption) ?_
        exact h
    | n + 11, hc => exact absurd hc (by omega)
  · refine Zw_if_eq 21 dX11_told_9 (by decide) (fun _ => ?_) (fun c => absurd c (by decide))
    refine Zw_bipush (v := (-2)) dX11_told_21 (by decide) ?_
    refine Zw_ireturn dX11_told_23 (by first | rfl | assumption) ?_
    exact h
set_option maxRecDepth 20000 in
theorem s_msetB {what of v : Int32} {Q : zQ} {μ : zMu} {τ : Int64} (n : Nat) (hn5 : n ≤ 5) (hn : μ 61 11 = nI n) (hbad : ¬ q_okset n what of v) (h : Q (some (.int (-2))) μ τ) : Zc 46 yX11_set cX11_set 5 (some .int) [.ref 61, .int what, .int of, .int v] μ τ Q := by
  refine Zc.mk 1 [.ref 61, .int what, .int of, .int v, .null] rfl (by decide) (Nat.le_of_ble_eq_true rfl) ?_
  refine Zw_iload_1 dX11_set_0 ?_
  refine Zw_i2l dX11_set_1 ?_
  refine Zw_lconst (v := 0) dX11_set_2 (by decide) ?_
  refine Zw_ldc2 dX11_set_3 zw28 ?_
  refine Zw_S3 (k := 0) lm_X11_76 dX11_set_6 (by decide) (Nat.le_of_ble_eq_true rfl) ?_
  refine s_in0 6 (by decide) (fun b1 => ?_) (fun b1 => ?_)
  · refine Zw_if_eq 35 dX11_set_9 (by decide) (fun c => absurd c (by decide)) (fun _ => ?_)
    obtain ⟨c, hc, rfl⟩ := vp_in_of b1 (by decide)
    match c, hc with
    | 0, _ =>
      refine Zw_aload_0 dX11_set_12 ?_
      refine Zw_iload_1 dX11_set_13 ?_
      refine Zw_iload_2 dX11_set_14 ?_
      refine Zw_V2 (k := 2) lm_X11_91 dX11_set_15 (by decide) (by first | decide | assumption | omega) (by first | rfl | assumption) (by rfl) (Nat.le_of_ble_eq_true rfl) ?_
      refine s_isOf0 ?_
      refine Zw_if_eq 35 dX11_set_18 (by decide) (fun c => absurd c (by decide)) (fun _ => ?_)
      refine Zw_iload_3 dX11_set_21 ?_
      refine Zw_i2l dX11_set_22 ?_
      refine Zw_lconst (v := 0) dX11_set_23 (by decide) ?_
      refine Zw_iload_1 dX11_set_24 ?_
      refine Zw_S1 (k := 0) lm_X11_95 dX11_set_25 (by decide) (Nat.le_of_ble_eq_true rfl) ?_
      refine s_mostOf0 ?_
      refine Zw_i2l dX11_set_28 ?_
      refine Zw_S3 (k := 0) lm_X11_76 dX11_set_29 (by decide) (Nat.le_of_ble_eq_true rfl) ?_
      refine s_in0 1000 (by decide) (fun b3 => ?_) (fun b3 => ?_)
      · refine Zw_if_ne 38 dX11_set_32 (by decide) (fun _ => ?_) (fun c => absurd c (by decide))
        exact absurd ⟨b1, b3, Or.inl (by decide)⟩ hbad
      · refine Zw_if_ne 38 dX11_set_32 (by decide) (fun c => absurd c (by decide)) (fun _ => ?_)
        refine Zw_bipush (v := (-2)) dX11_set_35 (by decide) ?_
        refine Zw_ireturn dX11_set_37 (by first | rfl | assumption) ?_
        exact h
    | 1, _ =>
      refine Zw_aload_0 dX11_set_12 ?_
      refine Zw_iload_1 dX11_set_13 ?_
      refine Zw_iload_2 dX11_set_14 ?_
      refine Zw_V2 (k := 2) lm_X11_91 dX11_set_15 (by decide) (by first | decide | assumption | omega) (by first | rfl | assumption) (by rfl) (Nat.le_of_ble_eq_true rfl) ?_
      refine s_isOf1 ?_
      refine Zw_if_eq 35 dX11_set_18 (by decide) (fun c => absurd c (by decide)) (fun _ => ?_)
      refine Zw_iload_3 dX11_set_21 ?_
      refine Zw_i2l dX11_set_22 ?_
      refine Zw_lconst (v := 0) dX11_set_23 (by decide) ?_
      refine Zw_iload_1 dX11_set_24 ?_
      refine Zw_S1 (k := 0) lm_X11_95 dX11_set_25 (by decide) (Nat.le_of_ble_eq_true rfl) ?_
      refine s_mostOf1 ?_
      refine Zw_i2l dX11_set_28 ?_
      refine Zw_S3 (k := 0) lm_X11_76 dX11_set_29 (by decide) (Nat.le_of_ble_eq_true rfl) ?_
      refine s_in0 10 (by decide) (fun b3 => ?_) (fun b3 => ?_)
      · refine Zw_if_ne 38 dX11_set_32 (by decide) (fun _ => ?_) (fun c => absurd c (by decide))
        exact absurd ⟨b1, b3, Or.inl (by decide)⟩ hbad
      · refine Zw_if_ne 38 dX11_set_32 (by decide) (fun c => absurd c (by decide)) (fun _ => ?_)
        refine Zw_bipush (v := (-2)) dX11_set_35 (by decide) ?_
        refine Zw_ireturn dX11_set_37 (by first | rfl | assumption) ?_
        exact h
    | 2, _ =>
      refine Zw_aload_0 dX11_set_12 ?_
      refine Zw_iload_1 dX11_set_13 ?_
      refine Zw_iload_2 dX11_set_14 ?_
      refine Zw_V2 (k := 2) lm_X11_91 dX11_set_15 (by decide) (by first | decide | assumption | omega) (by first | rfl | assumption) (by rfl) (Nat.le_of_ble_eq_true rfl) ?_
      refine s_isOf2 ?_
      refine Zw_if_eq 35 dX11_set_18 (by decide) (fun c => absurd c (by decide)) (fun _ => ?_)
      refine Zw_iload_3 dX11_set_21 ?_
      refine Zw_i2l dX11_set_22 ?_
      refine Zw_lconst (v := 0) dX11_set_23 (by decide) ?_
      refine Zw_iload_1 dX11_set_24 ?_
      refine Zw_S1 (k := 0) lm_X11_95 dX11_set_25 (by decide) (Nat.le_of_ble_eq_true rfl) ?_
      refine s_mostOf2 ?_
      refine Zw_i2l dX11_set_28 ?_
      refine Zw_S3 (k := 0) lm_X11_76 dX11_set_29 (by decide) (Nat.le_of_ble_eq_true rfl) ?_
      refine s_in0 8 (by decide) (fun b3 => ?_) (fun b3 => ?_)
      · refine Zw_if_ne 38 dX11_set_32 (by decide) (fun _ => ?_) (fun c => absurd c (by decide))
        exact absurd ⟨b1, b3, Or.inl (by decide)⟩ hbad
      · refine Zw_if_ne 38 dX11_set_32 (by decide) (fun c => absurd c (by decide)) (fun _ => ?_)
        refine Zw_bipush (v := (-2)) dX11_set_35 (by decide) ?_
        refine Zw_ireturn dX11_set_37 (by first | rfl | assumption) ?_
        exact h
    | 3, _ =>
      refine Zw_aload_0 dX11_set_12 ?_
      refine Zw_iload_1 dX11_set_13 ?_
      refine Zw_iload_2 dX11_set_14 ?_
      refine Zw_V2 (k := 2) lm_X11_91 dX11_set_15 (by decide) (by first | decide | assumption | omega) (by first | rfl | assumption) (by rfl) (Nat.le_of_ble_eq_true rfl) ?_
      refine s_isOf3 ?_
      refine Zw_if_eq 35 dX11_set_18 (by decide) (fun c => absurd c (by decide)) (fun _ => ?_)
      refine Zw_iload_3 dX11_set_21 ?_
      refine Zw_i2l dX11_set_22 ?_
      refine Zw_lconst (v := 0) dX11_set_23 (by decide) ?_
      refine Zw_iload_1 dX11_set_24 ?_
      refine Zw_S1 (k := 0) lm_X11_95 dX11_set_25 (by decide) (Nat.le_of_ble_eq_true rfl) ?_
      refine s_mostOf3 ?_
      refine Zw_i2l dX11_set_28 ?_
      refine Zw_S3 (k := 0) lm_X11_76 dX11_set_29 (by decide) (Nat.le_of_ble_eq_true rfl) ?_
      refine s_in0 256 (by decide) (fun b3 => ?_) (fun b3 => ?_)
      · refine Zw_if_ne 38 dX11_set_32 (by decide) (fun _ => ?_) (fun c => absurd c (by decide))
        exact absurd ⟨b1, b3, Or.inl (by decide)⟩ hbad
      · refine Zw_if_ne 38 dX11_set_32 (by decide) (fun c => absurd c (by decide)) (fun _ => ?_)
        refine Zw_bipush (v := (-2)) dX11_set_35 (by decide) ?_
        refine Zw_ireturn dX11_set_37 (by first | rfl | assumption) ?_
        exact h
    | 4, _ =>
      refine Zw_aload_0 dX11_set_12 ?_
      refine Zw_iload_1 dX11_set_13 ?_
      refine Zw_iload_2 dX11_set_14 ?_
      refine Zw_V2 (k := 2) lm_X11_91 dX11_set_15 (by decide) (by first | decide | assumption | omega) (by first | rfl | assumption) (by rfl) (Nat.le_of_ble_eq_true rfl) ?_
      refine s_isOf4 n hn5 hn (fun b2 => ?_) (fun b2 => ?_)
      · refine Zw_if_eq 35 dX11_set_18 (by decide) (fun c => absurd c (by decide)) (fun _ => ?_)
        refine Zw_iload_3 dX11_set_21 ?_
        refine Zw_i2l dX11_set_22 ?_
        refine Zw_lconst (v := 0) dX11_set_23 (by decide) ?_
        refine Zw_iload_1 dX11_set_24 ?_
        refine Zw_S1 (k := 0) lm_X11_95 dX11_set_25 (by decide) (Nat.le_of_ble_eq_true rfl) ?_
        refine s_mostOf4 ?_
        refine Zw_i2l dX11_set_28 ?_
        refine Zw_S3 (k := 0) lm_X11_76 dX11_set_29 (by decide) (Nat.le_of_ble_eq_true rfl) ?_
        refine s_in0 10 (by decide) (fun b3 => ?_) (fun b3 => ?_)
        · refine Zw_if_ne 38 dX11_set_32 (by decide) (fun _ => ?_) (fun c => absurd c (by decide))
          exact absurd ⟨b1, b3, Or.inr b2⟩ hbad
        · refine Zw_if_ne 38 dX11_set_32 (by decide) (fun c => absurd c (by decide)) (fun _ => ?_)
          refine Zw_bipush (v := (-2)) dX11_set_35 (by decide) ?_
          refine Zw_ireturn dX11_set_37 (by first | rfl | assumption) ?_
          exact h
      · refine Zw_if_eq 35 dX11_set_18 (by decide) (fun _ => ?_) (fun c => absurd c (by decide))
        refine Zw_bipush (v := (-2)) dX11_set_35 (by decide) ?_
        refine Zw_ireturn dX11_set_37 (by first | rfl | assumption) ?_
        exact h
    | 5, _ =>
      refine Zw_aload_0 dX11_set_12 ?_
      refine Zw_iload_1 dX11_set_13 ?_
      refine Zw_iload_2 dX11_set_14 ?_
      refine Zw_V2 (k := 2) lm_X11_91 dX11_set_15 (by decide) (by first | decide | assumption | omega) (by first | rfl | assumption) (by rfl) (Nat.le_of_ble_eq_true rfl) ?_
      refine s_isOf5 n hn5 hn (fun b2 => ?_) (fun b2 => ?_)
      · refine Zw_if_eq 35 dX11_set_18 (by decide) (fun c => absurd c (by decide)) (fun _ => ?_)
        refine Zw_iload_3 dX11_set_21 ?_
        refine Zw_i2l dX11_set_22 ?_
        refine Zw_lconst (v := 0) dX11_set_23 (by decide) ?_
        refine Zw_iload_1 dX11_set_24 ?_
        refine Zw_S1 (k := 0) lm_X11_95 dX11_set_25 (by decide) (Nat.le_of_ble_eq_true rfl) ?_
        refine s_mostOf5 ?_
        refine Zw_i2l dX11_set_28 ?_
        refine Zw_S3 (k := 0) lm_X11_76 dX11_set_29 (by decide) (Nat.le_of_ble_eq_true rfl) ?_
        refine s_in0 8 (by decide) (fun b3 => ?_) (fun b3 => ?_)
        · refine Zw_if_ne 38 dX11_set_32 (by decide) (fun _ => ?_) (fun c => absurd c (by decide))
          exact absurd ⟨b1, b3, Or.inr b2⟩ hbad
        · refine Zw_if_ne 38 dX11_set_32 (by decide) (fun c => absurd c (by decide)) (fun _ => ?_)
          refine Zw_bipush (v := (-2)) dX11_set_35 (by decide) ?_
          refine Zw_ireturn dX11_set_37 (by first | rfl | assumption) ?_
          exact h
      · refine Zw_if_eq 35 dX11_set_18 (by decide) (fun _ => ?_) (fun c => absurd c (by decide))
        refine Zw_bipush (v := (-2)) dX11_set_35 (by decide) ?_
        refine Zw_ireturn dX11_set_37 (by first | rfl | assumption) ?_
        exact h
    | n + 6, hc => exact absurd hc (by omega)
  · refine Zw_if_eq 35 dX11_set_9 (by decide) (fun _ => ?_) (fun c => absurd c (by decide))
    refine Zw_bipush (v := (-2)) dX11_set_35 (by decide) ?_
    refine Zw_ireturn dX11_set_37 (by first | rfl | assumption) ?_
    exact h
set_option maxRecDepth 20000 in
theorem s_mset0 {of v : Int32} {Q : zQ} {μ : zMu} {τ : Int64} (hv : vp_in v 1000) (h : Q (some (.int (μ 65 0))) (zup μ 65 0 v) τ) : Zc 46 yX11_set cX11_set 5 (some .int) [.ref 61, .int 0, .int of, .int v] μ τ Q := by
  refine Zc.mk 1 [.ref 61, .int 0, .int of, .int v, .null] rfl (by decide) (Nat.le_of_ble_eq_true rfl) ?_
  refine Zw_iload_1 dX11_set_0 ?_
  refine Zw_i2l dX11_set_1 ?_
  refine Zw_lconst (v := 0) dX11_set_2 (by decide) ?_
  refine Zw_ldc2 dX11_set_3 zw28 ?_
  refine Zw_S3 (k := 0) lm_X11_76 dX11_set_6 (by decide) (Nat.le_of_ble_eq_true rfl) ?_
  refine s_in0 6 (by decide) (fun _ => ?_) (fun a0 => absurd (by unfold vp_in; decide) a0)
  refine Zw_if_eq 35 dX11_set_9 (by decide) (fun c => absurd c (by decide)) (fun _ => ?_)
  refine Zw_aload_0 dX11_set_12 ?_
  refine Zw_iload_1 dX11_set_13 ?_
  refine Zw_iload_2 dX11_set_14 ?_
  refine Zw_V2 (k := 2) lm_X11_91 dX11_set_15 (by decide) (by first | decide | assumption | omega) (by first | rfl | assumption) (by rfl) (Nat.le_of_ble_eq_true rfl) ?_
  refine s_isOf0 ?_
  refine Zw_if_eq 35 dX11_set_18 (by decide) (fun c => absurd c (by decide)) (fun _ => ?_)
  refine Zw_iload_3 dX11_set_21 ?_
  refine Zw_i2l dX11_set_22 ?_
  refine Zw_lconst (v := 0) dX11_set_23 (by decide) ?_
  refine Zw_iload_1 dX11_set_24 ?_
  refine Zw_S1 (k := 0) lm_X11_95 dX11_set_25 (by decide) (Nat.le_of_ble_eq_true rfl) ?_
  refine s_mostOf0 ?_
  refine Zw_i2l dX11_set_28 ?_
  refine Zw_S3 (k := 0) lm_X11_76 dX11_set_29 (by decide) (Nat.le_of_ble_eq_true rfl) ?_
  refine s_in0 1000 (by decide) (fun _ => ?_) (fun a0 => absurd hv a0)
  refine Zw_if_ne 38 dX11_set_32 (by decide) (fun _ => ?_) (fun c => absurd c (by decide))
  refine Zw_aload_0 dX11_set_38 ?_
  refine Zw_iload_2 dX11_set_39 ?_
  refine Zw_iload_1 dX11_set_40 ?_
  refine Zw_V2 (k := 45) lm_X11_99 dX11_set_41 (by decide) (by first | decide | assumption | omega) (by first | rfl | assumption) (by rfl) (Nat.le_of_ble_eq_true rfl) ?_
  refine s_mtold0 ?_
  refine Zw_istore_4 dX11_set_44 rfl ?_
  refine Zw_aload_0 dX11_set_46 ?_
  refine Zw_iload_1 dX11_set_47 ?_
  refine Zw_iload_2 dX11_set_48 ?_
  refine Zw_iload_3 dX11_set_49 ?_
  refine Zw_V3 (k := 0) lm_X11_103 dX11_set_50 (by decide) (by first | decide | assumption | omega) (by first | rfl | assumption) (by rfl) (Nat.le_of_ble_eq_true rfl) ?_
  refine s_lays0 ?_
  refine Zw_iload_4 dX11_set_53 ?_
  refine Zw_ireturn dX11_set_55 (by first | rfl | assumption) ?_
  exact h
set_option maxRecDepth 20000 in
theorem s_mset1 {of v : Int32} {Q : zQ} {μ : zMu} {τ : Int64} (hv : vp_in v 10) (h : Q (some (.int (μ 65 1))) (zup μ 65 1 v) τ) : Zc 46 yX11_set cX11_set 5 (some .int) [.ref 61, .int 1, .int of, .int v] μ τ Q := by
  refine Zc.mk 1 [.ref 61, .int 1, .int of, .int v, .null] rfl (by decide) (Nat.le_of_ble_eq_true rfl) ?_
  refine Zw_iload_1 dX11_set_0 ?_
  refine Zw_i2l dX11_set_1 ?_
  refine Zw_lconst (v := 0) dX11_set_2 (by decide) ?_
  refine Zw_ldc2 dX11_set_3 zw28 ?_
  refine Zw_S3 (k := 0) lm_X11_76 dX11_set_6 (by decide) (Nat.le_of_ble_eq_true rfl) ?_
  refine s_in0 6 (by decide) (fun _ => ?_) (fun a0 => absurd (by unfold vp_in; decide) a0)
  refine Zw_if_eq 35 dX11_set_9 (by decide) (fun c => absurd c (by decide)) (fun _ => ?_)
  refine Zw_aload_0 dX11_set_12 ?_
  refine Zw_iload_1 dX11_set_13 ?_
  refine Zw_iload_2 dX11_set_14 ?_
  refine Zw_V2 (k := 2) lm_X11_91 dX11_set_15 (by decide) (by first | decide | assumption | omega) (by first | rfl | assumption) (by rfl) (Nat.le_of_ble_eq_true rfl) ?_
  refine s_isOf1 ?_
  refine Zw_if_eq 35 dX11_set_18 (by decide) (fun c => absurd c (by decide)) (fun _ => ?_)
  refine Zw_iload_3 dX11_set_21 ?_
  refine Zw_i2l dX11_set_22 ?_
  refine Zw_lconst (v := 0) dX11_set_23 (by decide) ?_
  refine Zw_iload_1 dX11_set_24 ?_
  refine Zw_S1 (k := 0) lm_X11_95 dX11_set_25 (by decide) (Nat.le_of_ble_eq_true rfl) ?_
  refine s_mostOf1 ?_
  refine Zw_i2l dX11_set_28 ?_
  refine Zw_S3 (k := 0) lm_X11_76 dX11_set_29 (by decide) (Nat.le_of_ble_eq_true rfl) ?_
  refine s_in0 10 (by decide) (fun _ => ?_) (fun a0 => absurd hv a0)
  refine Zw_if_ne 38 dX11_set_32 (by decide) (fun _ => ?_) (fun c => absurd c (by decide))
  refine Zw_aload_0 dX11_set_38 ?_
  refine Zw_iload_2 dX11_set_39 ?_
  refine Zw_iload_1 dX11_set_40 ?_
  refine Zw_V2 (k := 45) lm_X11_99 dX11_set_41 (by decide) (by first | decide | assumption | omega) (by first | rfl | assumption) (by rfl) (Nat.le_of_ble_eq_true rfl) ?_
  refine s_mtold1 ?_
  refine Zw_istore_4 dX11_set_44 rfl ?_
  refine Zw_aload_0 dX11_set_46 ?_
  refine Zw_iload_1 dX11_set_47 ?_
  refine Zw_iload_2 dX11_set_48 ?_
  refine Zw_iload_3 dX11_set_49 ?_
  refine Zw_V3 (k := 0) lm_X11_103 dX11_set_50 (by decide) (by first | decide | assumption | omega) (by first | rfl | assumption) (by rfl) (Nat.le_of_ble_eq_true rfl) ?_
  refine s_lays1 ?_
  refine Zw_iload_4 dX11_set_53 ?_
  refine Zw_ireturn dX11_set_55 (by first | rfl | assumption) ?_
  exact h
set_option maxRecDepth 20000 in
theorem s_mset2 {of v : Int32} {Q : zQ} {μ : zMu} {τ : Int64} (hv : vp_in v 8) (h : Q (some (.int (μ 65 2))) (zup μ 65 2 v) τ) : Zc 46 yX11_set cX11_set 5 (some .int) [.ref 61, .int 2, .int of, .int v] μ τ Q := by
  refine Zc.mk 1 [.ref 61, .int 2, .int of, .int v, .null] rfl (by decide) (Nat.le_of_ble_eq_true rfl) ?_
  refine Zw_iload_1 dX11_set_0 ?_
  refine Zw_i2l dX11_set_1 ?_
  refine Zw_lconst (v := 0) dX11_set_2 (by decide) ?_
  refine Zw_ldc2 dX11_set_3 zw28 ?_
  refine Zw_S3 (k := 0) lm_X11_76 dX11_set_6 (by decide) (Nat.le_of_ble_eq_true rfl) ?_
  refine s_in0 6 (by decide) (fun _ => ?_) (fun a0 => absurd (by unfold vp_in; decide) a0)
  refine Zw_if_eq 35 dX11_set_9 (by decide) (fun c => absurd c (by decide)) (fun _ => ?_)
  refine Zw_aload_0 dX11_set_12 ?_
  refine Zw_iload_1 dX11_set_13 ?_
  refine Zw_iload_2 dX11_set_14 ?_
  refine Zw_V2 (k := 2) lm_X11_91 dX11_set_15 (by decide) (by first | decide | assumption | omega) (by first | rfl | assumption) (by rfl) (Nat.le_of_ble_eq_true rfl) ?_
  refine s_isOf2 ?_
  refine Zw_if_eq 35 dX11_set_18 (by decide) (fun c => absurd c (by decide)) (fun _ => ?_)
  refine Zw_iload_3 dX11_set_21 ?_
  refine Zw_i2l dX11_set_22 ?_
  refine Zw_lconst (v := 0) dX11_set_23 (by decide) ?_
  refine Zw_iload_1 dX11_set_24 ?_
  refine Zw_S1 (k := 0) lm_X11_95 dX11_set_25 (by decide) (Nat.le_of_ble_eq_true rfl) ?_
  refine s_mostOf2 ?_
  refine Zw_i2l dX11_set_28 ?_
  refine Zw_S3 (k := 0) lm_X11_76 dX11_set_29 (by decide) (Nat.le_of_ble_eq_true rfl) ?_
  refine s_in0 8 (by decide) (fun _ => ?_) (fun a0 => absurd hv a0)
  refine Zw_if_ne 38 dX11_set_32 (by decide) (fun _ => ?_) (fun c => absurd c (by decide))
  refine Zw_aload_0 dX11_set_38 ?_
  refine Zw_iload_2 dX11_set_39 ?_
  refine Zw_iload_1 dX11_set_40 ?_
  refine Zw_V2 (k := 45) lm_X11_99 dX11_set_41 (by decide) (by first | decide | assumption | omega) (by first | rfl | assumption) (by rfl) (Nat.le_of_ble_eq_true rfl) ?_
  refine s_mtold2 ?_
  refine Zw_istore_4 dX11_set_44 rfl ?_
  refine Zw_aload_0 dX11_set_46 ?_
  refine Zw_iload_1 dX11_set_47 ?_
  refine Zw_iload_2 dX11_set_48 ?_
  refine Zw_iload_3 dX11_set_49 ?_
  refine Zw_V3 (k := 0) lm_X11_103 dX11_set_50 (by decide) (by first | decide | assumption | omega) (by first | rfl | assumption) (by rfl) (Nat.le_of_ble_eq_true rfl) ?_
  refine s_lays2 ?_
  refine Zw_iload_4 dX11_set_53 ?_
  refine Zw_ireturn dX11_set_55 (by first | rfl | assumption) ?_
  exact h
set_option maxRecDepth 20000 in
theorem s_mset3 {of v : Int32} {Q : zQ} {μ : zMu} {τ : Int64} (hv : vp_in v 256) (h : Q (some (.int (μ 65 3))) (zup μ 65 3 v) τ) : Zc 46 yX11_set cX11_set 5 (some .int) [.ref 61, .int 3, .int of, .int v] μ τ Q := by
  refine Zc.mk 1 [.ref 61, .int 3, .int of, .int v, .null] rfl (by decide) (Nat.le_of_ble_eq_true rfl) ?_
  refine Zw_iload_1 dX11_set_0 ?_
  refine Zw_i2l dX11_set_1 ?_
  refine Zw_lconst (v := 0) dX11_set_2 (by decide) ?_
  refine Zw_ldc2 dX11_set_3 zw28 ?_
  refine Zw_S3 (k := 0) lm_X11_76 dX11_set_6 (by decide) (Nat.le_of_ble_eq_true rfl) ?_
  refine s_in0 6 (by decide) (fun _ => ?_) (fun a0 => absurd (by unfold vp_in; decide) a0)
  refine Zw_if_eq 35 dX11_set_9 (by decide) (fun c => absurd c (by decide)) (fun _ => ?_)
  refine Zw_aload_0 dX11_set_12 ?_
  refine Zw_iload_1 dX11_set_13 ?_
  refine Zw_iload_2 dX11_set_14 ?_
  refine Zw_V2 (k := 2) lm_X11_91 dX11_set_15 (by decide) (by first | decide | assumption | omega) (by first | rfl | assumption) (by rfl) (Nat.le_of_ble_eq_true rfl) ?_
  refine s_isOf3 ?_
  refine Zw_if_eq 35 dX11_set_18 (by decide) (fun c => absurd c (by decide)) (fun _ => ?_)
  refine Zw_iload_3 dX11_set_21 ?_
  refine Zw_i2l dX11_set_22 ?_
  refine Zw_lconst (v := 0) dX11_set_23 (by decide) ?_
  refine Zw_iload_1 dX11_set_24 ?_
  refine Zw_S1 (k := 0) lm_X11_95 dX11_set_25 (by decide) (Nat.le_of_ble_eq_true rfl) ?_
  refine s_mostOf3 ?_
  refine Zw_i2l dX11_set_28 ?_
  refine Zw_S3 (k := 0) lm_X11_76 dX11_set_29 (by decide) (Nat.le_of_ble_eq_true rfl) ?_
  refine s_in0 256 (by decide) (fun _ => ?_) (fun a0 => absurd hv a0)
  refine Zw_if_ne 38 dX11_set_32 (by decide) (fun _ => ?_) (fun c => absurd c (by decide))
  refine Zw_aload_0 dX11_set_38 ?_
  refine Zw_iload_2 dX11_set_39 ?_
  refine Zw_iload_1 dX11_set_40 ?_
  refine Zw_V2 (k := 45) lm_X11_99 dX11_set_41 (by decide) (by first | decide | assumption | omega) (by first | rfl | assumption) (by rfl) (Nat.le_of_ble_eq_true rfl) ?_
  refine s_mtold3 ?_
  refine Zw_istore_4 dX11_set_44 rfl ?_
  refine Zw_aload_0 dX11_set_46 ?_
  refine Zw_iload_1 dX11_set_47 ?_
  refine Zw_iload_2 dX11_set_48 ?_
  refine Zw_iload_3 dX11_set_49 ?_
  refine Zw_V3 (k := 0) lm_X11_103 dX11_set_50 (by decide) (by first | decide | assumption | omega) (by first | rfl | assumption) (by rfl) (Nat.le_of_ble_eq_true rfl) ?_
  refine s_lays3 ?_
  refine Zw_iload_4 dX11_set_53 ?_
  refine Zw_ireturn dX11_set_55 (by first | rfl | assumption) ?_
  exact h
set_option maxRecDepth 20000 in
theorem s_mset4 {f : Nat} {v : Int32} {Q : zQ} {μ : zMu} {τ : Int64} (n : Nat) (hn5 : n ≤ 5) (hn : μ 61 11 = nI n) (hf : f < n) (hv : vp_in v 10) (h : Q (some (.int (μ 68 (3 * f + 0)))) (zup μ 68 (3 * f + 0) v) τ) : Zc 46 yX11_set cX11_set 5 (some .int) [.ref 61, .int 4, .int (nI f), .int v] μ τ Q := by
  refine Zc.mk 1 [.ref 61, .int 4, .int (nI f), .int v, .null] rfl (by decide) (Nat.le_of_ble_eq_true rfl) ?_
  refine Zw_iload_1 dX11_set_0 ?_
  refine Zw_i2l dX11_set_1 ?_
  refine Zw_lconst (v := 0) dX11_set_2 (by decide) ?_
  refine Zw_ldc2 dX11_set_3 zw28 ?_
  refine Zw_S3 (k := 0) lm_X11_76 dX11_set_6 (by decide) (Nat.le_of_ble_eq_true rfl) ?_
  refine s_in0 6 (by decide) (fun _ => ?_) (fun a0 => absurd (by unfold vp_in; decide) a0)
  refine Zw_if_eq 35 dX11_set_9 (by decide) (fun c => absurd c (by decide)) (fun _ => ?_)
  refine Zw_aload_0 dX11_set_12 ?_
  refine Zw_iload_1 dX11_set_13 ?_
  refine Zw_iload_2 dX11_set_14 ?_
  refine Zw_V2 (k := 2) lm_X11_91 dX11_set_15 (by decide) (by first | decide | assumption | omega) (by first | rfl | assumption) (by rfl) (Nat.le_of_ble_eq_true rfl) ?_
  refine s_isOf4 n hn5 hn (fun _ => ?_) (fun a0 => absurd (vp_in_nI hf (by omega)) a0)
  refine Zw_if_eq 35 dX11_set_18 (by decide) (fun c => absurd c (by decide)) (fun _ => ?_)
  refine Zw_iload_3 dX11_set_21 ?_
  refine Zw_i2l dX11_set_22 ?_
  refine Zw_lconst (v := 0) dX11_set_23 (by decide) ?_
  refine Zw_iload_1 dX11_set_24 ?_
  refine Zw_S1 (k := 0) lm_X11_95 dX11_set_25 (by decide) (Nat.le_of_ble_eq_true rfl) ?_
  refine s_mostOf4 ?_
  refine Zw_i2l dX11_set_28 ?_
  refine Zw_S3 (k := 0) lm_X11_76 dX11_set_29 (by decide) (Nat.le_of_ble_eq_true rfl) ?_
  refine s_in0 10 (by decide) (fun _ => ?_) (fun a0 => absurd hv a0)
  refine Zw_if_ne 38 dX11_set_32 (by decide) (fun _ => ?_) (fun c => absurd c (by decide))
  refine Zw_aload_0 dX11_set_38 ?_
  refine Zw_iload_2 dX11_set_39 ?_
  refine Zw_iload_1 dX11_set_40 ?_
  refine Zw_V2 (k := 45) lm_X11_99 dX11_set_41 (by decide) (by first | decide | assumption | omega) (by first | rfl | assumption) (by rfl) (Nat.le_of_ble_eq_true rfl) ?_
  refine s_mtold4 n hn5 hn hf ?_
  refine Zw_istore_4 dX11_set_44 rfl ?_
  refine Zw_aload_0 dX11_set_46 ?_
  refine Zw_iload_1 dX11_set_47 ?_
  refine Zw_iload_2 dX11_set_48 ?_
  refine Zw_iload_3 dX11_set_49 ?_
  refine Zw_V3 (k := 0) lm_X11_103 dX11_set_50 (by decide) (by first | decide | assumption | omega) (by first | rfl | assumption) (by rfl) (Nat.le_of_ble_eq_true rfl) ?_
  refine s_lays4 (by omega) ?_
  refine Zw_iload_4 dX11_set_53 ?_
  refine Zw_ireturn dX11_set_55 (by first | rfl | assumption) ?_
  exact h
set_option maxRecDepth 20000 in
theorem s_mset5 {f : Nat} {v : Int32} {Q : zQ} {μ : zMu} {τ : Int64} (n : Nat) (hn5 : n ≤ 5) (hn : μ 61 11 = nI n) (hf : f < n) (hv : vp_in v 8) (h : Q (some (.int (μ 68 (3 * f + 1)))) (zup μ 68 (3 * f + 1) v) τ) : Zc 46 yX11_set cX11_set 5 (some .int) [.ref 61, .int 5, .int (nI f), .int v] μ τ Q := by
  refine Zc.mk 1 [.ref 61, .int 5, .int (nI f), .int v, .null] rfl (by decide) (Nat.le_of_ble_eq_true rfl) ?_
  refine Zw_iload_1 dX11_set_0 ?_
  refine Zw_i2l dX11_set_1 ?_
  refine Zw_lconst (v := 0) dX11_set_2 (by decide) ?_
  refine Zw_ldc2 dX11_set_3 zw28 ?_
  refine Zw_S3 (k := 0) lm_X11_76 dX11_set_6 (by decide) (Nat.le_of_ble_eq_true rfl) ?_
  refine s_in0 6 (by decide) (fun _ => ?_) (fun a0 => absurd (by unfold vp_in; decide) a0)
  refine Zw_if_eq 35 dX11_set_9 (by decide) (fun c => absurd c (by decide)) (fun _ => ?_)
  refine Zw_aload_0 dX11_set_12 ?_
  refine Zw_iload_1 dX11_set_13 ?_
  refine Zw_iload_2 dX11_set_14 ?_
  refine Zw_V2 (k := 2) lm_X11_91 dX11_set_15 (by decide) (by first | decide | assumption | omega) (by first | rfl | assumption) (by rfl) (Nat.le_of_ble_eq_true rfl) ?_
  refine s_isOf5 n hn5 hn (fun _ => ?_) (fun a0 => absurd (vp_in_nI hf (by omega)) a0)
  refine Zw_if_eq 35 dX11_set_18 (by decide) (fun c => absurd c (by decide)) (fun _ => ?_)
  refine Zw_iload_3 dX11_set_21 ?_
  refine Zw_i2l dX11_set_22 ?_
  refine Zw_lconst (v := 0) dX11_set_23 (by decide) ?_
  refine Zw_iload_1 dX11_set_24 ?_
  refine Zw_S1 (k := 0) lm_X11_95 dX11_set_25 (by decide) (Nat.le_of_ble_eq_true rfl) ?_
  refine s_mostOf5 ?_
  refine Zw_i2l dX11_set_28 ?_
  refine Zw_S3 (k := 0) lm_X11_76 dX11_set_29 (by decide) (Nat.le_of_ble_eq_true rfl) ?_
  refine s_in0 8 (by decide) (fun _ => ?_) (fun a0 => absurd hv a0)
  refine Zw_if_ne 38 dX11_set_32 (by decide) (fun _ => ?_) (fun c => absurd c (by decide))
  refine Zw_aload_0 dX11_set_38 ?_
  refine Zw_iload_2 dX11_set_39 ?_
  refine Zw_iload_1 dX11_set_40 ?_
  refine Zw_V2 (k := 45) lm_X11_99 dX11_set_41 (by decide) (by first | decide | assumption | omega) (by first | rfl | assumption) (by rfl) (Nat.le_of_ble_eq_true rfl) ?_
  refine s_mtold5 n hn5 hn hf ?_
  refine Zw_istore_4 dX11_set_44 rfl ?_
  refine Zw_aload_0 dX11_set_46 ?_
  refine Zw_iload_1 dX11_set_47 ?_
  refine Zw_iload_2 dX11_set_48 ?_
  refine Zw_iload_3 dX11_set_49 ?_
  refine Zw_V3 (k := 0) lm_X11_103 dX11_set_50 (by decide) (by first | decide | assumption | omega) (by first | rfl | assumption) (by rfl) (Nat.le_of_ble_eq_true rfl) ?_
  refine s_lays5 (by omega) ?_
  refine Zw_iload_4 dX11_set_53 ?_
  refine Zw_ireturn dX11_set_55 (by first | rfl | assumption) ?_
  exact h
set_option maxRecDepth 20000 in
theorem s_laysLane0 {a b : Nat} {Q : zQ} {μ : zMu} {τ : Int64} (ha : a < 8) (hb : b < 8) (hab : b ≠ a) (h : Q none (zup (zup μ 66 a (μ 66 a &&& ((1 <<< (nI b &&& 31)) ^^^ (-1)))) 66 b (μ 66 b &&& ((1 <<< (nI a &&& 31)) ^^^ (-1)))) τ) : Zc 0 yX11_laysLane cX11_laysLane 4 none [.ref 61, .int (nI a), .int (nI b), .int 0] μ τ Q := by
  refine Zc.mk 0 [.ref 61, .int (nI a), .int (nI b), .int 0] rfl (by decide) (Nat.le_of_ble_eq_true rfl) ?_
  refine Zw_aload_0 dX11_laysLane_0 ?_
  refine Zw_getr 66 lf_X11_26 dX11_laysLane_1 (by first | decide | assumption | omega) (by first | rfl | assumption) (by rfl) ?_
  refine Zw_iload_1 dX11_laysLane_4 ?_
  refine Zw_aload_0 dX11_laysLane_5 ?_
  refine Zw_getr 66 lf_X11_26 dX11_laysLane_6 (by first | decide | assumption | omega) (by first | rfl | assumption) (by rfl) ?_
  refine Zw_iload_1 dX11_laysLane_9 ?_
  refine Zw_ialdn (a) dX11_laysLane_10 (by first | decide | assumption | omega) (by first | rfl | assumption) rfl (by omega) (by decide) ?_
  refine Zw_iconst (v := 1) dX11_laysLane_11 (by decide) ?_
  refine Zw_iload_2 dX11_laysLane_12 ?_
  refine Zw_ishl dX11_laysLane_13 ?_
  refine Zw_iconst (v := (-1)) dX11_laysLane_14 (by decide) ?_
  refine Zw_ixor dX11_laysLane_15 ?_
  refine Zw_iand dX11_laysLane_16 ?_
  refine Zw_iload_3 dX11_laysLane_17 ?_
  refine Zw_iload_2 dX11_laysLane_18 ?_
  refine Zw_ishl dX11_laysLane_19 ?_
  refine Zw_ior dX11_laysLane_20 ?_
  refine Zw_iastn (a) dX11_laysLane_21 (by first | decide | assumption | omega) (by first | rfl | assumption) rfl (by omega) (by decide) ?_
  refine Zw_aload_0 dX11_laysLane_22 ?_
  refine Zw_getr 66 lf_X11_26 dX11_laysLane_23 (by first | decide | assumption | omega) (by first | rfl | assumption) (by rfl) ?_
  refine Zw_iload_2 dX11_laysLane_26 ?_
  refine Zw_aload_0 dX11_laysLane_27 ?_
  refine Zw_getr 66 lf_X11_26 dX11_laysLane_28 (by first | decide | assumption | omega) (by first | rfl | assumption) (by rfl) ?_
  refine Zw_iload_2 dX11_laysLane_31 ?_
  refine Zw_ialdnv (b) (μ 66 b) dX11_laysLane_32 (by first | decide | assumption | omega) (by first | rfl | assumption) rfl (by omega) (by decide) (by rw [zup_at, if_neg (by simp [hab])]) ?_
  refine Zw_iconst (v := 1) dX11_laysLane_33 (by decide) ?_
  refine Zw_iload_1 dX11_laysLane_34 ?_
  refine Zw_ishl dX11_laysLane_35 ?_
  refine Zw_iconst (v := (-1)) dX11_laysLane_36 (by decide) ?_
  refine Zw_ixor dX11_laysLane_37 ?_
  refine Zw_iand dX11_laysLane_38 ?_
  refine Zw_iload_3 dX11_laysLane_39 ?_
  refine Zw_iload_1 dX11_laysLane_40 ?_
  refine Zw_ishl dX11_laysLane_41 ?_
  refine Zw_ior dX11_laysLane_42 ?_
  refine Zw_iastn (b) dX11_laysLane_43 (by first | decide | assumption | omega) (by first | rfl | assumption) rfl (by omega) (by decide) ?_
  refine Zw_return dX11_laysLane_44 ?_
  rw [shl0 b (by omega), shl0 a (by omega), or_0, or_0]
  exact h
set_option maxRecDepth 20000 in
theorem s_mlane0 {a b : Nat} {Q : zQ} {μ : zMu} {τ : Int64} (ha : a < 8) (hb : b < 8) (hab : b ≠ a) (h : Q (some (.int ((μ 66 a >>> (nI b &&& 31)) &&& 1))) (zup (zup μ 66 a (μ 66 a &&& ((1 <<< (nI b &&& 31)) ^^^ (-1)))) 66 b (μ 66 b &&& ((1 <<< (nI a &&& 31)) ^^^ (-1)))) τ) : Zc 2 yX11_lane cX11_lane 5 (some .int) [.ref 61, .int (nI a), .int (nI b), .int 0] μ τ Q := by
  refine Zc.mk 1 [.ref 61, .int (nI a), .int (nI b), .int 0, .null] rfl (by decide) (Nat.le_of_ble_eq_true rfl) ?_
  refine Zw_iload_1 dX11_lane_0 ?_
  refine Zw_S1 (k := 1) lm_X11_82 dX11_lane_1 (by decide) (Nat.le_of_ble_eq_true rfl) ?_
  refine s_isPlace (fun _ => ?_) (fun a0 => absurd (vp_in_nI ha (by omega)) a0)
  refine Zw_if_eq 29 dX11_lane_4 (by decide) (fun c => absurd c (by decide)) (fun _ => ?_)
  refine Zw_iload_2 dX11_lane_7 ?_
  refine Zw_S1 (k := 1) lm_X11_82 dX11_lane_8 (by decide) (Nat.le_of_ble_eq_true rfl) ?_
  refine s_isPlace (fun _ => ?_) (fun a0 => absurd (vp_in_nI hb (by omega)) a0)
  refine Zw_if_eq 29 dX11_lane_11 (by decide) (fun c => absurd c (by decide)) (fun _ => ?_)
  refine Zw_iload_1 dX11_lane_14 ?_
  refine Zw_iload_2 dX11_lane_15 ?_
  refine Zw_icmp_eq 29 dX11_lane_16 (by decide) (fun c16 => absurd c16 (fun e => hab ((nI_eq (by omega) (by omega)).mp e).symm)) (fun c16 => ?_)
  refine Zw_iload_3 dX11_lane_19 ?_
  refine Zw_i2l dX11_lane_20 ?_
  refine Zw_lconst (v := 0) dX11_lane_21 (by decide) ?_
  refine Zw_lconst (v := 1) dX11_lane_22 (by decide) ?_
  refine Zw_S3 (k := 0) lm_X11_76 dX11_lane_23 (by decide) (Nat.le_of_ble_eq_true rfl) ?_
  refine s_in0 2 (by decide) (fun _ => ?_) (fun a0 => absurd (by unfold vp_in; decide) a0)
  refine Zw_if_ne 32 dX11_lane_26 (by decide) (fun _ => ?_) (fun c => absurd c (by decide))
  refine Zw_aload_0 dX11_lane_32 ?_
  refine Zw_getr 66 lf_X11_26 dX11_lane_33 (by first | decide | assumption | omega) (by first | rfl | assumption) (by rfl) ?_
  refine Zw_iload_1 dX11_lane_36 ?_
  refine Zw_ialdn (a) dX11_lane_37 (by first | decide | assumption | omega) (by first | rfl | assumption) rfl (by omega) (by decide) ?_
  refine Zw_iload_2 dX11_lane_38 ?_
  refine Zw_ishr dX11_lane_39 ?_
  refine Zw_iconst (v := 1) dX11_lane_40 (by decide) ?_
  refine Zw_iand dX11_lane_41 ?_
  refine Zw_istore_4 dX11_lane_42 rfl ?_
  refine Zw_aload_0 dX11_lane_44 ?_
  refine Zw_iload_1 dX11_lane_45 ?_
  refine Zw_iload_2 dX11_lane_46 ?_
  refine Zw_iload_3 dX11_lane_47 ?_
  refine Zw_V3 (k := 0) lm_X11_110 dX11_lane_48 (by decide) (by first | decide | assumption | omega) (by first | rfl | assumption) (by rfl) (Nat.le_of_ble_eq_true rfl) ?_
  refine s_laysLane0 ha hb hab ?_
  refine Zw_iload_4 dX11_lane_51 ?_
  refine Zw_ireturn dX11_lane_53 (by first | rfl | assumption) ?_
  exact h
set_option maxRecDepth 20000 in
theorem s_laysLane1 {a b : Nat} {Q : zQ} {μ : zMu} {τ : Int64} (ha : a < 8) (hb : b < 8) (hab : b ≠ a) (h : Q none (zup (zup μ 66 a (μ 66 a ||| (1 <<< (nI b &&& 31)))) 66 b (μ 66 b ||| (1 <<< (nI a &&& 31)))) τ) : Zc 0 yX11_laysLane cX11_laysLane 4 none [.ref 61, .int (nI a), .int (nI b), .int 1] μ τ Q := by
  refine Zc.mk 0 [.ref 61, .int (nI a), .int (nI b), .int 1] rfl (by decide) (Nat.le_of_ble_eq_true rfl) ?_
  refine Zw_aload_0 dX11_laysLane_0 ?_
  refine Zw_getr 66 lf_X11_26 dX11_laysLane_1 (by first | decide | assumption | omega) (by first | rfl | assumption) (by rfl) ?_
  refine Zw_iload_1 dX11_laysLane_4 ?_
  refine Zw_aload_0 dX11_laysLane_5 ?_
  refine Zw_getr 66 lf_X11_26 dX11_laysLane_6 (by first | decide | assumption | omega) (by first | rfl | assumption) (by rfl) ?_
  refine Zw_iload_1 dX11_laysLane_9 ?_
  refine Zw_ialdn (a) dX11_laysLane_10 (by first | decide | assumption | omega) (by first | rfl | assumption) rfl (by omega) (by decide) ?_
  refine Zw_iconst (v := 1) dX11_laysLane_11 (by decide) ?_
  refine Zw_iload_2 dX11_laysLane_12 ?_
  refine Zw_ishl dX11_laysLane_13 ?_
  refine Zw_iconst (v := (-1)) dX11_laysLane_14 (by decide) ?_
  refine Zw_ixor dX11_laysLane_15 ?_
  refine Zw_iand dX11_laysLane_16 ?_
  refine Zw_iload_3 dX11_laysLane_17 ?_
  refine Zw_iload_2 dX11_laysLane_18 ?_
  refine Zw_ishl dX11_laysLane_19 ?_
  refine Zw_ior dX11_laysLane_20 ?_
  refine Zw_iastn (a) dX11_laysLane_21 (by first | decide | assumption | omega) (by first | rfl | assumption) rfl (by omega) (by decide) ?_
  refine Zw_aload_0 dX11_laysLane_22 ?_
  refine Zw_getr 66 lf_X11_26 dX11_laysLane_23 (by first | decide | assumption | omega) (by first | rfl | assumption) (by rfl) ?_
  refine Zw_iload_2 dX11_laysLane_26 ?_
  refine Zw_aload_0 dX11_laysLane_27 ?_
  refine Zw_getr 66 lf_X11_26 dX11_laysLane_28 (by first | decide | assumption | omega) (by first | rfl | assumption) (by rfl) ?_
  refine Zw_iload_2 dX11_laysLane_31 ?_
  refine Zw_ialdnv (b) (μ 66 b) dX11_laysLane_32 (by first | decide | assumption | omega) (by first | rfl | assumption) rfl (by omega) (by decide) (by rw [zup_at, if_neg (by simp [hab])]) ?_
  refine Zw_iconst (v := 1) dX11_laysLane_33 (by decide) ?_
  refine Zw_iload_1 dX11_laysLane_34 ?_
  refine Zw_ishl dX11_laysLane_35 ?_
  refine Zw_iconst (v := (-1)) dX11_laysLane_36 (by decide) ?_
  refine Zw_ixor dX11_laysLane_37 ?_
  refine Zw_iand dX11_laysLane_38 ?_
  refine Zw_iload_3 dX11_laysLane_39 ?_
  refine Zw_iload_1 dX11_laysLane_40 ?_
  refine Zw_ishl dX11_laysLane_41 ?_
  refine Zw_ior dX11_laysLane_42 ?_
  refine Zw_iastn (b) dX11_laysLane_43 (by first | decide | assumption | omega) (by first | rfl | assumption) rfl (by omega) (by decide) ?_
  refine Zw_return dX11_laysLane_44 ?_
  rw [or_m, or_m]
  exact h
set_option maxRecDepth 20000 in
theorem s_mlane1 {a b : Nat} {Q : zQ} {μ : zMu} {τ : Int64} (ha : a < 8) (hb : b < 8) (hab : b ≠ a) (h : Q (some (.int ((μ 66 a >>> (nI b &&& 31)) &&& 1))) (zup (zup μ 66 a (μ 66 a ||| (1 <<< (nI b &&& 31)))) 66 b (μ 66 b ||| (1 <<< (nI a &&& 31)))) τ) : Zc 2 yX11_lane cX11_lane 5 (some .int) [.ref 61, .int (nI a), .int (nI b), .int 1] μ τ Q := by
  refine Zc.mk 1 [.ref 61, .int (nI a), .int (nI b), .int 1, .null] rfl (by decide) (Nat.le_of_ble_eq_true rfl) ?_
  refine Zw_iload_1 dX11_lane_0 ?_
  refine Zw_S1 (k := 1) lm_X11_82 dX11_lane_1 (by decide) (Nat.le_of_ble_eq_true rfl) ?_
  refine s_isPlace (fun _ => ?_) (fun a0 => absurd (vp_in_nI ha (by omega)) a0)
  refine Zw_if_eq 29 dX11_lane_4 (by decide) (fun c => absurd c (by decide)) (fun _ => ?_)
  refine Zw_iload_2 dX11_lane_7 ?_
  refine Zw_S1 (k := 1) lm_X11_82 dX11_lane_8 (by decide) (Nat.le_of_ble_eq_true rfl) ?_
  refine s_isPlace (fun _ => ?_) (fun a0 => absurd (vp_in_nI hb (by omega)) a0)
  refine Zw_if_eq 29 dX11_lane_11 (by decide) (fun c => absurd c (by decide)) (fun _ => ?_)
  refine Zw_iload_1 dX11_lane_14 ?_
  refine Zw_iload_2 dX11_lane_15 ?_
  refine Zw_icmp_eq 29 dX11_lane_16 (by decide) (fun c16 => absurd c16 (fun e => hab ((nI_eq (by omega) (by omega)).mp e).symm)) (fun c16 => ?_)
  refine Zw_iload_3 dX11_lane_19 ?_
  refine Zw_i2l dX11_lane_20 ?_
  refine Zw_lconst (v := 0) dX11_lane_21 (by decide) ?_
  refine Zw_lconst (v := 1) dX11_lane_22 (by decide) ?_
  refine Zw_S3 (k := 0) lm_X11_76 dX11_lane_23 (by decide) (Nat.le_of_ble_eq_true rfl) ?_
  refine s_in0 2 (by decide) (fun _ => ?_) (fun a0 => absurd (by unfold vp_in; decide) a0)
  refine Zw_if_ne 32 dX11_lane_26 (by decide) (fun _ => ?_) (fun c => absurd c (by decide))
  refine Zw_aload_0 dX11_lane_32 ?_
  refine Zw_getr 66 lf_X11_26 dX11_lane_33 (by first | decide | assumption | omega) (by first | rfl | assumption) (by rfl) ?_
  refine Zw_iload_1 dX11_lane_36 ?_
  refine Zw_ialdn (a) dX11_lane_37 (by first | decide | assumption | omega) (by first | rfl | assumption) rfl (by omega) (by decide) ?_
  refine Zw_iload_2 dX11_lane_38 ?_
  refine Zw_ishr dX11_lane_39 ?_
  refine Zw_iconst (v := 1) dX11_lane_40 (by decide) ?_
  refine Zw_iand dX11_lane_41 ?_
  refine Zw_istore_4 dX11_lane_42 rfl ?_
  refine Zw_aload_0 dX11_lane_44 ?_
  refine Zw_iload_1 dX11_lane_45 ?_
  refine Zw_iload_2 dX11_lane_46 ?_
  refine Zw_iload_3 dX11_lane_47 ?_
  refine Zw_V3 (k := 0) lm_X11_110 dX11_lane_48 (by decide) (by first | decide | assumption | omega) (by first | rfl | assumption) (by rfl) (Nat.le_of_ble_eq_true rfl) ?_
  refine s_laysLane1 ha hb hab ?_
  refine Zw_iload_4 dX11_lane_51 ?_
  refine Zw_ireturn dX11_lane_53 (by first | rfl | assumption) ?_
  exact h
set_option maxRecDepth 20000 in
theorem s_mlaneB {one other on : Int32} {Q : zQ} {μ : zMu} {τ : Int64} (hbad : ¬ (vp_in one 8 ∧ vp_in other 8 ∧ one ≠ other ∧ vp_in on 2)) (h : Q (some (.int (-2))) μ τ) : Zc 2 yX11_lane cX11_lane 5 (some .int) [.ref 61, .int one, .int other, .int on] μ τ Q := by
  refine Zc.mk 1 [.ref 61, .int one, .int other, .int on, .null] rfl (by decide) (Nat.le_of_ble_eq_true rfl) ?_
  refine Zw_iload_1 dX11_lane_0 ?_
  refine Zw_S1 (k := 1) lm_X11_82 dX11_lane_1 (by decide) (Nat.le_of_ble_eq_true rfl) ?_
  refine s_isPlace (fun b1 => ?_) (fun b1 => ?_)
  · refine Zw_if_eq 29 dX11_lane_4 (by decide) (fun c => absurd c (by decide)) (fun _ => ?_)
    refine Zw_iload_2 dX11_lane_7 ?_
    refine Zw_S1 (k := 1) lm_X11_82 dX11_lane_8 (by decide) (Nat.le_of_ble_eq_true rfl) ?_
    refine s_isPlace (fun b2 => ?_) (fun b2 => ?_)
    · refine Zw_if_eq 29 dX11_lane_11 (by decide) (fun c => absurd c (by decide)) (fun _ => ?_)
      refine Zw_iload_1 dX11_lane_14 ?_
      refine Zw_iload_2 dX11_lane_15 ?_
      refine Zw_icmp_eq 29 dX11_lane_16 (by decide) (fun c16 => ?_) (fun c16 => ?_)
      · refine Zw_bipush (v := (-2)) dX11_lane_29 (by decide) ?_
        refine Zw_ireturn dX11_lane_31 (by first | rfl | assumption) ?_
        exact h
      · refine Zw_iload_3 dX11_lane_19 ?_
        refine Zw_i2l dX11_lane_20 ?_
        refine Zw_lconst (v := 0) dX11_lane_21 (by decide) ?_
        refine Zw_lconst (v := 1) dX11_lane_22 (by decide) ?_
        refine Zw_S3 (k := 0) lm_X11_76 dX11_lane_23 (by decide) (Nat.le_of_ble_eq_true rfl) ?_
        refine s_in0 2 (by decide) (fun b4 => ?_) (fun b4 => ?_)
        · refine Zw_if_ne 32 dX11_lane_26 (by decide) (fun _ => ?_) (fun c => absurd c (by decide))
          exact absurd ⟨b1, b2, c16, b4⟩ hbad
        · refine Zw_if_ne 32 dX11_lane_26 (by decide) (fun c => absurd c (by decide)) (fun _ => ?_)
          refine Zw_bipush (v := (-2)) dX11_lane_29 (by decide) ?_
          refine Zw_ireturn dX11_lane_31 (by first | rfl | assumption) ?_
          exact h
    · refine Zw_if_eq 29 dX11_lane_11 (by decide) (fun _ => ?_) (fun c => absurd c (by decide))
      refine Zw_bipush (v := (-2)) dX11_lane_29 (by decide) ?_
      refine Zw_ireturn dX11_lane_31 (by first | rfl | assumption) ?_
      exact h
  · refine Zw_if_eq 29 dX11_lane_4 (by decide) (fun _ => ?_) (fun c => absurd c (by decide))
    refine Zw_bipush (v := (-2)) dX11_lane_29 (by decide) ?_
    refine Zw_ireturn dX11_lane_31 (by first | rfl | assumption) ?_
    exact h
set_option maxRecDepth 20000 in
theorem s_mfinderB {kd nu on : Int32} {Q : zQ} {μ : zMu} {τ : Int64} (hbad : ¬ (vp_in kd 6 ∧ vp_in nu 10 ∧ vp_in on 8)) (h : Q (some (.int (-2))) μ τ) : Zc 2 yX11_finder cX11_finder 4 (some .int) [.ref 61, .int kd, .int nu, .int on] μ τ Q := by
  refine Zc.mk 0 [.ref 61, .int kd, .int nu, .int on] rfl (by decide) (Nat.le_of_ble_eq_true rfl) ?_
  refine Zw_iload_1 dX11_finder_0 ?_
  refine Zw_i2l dX11_finder_1 ?_
  refine Zw_lconst (v := 0) dX11_finder_2 (by decide) ?_
  refine Zw_ldc2 dX11_finder_3 zw28 ?_
  refine Zw_S3 (k := 0) lm_X11_76 dX11_finder_6 (by decide) (Nat.le_of_ble_eq_true rfl) ?_
  refine s_in0 6 (by decide) (fun b1 => ?_) (fun b1 => ?_)
  · refine Zw_if_eq 31 dX11_finder_9 (by decide) (fun c => absurd c (by decide)) (fun _ => ?_)
    refine Zw_iload_2 dX11_finder_12 ?_
    refine Zw_i2l dX11_finder_13 ?_
    refine Zw_lconst (v := 0) dX11_finder_14 (by decide) ?_
    refine Zw_ldc2 dX11_finder_15 zw10 ?_
    refine Zw_S3 (k := 0) lm_X11_76 dX11_finder_18 (by decide) (Nat.le_of_ble_eq_true rfl) ?_
    refine s_in0 10 (by decide) (fun b2 => ?_) (fun b2 => ?_)
    · refine Zw_if_eq 31 dX11_finder_21 (by decide) (fun c => absurd c (by decide)) (fun _ => ?_)
      refine Zw_iload_3 dX11_finder_24 ?_
      refine Zw_S1 (k := 1) lm_X11_82 dX11_finder_25 (by decide) (Nat.le_of_ble_eq_true rfl) ?_
      refine s_isPlace (fun b3 => ?_) (fun b3 => ?_)
      · refine Zw_if_ne 34 dX11_finder_28 (by decide) (fun _ => ?_) (fun c => absurd c (by decide))
        exact absurd ⟨b1, b2, b3⟩ hbad
      · refine Zw_if_ne 34 dX11_finder_28 (by decide) (fun c => absurd c (by decide)) (fun _ => ?_)
        refine Zw_bipush (v := (-2)) dX11_finder_31 (by decide) ?_
        refine Zw_ireturn dX11_finder_33 (by first | rfl | assumption) ?_
        exact h
    · refine Zw_if_eq 31 dX11_finder_21 (by decide) (fun _ => ?_) (fun c => absurd c (by decide))
      refine Zw_bipush (v := (-2)) dX11_finder_31 (by decide) ?_
      refine Zw_ireturn dX11_finder_33 (by first | rfl | assumption) ?_
      exact h
  · refine Zw_if_eq 31 dX11_finder_9 (by decide) (fun _ => ?_) (fun c => absurd c (by decide))
    refine Zw_bipush (v := (-2)) dX11_finder_31 (by decide) ?_
    refine Zw_ireturn dX11_finder_33 (by first | rfl | assumption) ?_
    exact h
set_option maxRecDepth 20000 in
theorem s_mfinderF {kd nu on : Int32} {Q : zQ} {μ : zMu} {τ : Int64} (hok : vp_in kd 6 ∧ vp_in nu 10 ∧ vp_in on 8) (hn : μ 61 11 = nI 5) (h : Q (some (.int (-4))) μ τ) : Zc 2 yX11_finder cX11_finder 4 (some .int) [.ref 61, .int kd, .int nu, .int on] μ τ Q := by
  refine Zc.mk 0 [.ref 61, .int kd, .int nu, .int on] rfl (by decide) (Nat.le_of_ble_eq_true rfl) ?_
  refine Zw_iload_1 dX11_finder_0 ?_
  refine Zw_i2l dX11_finder_1 ?_
  refine Zw_lconst (v := 0) dX11_finder_2 (by decide) ?_
  refine Zw_ldc2 dX11_finder_3 zw28 ?_
  refine Zw_S3 (k := 0) lm_X11_76 dX11_finder_6 (by decide) (Nat.le_of_ble_eq_true rfl) ?_
  refine s_in0 6 (by decide) (fun _ => ?_) (fun a0 => absurd hok.1 a0)
  refine Zw_if_eq 31 dX11_finder_9 (by decide) (fun c => absurd c (by decide)) (fun _ => ?_)
  refine Zw_iload_2 dX11_finder_12 ?_
  refine Zw_i2l dX11_finder_13 ?_
  refine Zw_lconst (v := 0) dX11_finder_14 (by decide) ?_
  refine Zw_ldc2 dX11_finder_15 zw10 ?_
  refine Zw_S3 (k := 0) lm_X11_76 dX11_finder_18 (by decide) (Nat.le_of_ble_eq_true rfl) ?_
  refine s_in0 10 (by decide) (fun _ => ?_) (fun a0 => absurd hok.2.1 a0)
  refine Zw_if_eq 31 dX11_finder_21 (by decide) (fun c => absurd c (by decide)) (fun _ => ?_)
  refine Zw_iload_3 dX11_finder_24 ?_
  refine Zw_S1 (k := 1) lm_X11_82 dX11_finder_25 (by decide) (Nat.le_of_ble_eq_true rfl) ?_
  refine s_isPlace (fun _ => ?_) (fun a0 => absurd hok.2.2 a0)
  refine Zw_if_ne 34 dX11_finder_28 (by decide) (fun _ => ?_) (fun c => absurd c (by decide))
  refine Zw_aload_0 dX11_finder_34 ?_
  refine Zw_getv (nI 5) lf_X11_73 dX11_finder_35 (by first | decide | assumption | omega) (by first | rfl | assumption) (by rfl) hn ?_
  refine Zw_iconst (v := 5) dX11_finder_38 (by decide) ?_
  refine Zw_icmp_ne 45 dX11_finder_39 (by decide) (fun c => absurd c (by decide)) (fun _ => ?_)
  refine Zw_bipush (v := (-4)) dX11_finder_42 (by decide) ?_
  refine Zw_ireturn dX11_finder_44 (by first | rfl | assumption) ?_
  exact h
set_option maxRecDepth 20000 in
theorem s_mfinder {kd nu on : Int32} {Q : zQ} {μ : zMu} {τ : Int64} (n : Nat) (hok : vp_in kd 6 ∧ vp_in nu 10 ∧ vp_in on 8) (hn : μ 61 11 = nI n) (hn5 : n < 5) (h : Q (some (.int (nI n))) (zup (zup (zup (zup (zup μ 67 n kd) 68 (3 * n) nu) 68 (3 * n + 1) on) 68 (3 * n + 2) 0) 61 11 (nI (n + 1))) τ) : Zc 2 yX11_finder cX11_finder 4 (some .int) [.ref 61, .int kd, .int nu, .int on] μ τ Q := by
  refine Zc.mk 0 [.ref 61, .int kd, .int nu, .int on] rfl (by decide) (Nat.le_of_ble_eq_true rfl) ?_
  refine Zw_iload_1 dX11_finder_0 ?_
  refine Zw_i2l dX11_finder_1 ?_
  refine Zw_lconst (v := 0) dX11_finder_2 (by decide) ?_
  refine Zw_ldc2 dX11_finder_3 zw28 ?_
  refine Zw_S3 (k := 0) lm_X11_76 dX11_finder_6 (by decide) (Nat.le_of_ble_eq_true rfl) ?_
  refine s_in0 6 (by decide) (fun _ => ?_) (fun a0 => absurd hok.1 a0)
  refine Zw_if_eq 31 dX11_finder_9 (by decide) (fun c => absurd c (by decide)) (fun _ => ?_)
  refine Zw_iload_2 dX11_finder_12 ?_
  refine Zw_i2l dX11_finder_13 ?_
  refine Zw_lconst (v := 0) dX11_finder_14 (by decide) ?_
  refine Zw_ldc2 dX11_finder_15 zw10 ?_
  refine Zw_S3 (k := 0) lm_X11_76 dX11_finder_18 (by decide) (Nat.le_of_ble_eq_true rfl) ?_
  refine s_in0 10 (by decide) (fun _ => ?_) (fun a0 => absurd hok.2.1 a0)
  refine Zw_if_eq 31 dX11_finder_21 (by decide) (fun c => absurd c (by decide)) (fun _ => ?_)
  refine Zw_iload_3 dX11_finder_24 ?_
  refine Zw_S1 (k := 1) lm_X11_82 dX11_finder_25 (by decide) (Nat.le_of_ble_eq_true rfl) ?_
  refine s_isPlace (fun _ => ?_) (fun a0 => absurd hok.2.2 a0)
  refine Zw_if_ne 34 dX11_finder_28 (by decide) (fun _ => ?_) (fun c => absurd c (by decide))
  refine Zw_aload_0 dX11_finder_34 ?_
  refine Zw_getv (nI n) lf_X11_73 dX11_finder_35 (by first | decide | assumption | omega) (by first | rfl | assumption) (by rfl) hn ?_
  refine Zw_iconst (v := 5) dX11_finder_38 (by decide) ?_
  refine Zw_icmp_ne 45 dX11_finder_39 (by decide) (fun c39 => ?_) (fun c39 => absurd c39 (fun e => absurd ((nI_eq (by omega) (by decide)).mp (show nI n = nI 5 from e)) (by omega)))
  refine Zw_aload_0 dX11_finder_45 ?_
  refine Zw_getr 67 lf_X11_29 dX11_finder_46 (by first | decide | assumption | omega) (by first | rfl | assumption) (by rfl) ?_
  refine Zw_aload_0 dX11_finder_49 ?_
  refine Zw_getv (nI n) lf_X11_73 dX11_finder_50 (by first | decide | assumption | omega) (by first | rfl | assumption) (by rfl) hn ?_
  refine Zw_iload_1 dX11_finder_53 ?_
  refine Zw_iastn (n) dX11_finder_54 (by first | decide | assumption | omega) (by first | rfl | assumption) rfl (by omega) (by decide) ?_
  refine Zw_aload_0 dX11_finder_55 ?_
  refine Zw_getr 68 lf_X11_32 dX11_finder_56 (by first | decide | assumption | omega) (by first | rfl | assumption) (by rfl) ?_
  refine Zw_iconst (v := 3) dX11_finder_59 (by decide) ?_
  refine Zw_aload_0 dX11_finder_60 ?_
  refine Zw_getv (nI n) lf_X11_73 dX11_finder_61 (by first | decide | assumption | omega) (by first | rfl | assumption) (by rfl) (by first | exact hn | (rw [zup_ne (by decide)]; exact hn)) ?_
  refine Zw_nmul (3) (n) dX11_finder_64 rfl rfl ?_
  refine Zw_iload_2 dX11_finder_65 ?_
  refine Zw_iastn ((3 * n)) dX11_finder_66 (by first | decide | assumption | omega) (by first | rfl | assumption) rfl (by omega) (by decide) ?_
  refine Zw_aload_0 dX11_finder_67 ?_
  refine Zw_getr 68 lf_X11_32 dX11_finder_68 (by first | decide | assumption | omega) (by first | rfl | assumption) (by rfl) ?_
  refine Zw_iconst (v := 3) dX11_finder_71 (by decide) ?_
  refine Zw_aload_0 dX11_finder_72 ?_
  refine Zw_getv (nI n) lf_X11_73 dX11_finder_73 (by first | decide | assumption | omega) (by first | rfl | assumption) (by rfl) (by first | exact hn | (rw [zup_ne (by decide), zup_ne (by decide)]; exact hn)) ?_
  refine Zw_nmul (3) (n) dX11_finder_76 rfl rfl ?_
  refine Zw_iconst (v := 1) dX11_finder_77 (by decide) ?_
  refine Zw_nadd ((3 * n)) (1) dX11_finder_78 rfl rfl ?_
  refine Zw_iload_3 dX11_finder_79 ?_
  refine Zw_iastn (((3 * n) + 1)) dX11_finder_80 (by first | decide | assumption | omega) (by first | rfl | assumption) rfl (by omega) (by decide) ?_
  refine Zw_aload_0 dX11_finder_81 ?_
  refine Zw_getr 68 lf_X11_32 dX11_finder_82 (by first | decide | assumption | omega) (by first | rfl | assumption) (by rfl) ?_
  refine Zw_iconst (v := 3) dX11_finder_85 (by decide) ?_
  refine Zw_aload_0 dX11_finder_86 ?_
  refine Zw_getv (nI n) lf_X11_73 dX11_finder_87 (by first | decide | assumption | omega) (by first | rfl | assumption) (by rfl) (by first | exact hn | (rw [zup_ne (by decide), zup_ne (by decide), zup_ne (by decide)]; exact hn)) ?_
  refine Zw_nmul (3) (n) dX11_finder_90 rfl rfl ?_
  refine Zw_iconst (v := 2) dX11_finder_91 (by decide) ?_
  refine Zw_nadd ((3 * n)) (2) dX11_finder_92 rfl rfl ?_
  refine Zw_iconst (v := 0) dX11_finder_93 (by decide) ?_
  refine Zw_iastn (((3 * n) + 2)) dX11_finder_94 (by first | decide | assumption | omega) (by first | rfl | assumption) rfl (by omega) (by decide) ?_
  refine Zw_aload_0 dX11_finder_95 ?_
  refine Zw_dup dX11_finder_96 rfl ?_
  refine Zw_getv (nI n) lf_X11_73 dX11_finder_97 (by first | decide | assumption | omega) (by first | rfl | assumption) (by rfl) (by first | exact hn | (rw [zup_ne (by decide), zup_ne (by decide), zup_ne (by decide), zup_ne (by decide)]; exact hn)) ?_
  refine Zw_iconst (v := 1) dX11_finder_100 (by decide) ?_
  refine Zw_nadd (n) (1) dX11_finder_101 rfl rfl ?_
  refine Zw_put lp_X11_73 dX11_finder_102 (by first | decide | assumption | omega) (by first | rfl | assumption) (by rfl) (by first | rfl | assumption) (by first | rfl | assumption) ?_
  refine Zw_aload_0 dX11_finder_105 ?_
  refine Zw_getv (nI (n + 1)) lf_X11_73 dX11_finder_106 (by first | decide | assumption | omega) (by first | rfl | assumption) (by rfl) (by rw [zup_at, if_pos ⟨rfl, rfl⟩]) ?_
  refine Zw_iconst (v := 1) dX11_finder_109 (by decide) ?_
  refine Zw_nsub (n + 1) (1) dX11_finder_110 rfl rfl (by omega) ?_
  refine Zw_ireturn dX11_finder_111 (by first | rfl | assumption) ?_
  rw [show n + 1 - 1 = n by omega]
  exact h
set_option maxRecDepth 20000 in
theorem s_mfeedB {x : Int32} {Q : zQ} {μ : zMu} {τ : Int64} (hbad : ¬ vp_in x 256) (h : Q (some (.int (-2))) μ τ) : Zc 1 yX11_feed cX11_feed 2 (some .int) [.ref 61, .int x] μ τ Q := by
  refine Zc.mk 0 [.ref 61, .int x] rfl (by decide) (Nat.le_of_ble_eq_true rfl) ?_
  refine Zw_iload_1 dX11_feed_0 ?_
  refine Zw_i2l dX11_feed_1 ?_
  refine Zw_lconst (v := 0) dX11_feed_2 (by decide) ?_
  refine Zw_ldc2 dX11_feed_3 zw12 ?_
  refine Zw_S3 (k := 0) lm_X11_76 dX11_feed_6 (by decide) (Nat.le_of_ble_eq_true rfl) ?_
  refine s_in0 256 (by decide) (fun a1 => absurd a1 hbad) (fun _ => ?_)
  refine Zw_if_ne 15 dX11_feed_9 (by decide) (fun c => absurd c (by decide)) (fun _ => ?_)
  refine Zw_bipush (v := (-2)) dX11_feed_12 (by decide) ?_
  refine Zw_ireturn dX11_feed_14 (by first | rfl | assumption) ?_
  exact h
set_option maxRecDepth 20000 in
theorem s_mfeedF {x : Int32} {Q : zQ} {μ : zMu} {τ : Int64} (hx : vp_in x 256) (hsz : μ 61 6 = nI 160) (h : Q (some (.int (-4))) μ τ) : Zc 1 yX11_feed cX11_feed 2 (some .int) [.ref 61, .int x] μ τ Q := by
  refine Zc.mk 0 [.ref 61, .int x] rfl (by decide) (Nat.le_of_ble_eq_true rfl) ?_
  refine Zw_iload_1 dX11_feed_0 ?_
  refine Zw_i2l dX11_feed_1 ?_
  refine Zw_lconst (v := 0) dX11_feed_2 (by decide) ?_
  refine Zw_ldc2 dX11_feed_3 zw12 ?_
  refine Zw_S3 (k := 0) lm_X11_76 dX11_feed_6 (by decide) (Nat.le_of_ble_eq_true rfl) ?_
  refine s_in0 256 (by decide) (fun _ => ?_) (fun a0 => absurd hx a0)
  refine Zw_if_ne 15 dX11_feed_9 (by decide) (fun _ => ?_) (fun c => absurd c (by decide))
  refine Zw_aload_0 dX11_feed_15 ?_
  refine Zw_getv (nI 160) lf_X11_125 dX11_feed_16 (by first | decide | assumption | omega) (by first | rfl | assumption) (by rfl) hsz ?_
  refine Zw_sipush (v := 160) dX11_feed_19 (by decide) ?_
  refine Zw_icmp_ne 28 dX11_feed_22 (by decide) (fun c => absurd c (by decide)) (fun _ => ?_)
  refine Zw_bipush (v := (-4)) dX11_feed_25 (by decide) ?_
  refine Zw_ireturn dX11_feed_27 (by first | rfl | assumption) ?_
  exact h
set_option maxRecDepth 20000 in
theorem s_mfeed {x : Int32} {sz : Nat} {Q : zQ} {μ : zMu} {τ : Int64} (hx : vp_in x 256) (hsz : μ 61 6 = nI sz) (hb : sz < 160) (h : Q (some (.int (nI (sz + 1)))) (zup (zup μ 64 sz x) 61 6 (nI (sz + 1))) τ) : Zc 1 yX11_feed cX11_feed 2 (some .int) [.ref 61, .int x] μ τ Q := by
  refine Zc.mk 0 [.ref 61, .int x] rfl (by decide) (Nat.le_of_ble_eq_true rfl) ?_
  refine Zw_iload_1 dX11_feed_0 ?_
  refine Zw_i2l dX11_feed_1 ?_
  refine Zw_lconst (v := 0) dX11_feed_2 (by decide) ?_
  refine Zw_ldc2 dX11_feed_3 zw12 ?_
  refine Zw_S3 (k := 0) lm_X11_76 dX11_feed_6 (by decide) (Nat.le_of_ble_eq_true rfl) ?_
  refine s_in0 256 (by decide) (fun _ => ?_) (fun a0 => absurd hx a0)
  refine Zw_if_ne 15 dX11_feed_9 (by decide) (fun _ => ?_) (fun c => absurd c (by decide))
  refine Zw_aload_0 dX11_feed_15 ?_
  refine Zw_getv (nI sz) lf_X11_125 dX11_feed_16 (by first | decide | assumption | omega) (by first | rfl | assumption) (by rfl) hsz ?_
  refine Zw_sipush (v := 160) dX11_feed_19 (by decide) ?_
  refine Zw_icmp_ne 28 dX11_feed_22 (by decide) (fun c22 => ?_) (fun c22 => absurd c22 (fun e => absurd ((nI_eq (by omega) (by decide)).mp (show nI sz = nI 160 from e)) (by omega)))
  refine Zw_aload_0 dX11_feed_28 ?_
  refine Zw_getr 64 lf_X11_20 dX11_feed_29 (by first | decide | assumption | omega) (by first | rfl | assumption) (by rfl) ?_
  refine Zw_aload_0 dX11_feed_32 ?_
  refine Zw_getv (nI sz) lf_X11_125 dX11_feed_33 (by first | decide | assumption | omega) (by first | rfl | assumption) (by rfl) hsz ?_
  refine Zw_iload_1 dX11_feed_36 ?_
  refine Zw_iastn (sz) dX11_feed_37 (by first | decide | assumption | omega) (by first | rfl | assumption) rfl (by omega) (by decide) ?_
  refine Zw_aload_0 dX11_feed_38 ?_
  refine Zw_dup dX11_feed_39 rfl ?_
  refine Zw_getv (nI sz) lf_X11_125 dX11_feed_40 (by first | decide | assumption | omega) (by first | rfl | assumption) (by rfl) (by rw [zup_ne (by decide)]; exact hsz) ?_
  refine Zw_iconst (v := 1) dX11_feed_43 (by decide) ?_
  refine Zw_nadd (sz) (1) dX11_feed_44 rfl rfl ?_
  refine Zw_put lp_X11_125 dX11_feed_45 (by first | decide | assumption | omega) (by first | rfl | assumption) (by rfl) (by first | rfl | assumption) (by first | rfl | assumption) ?_
  refine Zw_aload_0 dX11_feed_48 ?_
  refine Zw_getv (nI (sz + 1)) lf_X11_125 dX11_feed_49 (by first | decide | assumption | omega) (by first | rfl | assumption) (by rfl) (by rw [zup_at, if_pos ⟨rfl, rfl⟩]) ?_
  refine Zw_ireturn dX11_feed_52 (by first | rfl | assumption) ?_
  exact h
