def q_nameOf (f : Nat → Int32) (x : Int32) : Int32 := if 0 ≤ x ∧ x < 6 then f x.toNatClampNeg else 0
def q_turned (op a : Int32) : Int32 := if op = 9 then -a else if a = 0 then 1 else 0
def q_joined (op a b : Int32) : Int32 := if op = 1 then (if a ≠ 0 ∨ b ≠ 0 then 1 else 0) else if op = 2 then (if a ≠ 0 ∧ b ≠ 0 then 1 else 0) else if op = 4 then (if a < b then 1 else 0) else if op = 5 then (if a = b then 1 else 0) else if op = 6 then a + b else if op = 7 then a - b else a * b
def x_step (nm : Nat → Int32) (s : (Nat → Int32) × Nat) (it : Int32) : (Nat → Int32) × Nat :=
  if 0 ≤ it ∨ it ≤ -100 then
    if s.2 < 64 then (upd s.1 s.2 (if 0 ≤ it then it else q_nameOf nm (-100 - it)), s.2 + 1) else s
  else if -it = 3 ∨ -it = 9 then
    if 1 ≤ s.2 then (upd s.1 (s.2 - 1) (q_turned (-it) (s.1 (s.2 - 1))), s.2) else s
  else if 2 ≤ s.2 then (upd s.1 (s.2 - 1 - 1) (q_joined (-it) (s.1 (s.2 - 1 - 1)) (s.1 (s.2 - 1))), s.2 - 1) else s
def x_run (nm code : Nat → Int32) : Nat → Nat → (Nat → Int32) × Nat → (Nat → Int32) × Nat
  | _, 0, s => s
  | i, c + 1, s => x_run nm code (i + 1) c (x_step nm s (code i))
def x_fin (s : (Nat → Int32) × Nat) : Bool := decide (1 ≤ s.2 ∧ s.1 0 ≠ 0)
def x_say (nm code : Nat → Int32) (lo hi : Nat) (f : Nat → Int32) : Bool := x_fin (x_run nm code lo (hi - lo) (f, 0))
def x_tx (μ : zMu) (t : Nat) : Prop := ∃ b0 b1 b2 b3 ln : Nat, μ (23 + 3 * t) 0 = nI b0 ∧ μ (23 + 3 * t) 1 = nI b1 ∧ μ (23 + 3 * t) 2 = nI b2 ∧ μ (23 + 3 * t) 3 = nI b3 ∧ μ (21 + 3 * t) 2 = nI ln ∧ b0 ≤ b1 ∧ b1 ≤ b2 ∧ b2 ≤ b3 ∧ b3 ≤ ln ∧ ln ≤ 160 ∧ (μ (21 + 3 * t) 3 = 0 ∨ μ (21 + 3 * t) 3 = 1)
def xsay (μ : zMu) (t c : Nat) (nm f : Nat → Int32) : Bool := x_say nm (μ (22 + 3 * t)) (μ (23 + 3 * t) c).toNatClampNeg (μ (23 + 3 * t) (c + 1)).toNatClampNeg f
theorem zar_self (μ : zMu) (k : Nat) : zar μ k (μ k) = μ := by
  funext q
  by_cases e : q = k
  · subst e; rw [zar_eq]
  · rw [zar_ne e]
set_option maxRecDepth 20000 in
theorem s_nameOf {x : Int32} {Q : zQ} {μ : zMu} {τ : Int64} (h : Q (some (.int (q_nameOf (μ 19) x))) μ τ) : Zc 0 yX0_nameOf cX0_nameOf 2 (some .int) [.ref 17, .int x] μ τ Q := by
  refine Zc.mk 0 [.ref 17, .int x] rfl (by decide) (Nat.le_of_ble_eq_true rfl) ?_
  refine Zw_iload_1 dX0_nameOf_0 ?_
  refine Zw_if_lt 19 dX0_nameOf_1 (by decide) (fun c1 => ?_) (fun c1 => ?_)
  · refine Zw_iconst (v := 0) dX0_nameOf_19 (by decide) ?_
    refine Zw_ireturn dX0_nameOf_20 (by first | rfl | assumption) ?_
    simpa [q_nameOf, Int32.not_le.mpr c1] using h
  · refine Zw_iload_1 dX0_nameOf_4 ?_
    refine Zw_bipush (v := 6) dX0_nameOf_5 (by decide) ?_
    refine Zw_icmp_ge 19 dX0_nameOf_7 (by decide) (fun c7 => ?_) (fun c7 => ?_)
    · refine Zw_iconst (v := 0) dX0_nameOf_19 (by decide) ?_
      refine Zw_ireturn dX0_nameOf_20 (by first | rfl | assumption) ?_
      simpa [q_nameOf, Int32.not_lt.mpr c7] using h
    · have hin : vp_in x 6 := vp_in_iff.mpr ⟨by have h6 : ¬ x.toInt < (0 : Int32).toInt := fun e => c1 (Int32.lt_iff_toInt_lt.mpr e); simp at h6; omega, by have h6 := Int32.lt_iff_toInt_lt.mp (Int32.not_le.mp c7); simpa using h6⟩
      refine Zw_aload_0 dX0_nameOf_10 ?_
      refine Zw_getr 19 lf_X0_17 dX0_nameOf_11 (by first | decide | assumption | omega) (by first | rfl | assumption) (by rfl) ?_
      refine Zw_iload_1 dX0_nameOf_14 ?_
      refine Zw_iald dX0_nameOf_15 (by first | decide | assumption | omega) (by first | rfl | assumption) (by first | assumption | exact vp_in_nI (by omega) (by omega) | exact vp_in_nI (by simp; omega) (by decide) | (unfold vp_in; decide)) ?_
      refine Zw_goto 20 dX0_nameOf_16 (by decide) ?_
      refine Zw_ireturn dX0_nameOf_20 (by first | rfl | assumption) ?_
      simpa [q_nameOf, Int32.not_lt.mp c1, Int32.not_le.mp c7] using h
set_option maxRecDepth 20000 in
theorem s_turned {op a : Int32} {Q : zQ} {μ : zMu} {τ : Int64} (h : Q (some (.int (q_turned op a))) μ τ) : Zc 0 yX0_turned cX0_turned 2 (some .int) [.int op, .int a] μ τ Q := by
  refine Zc.mk 0 [.int op, .int a] rfl (by decide) (Nat.le_of_ble_eq_true rfl) ?_
  refine Zw_iload_0 dX0_turned_0 ?_
  refine Zw_bipush (v := 9) dX0_turned_1 (by decide) ?_
  refine Zw_icmp_ne 9 dX0_turned_3 (by decide) (fun c3 => ?_) (fun c3 => ?_)
  · refine Zw_iload_1 dX0_turned_9 ?_
    refine Zw_if_ne 17 dX0_turned_10 (by decide) (fun c10 => ?_) (fun c10 => ?_)
    · refine Zw_iconst (v := 0) dX0_turned_17 (by decide) ?_
      refine Zw_ireturn dX0_turned_18 (by first | rfl | assumption) ?_
      simpa [q_turned, *] using h
    · refine Zw_iconst (v := 1) dX0_turned_13 (by decide) ?_
      refine Zw_goto 18 dX0_turned_14 (by decide) ?_
      refine Zw_ireturn dX0_turned_18 (by first | rfl | assumption) ?_
      simpa [q_turned, *] using h
  · refine Zw_iload_1 dX0_turned_6 ?_
    refine Zw_ineg dX0_turned_7 ?_
    refine Zw_ireturn dX0_turned_8 (by first | rfl | assumption) ?_
    simpa [q_turned, *] using h
set_option maxRecDepth 20000 in
theorem s_joined {op a b : Int32} {Q : zQ} {μ : zMu} {τ : Int64} (h : Q (some (.int (q_joined op a b))) μ τ) : Zc 0 yX0_joined cX0_joined 3 (some .int) [.int op, .int a, .int b] μ τ Q := by
  refine Zc.mk 0 [.int op, .int a, .int b] rfl (by decide) (Nat.le_of_ble_eq_true rfl) ?_
  refine Zw_iload_0 dX0_joined_0 ?_
  refine Zw_sw 102 [44, 58, 102, 72, 83, 94, 98] dX0_joined_1 (by decide) (by decide) (by decide) (fun i t hi e => ?_) (fun e => ?_)
  · match i, hi with
    | 0, hi =>
      cases hi
      obtain rfl : op = 1 := Int32.toInt_inj.mp (by simpa using e)
      refine Zw_iload_1 dX0_joined_44 ?_
      refine Zw_if_ne 52 dX0_joined_45 (by decide) (fun c45 => ?_) (fun c45 => ?_)
      · refine Zw_iconst (v := 1) dX0_joined_52 (by decide) ?_
        refine Zw_goto 57 dX0_joined_53 (by decide) ?_
        refine Zw_ireturn dX0_joined_57 (by first | rfl | assumption) ?_
        simpa [q_joined, c45] using h
      · refine Zw_iload_2 dX0_joined_48 ?_
        refine Zw_if_eq 56 dX0_joined_49 (by decide) (fun c49 => ?_) (fun c49 => ?_)
        · refine Zw_iconst (v := 0) dX0_joined_56 (by decide) ?_
          refine Zw_ireturn dX0_joined_57 (by first | rfl | assumption) ?_
          simpa [q_joined, c45, c49] using h
        · refine Zw_iconst (v := 1) dX0_joined_52 (by decide) ?_
          refine Zw_goto 57 dX0_joined_53 (by decide) ?_
          refine Zw_ireturn dX0_joined_57 (by first | rfl | assumption) ?_
          simpa [q_joined, c45, c49] using h
    | 1, hi =>
      cases hi
      obtain rfl : op = 2 := Int32.toInt_inj.mp (by simpa using e)
      refine Zw_iload_1 dX0_joined_58 ?_
      refine Zw_if_eq 70 dX0_joined_59 (by decide) (fun c59 => ?_) (fun c59 => ?_)
      · refine Zw_iconst (v := 0) dX0_joined_70 (by decide) ?_
        refine Zw_ireturn dX0_joined_71 (by first | rfl | assumption) ?_
        simpa [q_joined, c59] using h
      · refine Zw_iload_2 dX0_joined_62 ?_
        refine Zw_if_eq 70 dX0_joined_63 (by decide) (fun c63 => ?_) (fun c63 => ?_)
        · refine Zw_iconst (v := 0) dX0_joined_70 (by decide) ?_
          refine Zw_ireturn dX0_joined_71 (by first | rfl | assumption) ?_
          simpa [q_joined, c59, c63] using h
        · refine Zw_iconst (v := 1) dX0_joined_66 (by decide) ?_
          refine Zw_goto 71 dX0_joined_67 (by decide) ?_
          refine Zw_ireturn dX0_joined_71 (by first | rfl | assumption) ?_
          simpa [q_joined, c59, c63] using h
    | 2, hi =>
      cases hi
      obtain rfl : op = 3 := Int32.toInt_inj.mp (by simpa using e)
      refine Zw_iload_1 dX0_joined_102 ?_
      refine Zw_iload_2 dX0_joined_103 ?_
      refine Zw_imul dX0_joined_104 ?_
      refine Zw_ireturn dX0_joined_105 (by first | rfl | assumption) ?_
      simpa [q_joined] using h
    | 3, hi =>
      cases hi
      obtain rfl : op = 4 := Int32.toInt_inj.mp (by simpa using e)
      refine Zw_iload_1 dX0_joined_72 ?_
      refine Zw_iload_2 dX0_joined_73 ?_
      refine Zw_icmp_ge 81 dX0_joined_74 (by decide) (fun c74 => ?_) (fun c74 => ?_)
      · refine Zw_iconst (v := 0) dX0_joined_81 (by decide) ?_
        refine Zw_ireturn dX0_joined_82 (by first | rfl | assumption) ?_
        simpa [q_joined, Int32.not_lt.mpr c74] using h
      · refine Zw_iconst (v := 1) dX0_joined_77 (by decide) ?_
        refine Zw_goto 82 dX0_joined_78 (by decide) ?_
        refine Zw_ireturn dX0_joined_82 (by first | rfl | assumption) ?_
        simpa [q_joined, Int32.not_le.mp c74] using h
    | 4, hi =>
      cases hi
      obtain rfl : op = 5 := Int32.toInt_inj.mp (by simpa using e)
      refine Zw_iload_1 dX0_joined_83 ?_
      refine Zw_iload_2 dX0_joined_84 ?_
      refine Zw_icmp_ne 92 dX0_joined_85 (by decide) (fun c85 => ?_) (fun c85 => ?_)
      · refine Zw_iconst (v := 0) dX0_joined_92 (by decide) ?_
        refine Zw_ireturn dX0_joined_93 (by first | rfl | assumption) ?_
        simpa [q_joined, c85] using h
      · refine Zw_iconst (v := 1) dX0_joined_88 (by decide) ?_
        refine Zw_goto 93 dX0_joined_89 (by decide) ?_
        refine Zw_ireturn dX0_joined_93 (by first | rfl | assumption) ?_
        simpa [q_joined, c85] using h
    | 5, hi =>
      cases hi
      obtain rfl : op = 6 := Int32.toInt_inj.mp (by simpa using e)
      refine Zw_iload_1 dX0_joined_94 ?_
      refine Zw_iload_2 dX0_joined_95 ?_
      refine Zw_iadd dX0_joined_96 ?_
      refine Zw_ireturn dX0_joined_97 (by first | rfl | assumption) ?_
      simpa [q_joined] using h
    | 6, hi =>
      cases hi
      obtain rfl : op = 7 := Int32.toInt_inj.mp (by simpa using e)
      refine Zw_iload_1 dX0_joined_98 ?_
      refine Zw_iload_2 dX0_joined_99 ?_
      refine Zw_isub dX0_joined_100 ?_
      refine Zw_ireturn dX0_joined_101 (by first | rfl | assumption) ?_
      simpa [q_joined] using h
    | n + 7, hi => exact absurd hi (by simp)
  · refine Zw_iload_1 dX0_joined_102 ?_
    refine Zw_iload_2 dX0_joined_103 ?_
    refine Zw_imul dX0_joined_104 ?_
    refine Zw_ireturn dX0_joined_105 (by first | rfl | assumption) ?_
    have n1 : ∀ k : Int32, 1 ≤ k.toInt → k.toInt ≤ 7 → op ≠ k := fun k h2 h3 h4 => by subst h4; omega
    simpa [q_joined, n1 1 (by decide) (by decide), n1 2 (by decide) (by decide), n1 4 (by decide) (by decide), n1 5 (by decide) (by decide), n1 6 (by decide) (by decide), n1 7 (by decide) (by decide)] using h
set_option maxRecDepth 20000 in
theorem l_says {Q : zQ} {μ0 : zMu} {τ : Int64} {t hi ln : Nat} {R : (Nat → Int32) × Nat} (hln : μ0 (21 + 3 * t) 2 = nI ln) (hhl : hi ≤ ln) (hl160 : ln ≤ 160) (ht6 : t < 6) (h : ∀ f, Q (some (.int (if x_fin R then 1 else 0))) (zar μ0 20 f) τ) : ∀ m i f tp, hi - i < m → tp ≤ 64 → i ≤ hi → x_run (μ0 19) (μ0 (22 + 3 * t)) i (hi - i) (f, tp) = R → Zw 1 RX0 cX0_says 8 (some .boolean) Q 49 [.ref 17, .null, .null, .ref (21 + 3 * t), .int (nI hi), .int (nI tp), .int (nI i), .null] [] (zar μ0 20 f) τ
  | 0, i, _, _, hm, _, _, _ => absurd hm (by omega)
  | m + 1, i, f, tp, hm, htp, hih, hR => by
    obtain ⟨hk, hs, hc, hsc, hb, hsb, n1, n2, n3⟩ := zText_of ht6
    refine Zw_iload_6 dX0_says_49 ?_
    refine Zw_iload_4 dX0_says_51 ?_
    refine Zw_nicmp_ge (i) (hi) 219 dX0_says_53 (by decide) rfl rfl (by omega) (by omega) (fun c53 => ?_) (fun c53 => ?_)
    · refine Zw_iload_5 dX0_says_219 ?_
      refine Zw_iconst (v := 1) dX0_says_221 (by decide) ?_
      refine Zw_nicmp_lt (tp) (1) 238 dX0_says_222 (by decide) rfl rfl (by omega) (by omega) (fun c222 => ?_) (fun c222 => ?_)
      · refine Zw_iconst (v := 0) dX0_says_238 (by decide) ?_
        refine Zw_ireturn dX0_says_239 (by first | rfl | assumption) ?_
        obtain rfl : i = hi := by omega
        rw [Nat.sub_self] at hR
        subst hR
        have := h f
        simpa [x_fin, x_run, Nat.not_le.mpr c222] using this
      · refine Zw_aload_0 dX0_says_225 ?_
        refine Zw_getr 20 lf_X0_21 dX0_says_226 (by first | decide | assumption | omega) (by first | rfl | assumption) (by rfl) ?_
        refine Zw_iconst (v := 0) dX0_says_229 (by decide) ?_
        refine Zw_ialdnv (0) (f 0) dX0_says_230 (by first | decide | assumption | omega) (by first | rfl | assumption) rfl (by omega) (by decide) (by rw [zar_eq]) ?_
        refine Zw_if_eq 238 dX0_says_231 (by decide) (fun c231 => ?_) (fun c231 => ?_)
        · refine Zw_iconst (v := 0) dX0_says_238 (by decide) ?_
          refine Zw_ireturn dX0_says_239 (by first | rfl | assumption) ?_
          obtain rfl : i = hi := by omega
          rw [Nat.sub_self] at hR
          subst hR
          have := h f
          simpa [x_fin, x_run, c222, c231] using this
        · refine Zw_iconst (v := 1) dX0_says_234 (by decide) ?_
          refine Zw_goto 239 dX0_says_235 (by decide) ?_
          refine Zw_ireturn dX0_says_239 (by first | rfl | assumption) ?_
          obtain rfl : i = hi := by omega
          rw [Nat.sub_self] at hR
          subst hR
          have := h f
          simpa [x_fin, x_run, c222, c231] using this
    · refine Zw_iload_6 dX0_says_56 ?_
      refine Zw_aload_3 dX0_says_58 ?_
      refine Zw_getv (nI ln) lf_X0_51 dX0_says_59 (by first | decide | assumption | omega) (by first | rfl | assumption) (by rfl) (by rw [zar_ne (by omega)]; exact hln) ?_
      refine Zw_nicmp_ge (i) (ln) 219 dX0_says_62 (by decide) rfl rfl (by omega) (by omega) (fun c62 => ?_) (fun c62 => ?_)
      · refine Zw_iload_5 dX0_says_219 ?_
        refine Zw_iconst (v := 1) dX0_says_221 (by decide) ?_
        refine Zw_nicmp_lt (tp) (1) 238 dX0_says_222 (by decide) rfl rfl (by omega) (by omega) (fun c222 => ?_) (fun c222 => ?_)
        · refine Zw_iconst (v := 0) dX0_says_238 (by decide) ?_
          refine Zw_ireturn dX0_says_239 (by first | rfl | assumption) ?_
          omega
        · refine Zw_aload_0 dX0_says_225 ?_
          refine Zw_getr 20 lf_X0_21 dX0_says_226 (by first | decide | assumption | omega) (by first | rfl | assumption) (by rfl) ?_
          refine Zw_iconst (v := 0) dX0_says_229 (by decide) ?_
          refine Zw_ialdnv (0) (f 0) dX0_says_230 (by first | decide | assumption | omega) (by first | rfl | assumption) rfl (by omega) (by decide) (by rw [zar_eq]) ?_
          refine Zw_if_eq 238 dX0_says_231 (by decide) (fun c231 => ?_) (fun c231 => ?_)
          · refine Zw_iconst (v := 0) dX0_says_238 (by decide) ?_
            refine Zw_ireturn dX0_says_239 (by first | rfl | assumption) ?_
            omega
          · refine Zw_iconst (v := 1) dX0_says_234 (by decide) ?_
            refine Zw_goto 239 dX0_says_235 (by decide) ?_
            refine Zw_ireturn dX0_says_239 (by first | rfl | assumption) ?_
            omega
      · have hstep : x_run (μ0 19) (μ0 (22 + 3 * t)) i (hi - i) (f, tp) = x_run (μ0 19) (μ0 (22 + 3 * t)) (i + 1) (hi - (i + 1)) (x_step (μ0 19) (f, tp) (μ0 (22 + 3 * t) i)) := by
          rw [show hi - i = (hi - (i + 1)) + 1 by omega]; rfl
        refine Zw_aload_3 dX0_says_65 ?_
        refine Zw_getr (22 + 3 * t) lf_X0_54 dX0_says_66 (by first | decide | assumption | omega) (by first | rfl | assumption) (by first | rfl | assumption) ?_
        refine Zw_iload_6 dX0_says_69 ?_
        refine Zw_ialdnv (i) (μ0 (22 + 3 * t) i) dX0_says_71 (by first | decide | assumption | omega) (by first | rfl | assumption) rfl (by omega) (by decide) (by rw [zar_ne (by omega)]) ?_
        refine Zw_istore_7 dX0_says_72 rfl ?_
        refine Zw_iload_7 dX0_says_74 ?_
        refine Zw_if_ge 86 dX0_says_76 (by decide) (fun c76 => ?_) (fun c76 => ?_)
        · refine Zw_iload_5 dX0_says_86 ?_
          refine Zw_bipush (v := 64) dX0_says_88 (by decide) ?_
          refine Zw_nicmp_ge (tp) (64) 213 dX0_says_90 (by decide) rfl rfl (by omega) (by omega) (fun c90 => ?_) (fun c90 => ?_)
          · refine Zw_iinc_6 dX0_says_213 rfl (zincn _) ?_
            refine Zw_goto 49 dX0_says_216 (by decide) ?_
            refine Zw_drop (L' := [.ref 17, .null, .null, .ref (21 + 3 * t), .int (nI hi), .int (nI tp), .int (nI (i + 1)), .null]) (by simp [zsub]) (by simp) ?_
            try rw [zup_zar]
            refine l_says hln hhl hl160 ht6 h m (i + 1) _ _ (by omega) (by omega) (by omega) ?_
            rw [← hR, hstep]
            simp [x_step, c76, Nat.not_lt.mpr c90]
          · refine Zw_aload_0 dX0_says_93 ?_
            refine Zw_getr 20 lf_X0_21 dX0_says_94 (by first | decide | assumption | omega) (by first | rfl | assumption) (by rfl) ?_
            refine Zw_iload_5 dX0_says_97 ?_
            refine Zw_iload_7 dX0_says_99 ?_
            refine Zw_if_lt 109 dX0_says_101 (by decide) (fun c101 => absurd c101 (Int32.not_lt.mpr c76)) (fun c101 => ?_)
            refine Zw_iload_7 dX0_says_104 ?_
            refine Zw_goto 118 dX0_says_106 (by decide) ?_
            refine Zw_iastn (tp) dX0_says_118 (by first | decide | assumption | omega) (by first | rfl | assumption) rfl (by omega) (by decide) ?_
            refine Zw_iinc_5 dX0_says_119 rfl (zincn _) ?_
            refine Zw_goto 213 dX0_says_122 (by decide) ?_
            refine Zw_iinc_6 dX0_says_213 rfl (zincn _) ?_
            refine Zw_goto 49 dX0_says_216 (by decide) ?_
            refine Zw_drop (L' := [.ref 17, .null, .null, .ref (21 + 3 * t), .int (nI hi), .int (nI (tp + 1)), .int (nI (i + 1)), .null]) (by simp [zsub]) (by simp) ?_
            try rw [zup_zar]
            refine l_says hln hhl hl160 ht6 h m (i + 1) _ _ (by omega) (by omega) (by omega) ?_
            rw [← hR, hstep]
            simp [x_step, c76, c90]
        · refine Zw_iload_7 dX0_says_79 ?_
          refine Zw_bipush (v := (-100)) dX0_says_81 (by decide) ?_
          refine Zw_icmp_gt 125 dX0_says_83 (by decide) (fun c83 => ?_) (fun c83 => ?_)
          · refine Zw_iload_7 dX0_says_125 ?_
            refine Zw_ineg dX0_says_127 ?_
            refine Zw_iconst (v := 3) dX0_says_128 (by decide) ?_
            refine Zw_icmp_eq 140 dX0_says_129 (by decide) (fun c129 => ?_) (fun c129 => ?_)
            · refine Zw_iload_5 dX0_says_140 ?_
              refine Zw_iconst (v := 1) dX0_says_142 (by decide) ?_
              refine Zw_nicmp_lt (tp) (1) 213 dX0_says_143 (by decide) rfl rfl (by omega) (by omega) (fun c143 => ?_) (fun c143 => ?_)
              · refine Zw_iinc_6 dX0_says_213 rfl (zincn _) ?_
                refine Zw_goto 49 dX0_says_216 (by decide) ?_
                refine Zw_drop (L' := [.ref 17, .null, .null, .ref (21 + 3 * t), .int (nI hi), .int (nI tp), .int (nI (i + 1)), .null]) (by simp [zsub]) (by simp) ?_
                try rw [zup_zar]
                refine l_says hln hhl hl160 ht6 h m (i + 1) _ _ (by omega) (by omega) (by omega) ?_
                rw [← hR, hstep]
                simp [x_step, c76, (Int32.not_le.mpr c83), c129, Nat.not_le.mpr c143]
              · refine Zw_aload_0 dX0_says_146 ?_
                refine Zw_getr 20 lf_X0_21 dX0_says_147 (by first | decide | assumption | omega) (by first | rfl | assumption) (by rfl) ?_
                refine Zw_iload_5 dX0_says_150 ?_
                refine Zw_iconst (v := 1) dX0_says_152 (by decide) ?_
                refine Zw_nsub (tp) (1) dX0_says_153 rfl rfl (by omega) ?_
                refine Zw_iload_7 dX0_says_154 ?_
                refine Zw_ineg dX0_says_156 ?_
                refine Zw_aload_0 dX0_says_157 ?_
                refine Zw_getr 20 lf_X0_21 dX0_says_158 (by first | decide | assumption | omega) (by first | rfl | assumption) (by rfl) ?_
                refine Zw_iload_5 dX0_says_161 ?_
                refine Zw_iconst (v := 1) dX0_says_163 (by decide) ?_
                refine Zw_nsub (tp) (1) dX0_says_164 rfl rfl (by omega) ?_
                refine Zw_ialdnv ((tp - 1)) (f (tp - 1)) dX0_says_165 (by first | decide | assumption | omega) (by first | rfl | assumption) rfl (by omega) (by decide) (by rw [zar_eq]) ?_
                refine Zw_S2 (k := 0) lm_X0_61 dX0_says_166 (by decide) (Nat.le_of_ble_eq_true rfl) ?_
                refine s_turned ?_
                refine Zw_iastn ((tp - 1)) dX0_says_169 (by first | decide | assumption | omega) (by first | rfl | assumption) rfl (by omega) (by decide) ?_
                refine Zw_goto 213 dX0_says_170 (by decide) ?_
                refine Zw_iinc_6 dX0_says_213 rfl (zincn _) ?_
                refine Zw_goto 49 dX0_says_216 (by decide) ?_
                refine Zw_drop (L' := [.ref 17, .null, .null, .ref (21 + 3 * t), .int (nI hi), .int (nI tp), .int (nI (i + 1)), .null]) (by simp [zsub]) (by simp) ?_
                try rw [zup_zar]
                refine l_says hln hhl hl160 ht6 h m (i + 1) _ _ (by omega) (by omega) (by omega) ?_
                rw [← hR, hstep]
                simp [x_step, c76, (Int32.not_le.mpr c83), c129, c143]
            · refine Zw_iload_7 dX0_says_132 ?_
              refine Zw_ineg dX0_says_134 ?_
              refine Zw_bipush (v := 9) dX0_says_135 (by decide) ?_
              refine Zw_icmp_ne 173 dX0_says_137 (by decide) (fun c137 => ?_) (fun c137 => ?_)
              · refine Zw_iload_5 dX0_says_173 ?_
                refine Zw_iconst (v := 2) dX0_says_175 (by decide) ?_
                refine Zw_nicmp_lt (tp) (2) 213 dX0_says_176 (by decide) rfl rfl (by omega) (by omega) (fun c176 => ?_) (fun c176 => ?_)
                · refine Zw_iinc_6 dX0_says_213 rfl (zincn _) ?_
                  refine Zw_goto 49 dX0_says_216 (by decide) ?_
                  refine Zw_drop (L' := [.ref 17, .null, .null, .ref (21 + 3 * t), .int (nI hi), .int (nI tp), .int (nI (i + 1)), .null]) (by simp [zsub]) (by simp) ?_
                  try rw [zup_zar]
                  refine l_says hln hhl hl160 ht6 h m (i + 1) _ _ (by omega) (by omega) (by omega) ?_
                  rw [← hR, hstep]
                  simp [x_step, c76, (Int32.not_le.mpr c83), c129, c137, Nat.not_le.mpr c176]
                · refine Zw_iinc_5 dX0_says_179 rfl (zdecn (by omega)) ?_
                  refine Zw_aload_0 dX0_says_182 ?_
                  refine Zw_getr 20 lf_X0_21 dX0_says_183 (by first | decide | assumption | omega) (by first | rfl | assumption) (by rfl) ?_
                  refine Zw_iload_5 dX0_says_186 ?_
                  refine Zw_iconst (v := 1) dX0_says_188 (by decide) ?_
                  refine Zw_nsub ((tp - 1)) (1) dX0_says_189 rfl rfl (by omega) ?_
                  refine Zw_iload_7 dX0_says_190 ?_
                  refine Zw_ineg dX0_says_192 ?_
                  refine Zw_aload_0 dX0_says_193 ?_
                  refine Zw_getr 20 lf_X0_21 dX0_says_194 (by first | decide | assumption | omega) (by first | rfl | assumption) (by rfl) ?_
                  refine Zw_iload_5 dX0_says_197 ?_
                  refine Zw_iconst (v := 1) dX0_says_199 (by decide) ?_
                  refine Zw_nsub ((tp - 1)) (1) dX0_says_200 rfl rfl (by omega) ?_
                  refine Zw_ialdnv (((tp - 1) - 1)) (f (tp - 1 - 1)) dX0_says_201 (by first | decide | assumption | omega) (by first | rfl | assumption) rfl (by omega) (by decide) (by rw [zar_eq]) ?_
                  refine Zw_aload_0 dX0_says_202 ?_
                  refine Zw_getr 20 lf_X0_21 dX0_says_203 (by first | decide | assumption | omega) (by first | rfl | assumption) (by rfl) ?_
                  refine Zw_iload_5 dX0_says_206 ?_
                  refine Zw_ialdnv ((tp - 1)) (f (tp - 1)) dX0_says_208 (by first | decide | assumption | omega) (by first | rfl | assumption) rfl (by omega) (by decide) (by rw [zar_eq]) ?_
                  refine Zw_S3 (k := 0) lm_X0_65 dX0_says_209 (by decide) (Nat.le_of_ble_eq_true rfl) ?_
                  refine s_joined ?_
                  refine Zw_iastn (((tp - 1) - 1)) dX0_says_212 (by first | decide | assumption | omega) (by first | rfl | assumption) rfl (by omega) (by decide) ?_
                  refine Zw_iinc_6 dX0_says_213 rfl (zincn _) ?_
                  refine Zw_goto 49 dX0_says_216 (by decide) ?_
                  refine Zw_drop (L' := [.ref 17, .null, .null, .ref (21 + 3 * t), .int (nI hi), .int (nI (tp - 1)), .int (nI (i + 1)), .null]) (by simp [zsub]) (by simp) ?_
                  try rw [zup_zar]
                  refine l_says hln hhl hl160 ht6 h m (i + 1) _ _ (by omega) (by omega) (by omega) ?_
                  rw [← hR, hstep]
                  simp [x_step, c76, (Int32.not_le.mpr c83), c129, c137, c176]
              · refine Zw_iload_5 dX0_says_140 ?_
                refine Zw_iconst (v := 1) dX0_says_142 (by decide) ?_
                refine Zw_nicmp_lt (tp) (1) 213 dX0_says_143 (by decide) rfl rfl (by omega) (by omega) (fun c143 => ?_) (fun c143 => ?_)
                · refine Zw_iinc_6 dX0_says_213 rfl (zincn _) ?_
                  refine Zw_goto 49 dX0_says_216 (by decide) ?_
                  refine Zw_drop (L' := [.ref 17, .null, .null, .ref (21 + 3 * t), .int (nI hi), .int (nI tp), .int (nI (i + 1)), .null]) (by simp [zsub]) (by simp) ?_
                  try rw [zup_zar]
                  refine l_says hln hhl hl160 ht6 h m (i + 1) _ _ (by omega) (by omega) (by omega) ?_
                  rw [← hR, hstep]
                  simp [x_step, c76, (Int32.not_le.mpr c83), c129, c137, Nat.not_le.mpr c143]
                · refine Zw_aload_0 dX0_says_146 ?_
                  refine Zw_getr 20 lf_X0_21 dX0_says_147 (by first | decide | assumption | omega) (by first | rfl | assumption) (by rfl) ?_
                  refine Zw_iload_5 dX0_says_150 ?_
                  refine Zw_iconst (v := 1) dX0_says_152 (by decide) ?_
                  refine Zw_nsub (tp) (1) dX0_says_153 rfl rfl (by omega) ?_
                  refine Zw_iload_7 dX0_says_154 ?_
                  refine Zw_ineg dX0_says_156 ?_
                  refine Zw_aload_0 dX0_says_157 ?_
                  refine Zw_getr 20 lf_X0_21 dX0_says_158 (by first | decide | assumption | omega) (by first | rfl | assumption) (by rfl) ?_
                  refine Zw_iload_5 dX0_says_161 ?_
                  refine Zw_iconst (v := 1) dX0_says_163 (by decide) ?_
                  refine Zw_nsub (tp) (1) dX0_says_164 rfl rfl (by omega) ?_
                  refine Zw_ialdnv ((tp - 1)) (f (tp - 1)) dX0_says_165 (by first | decide | assumption | omega) (by first | rfl | assumption) rfl (by omega) (by decide) (by rw [zar_eq]) ?_
                  refine Zw_S2 (k := 0) lm_X0_61 dX0_says_166 (by decide) (Nat.le_of_ble_eq_true rfl) ?_
                  refine s_turned ?_
                  refine Zw_iastn ((tp - 1)) dX0_says_169 (by first | decide | assumption | omega) (by first | rfl | assumption) rfl (by omega) (by decide) ?_
                  refine Zw_goto 213 dX0_says_170 (by decide) ?_
                  refine Zw_iinc_6 dX0_says_213 rfl (zincn _) ?_
                  refine Zw_goto 49 dX0_says_216 (by decide) ?_
                  refine Zw_drop (L' := [.ref 17, .null, .null, .ref (21 + 3 * t), .int (nI hi), .int (nI tp), .int (nI (i + 1)), .null]) (by simp [zsub]) (by simp) ?_
                  try rw [zup_zar]
                  refine l_says hln hhl hl160 ht6 h m (i + 1) _ _ (by omega) (by omega) (by omega) ?_
                  rw [← hR, hstep]
                  simp [x_step, c76, (Int32.not_le.mpr c83), c129, c137, c143]
          · refine Zw_iload_5 dX0_says_86 ?_
            refine Zw_bipush (v := 64) dX0_says_88 (by decide) ?_
            refine Zw_nicmp_ge (tp) (64) 213 dX0_says_90 (by decide) rfl rfl (by omega) (by omega) (fun c90 => ?_) (fun c90 => ?_)
            · refine Zw_iinc_6 dX0_says_213 rfl (zincn _) ?_
              refine Zw_goto 49 dX0_says_216 (by decide) ?_
              refine Zw_drop (L' := [.ref 17, .null, .null, .ref (21 + 3 * t), .int (nI hi), .int (nI tp), .int (nI (i + 1)), .null]) (by simp [zsub]) (by simp) ?_
              try rw [zup_zar]
              refine l_says hln hhl hl160 ht6 h m (i + 1) _ _ (by omega) (by omega) (by omega) ?_
              rw [← hR, hstep]
              simp [x_step, c76, (Int32.not_lt.mp c83), Nat.not_lt.mpr c90]
            · refine Zw_aload_0 dX0_says_93 ?_
              refine Zw_getr 20 lf_X0_21 dX0_says_94 (by first | decide | assumption | omega) (by first | rfl | assumption) (by rfl) ?_
              refine Zw_iload_5 dX0_says_97 ?_
              refine Zw_iload_7 dX0_says_99 ?_
              refine Zw_if_lt 109 dX0_says_101 (by decide) (fun c101 => ?_) (fun c101 => absurd c101 (not_not_intro (Int32.not_le.mp c76)))
              refine Zw_aload_0 dX0_says_109 ?_
              refine Zw_bipush (v := (-100)) dX0_says_110 (by decide) ?_
              refine Zw_iload_7 dX0_says_112 ?_
              refine Zw_isub dX0_says_114 ?_
              refine Zw_V1 (k := 0) lm_X0_57 dX0_says_115 (by decide) (by first | decide | assumption | omega) (by first | rfl | assumption) (by rfl) (Nat.le_of_ble_eq_true rfl) ?_
              refine s_nameOf ?_
              rw [zar_ne (by decide)]
              refine Zw_iastn (tp) dX0_says_118 (by first | decide | assumption | omega) (by first | rfl | assumption) rfl (by omega) (by decide) ?_
              refine Zw_iinc_5 dX0_says_119 rfl (zincn _) ?_
              refine Zw_goto 213 dX0_says_122 (by decide) ?_
              refine Zw_iinc_6 dX0_says_213 rfl (zincn _) ?_
              refine Zw_goto 49 dX0_says_216 (by decide) ?_
              refine Zw_drop (L' := [.ref 17, .null, .null, .ref (21 + 3 * t), .int (nI hi), .int (nI (tp + 1)), .int (nI (i + 1)), .null]) (by simp [zsub]) (by simp) ?_
              try rw [zup_zar]
              refine l_says hln hhl hl160 ht6 h m (i + 1) _ _ (by omega) (by omega) (by omega) ?_
              rw [← hR, hstep]
              simp [x_step, c76, (Int32.not_lt.mp c83), c90]
set_option maxRecDepth 20000 in
theorem s_says0 {Q : zQ} {μ : zMu} {τ : Int64} (cnt t : Nat) (hcn : μ 17 3 = nI cnt) (hc6 : cnt ≤ 6) (ht : t < cnt) (hx : x_tx μ t) (h1 : xsay μ t 0 (μ 19) (μ 20) = true → ∀ f, Q (some (.int 1)) (zar μ 20 f) τ) (h0 : xsay μ t 0 (μ 19) (μ 20) = false → ∀ f, Q (some (.int 0)) (zar μ 20 f) τ) : Zc 1 yX0_says cX0_says 8 (some .boolean) [.ref 17, .int (nI t), .int 0] μ τ Q := by
  refine Zc.mk 5 [.ref 17, .int (nI t), .int 0, .null, .null, .null, .null, .null] rfl (by decide) (Nat.le_of_ble_eq_true rfl) ?_
  have ht6 : t < 6 := by omega
  obtain ⟨b0, b1, b2, b3, ln, e0, e1, e2, e3, e4, g0, g1, g2, g3, g4, g5⟩ := hx
  obtain ⟨hk, hs, hc, hsc, hb, hsb, n1, n2, n3⟩ := zText_of ht6
  refine Zw_iload_1 dX0_says_0 ?_
  refine Zw_aload_0 dX0_says_1 ?_
  refine Zw_getv (nI cnt) lf_X0_24 dX0_says_2 (by first | decide | assumption | omega) (by first | rfl | assumption) (by rfl) hcn ?_
  refine Zw_N2 (k := 0) lm_X0_40 dX0_says_5 (by decide) (Nat.le_of_ble_eq_true rfl) ?_
  refine s_within cnt (nI_toInt (by omega)) (fun _ => ?_) (fun a0 => absurd (vp_in_nI ht (by omega)) a0)
  refine Zw_if_eq 19 dX0_says_8 (by decide) (fun c => absurd c (by decide)) (fun _ => ?_)
  refine Zw_iload_2 dX0_says_11 ?_
  refine Zw_iconst (v := 3) dX0_says_12 (by decide) ?_
  refine Zw_N2 (k := 0) lm_X0_40 dX0_says_13 (by decide) (Nat.le_of_ble_eq_true rfl) ?_
  refine s_within 3 (by decide) (fun _ => ?_) (fun a0 => absurd (by unfold vp_in; decide) a0)
  refine Zw_if_ne 21 dX0_says_16 (by decide) (fun _ => ?_) (fun c => absurd c (by decide))
  refine Zw_aload_0 dX0_says_21 ?_
  refine Zw_getr 18 lf_X0_11 dX0_says_22 (by first | decide | assumption | omega) (by first | rfl | assumption) (by rfl) ?_
  refine Zw_iload_1 dX0_says_25 ?_
  refine Zw_aaldn (t) (21 + 3 * t) dX0_says_26 (by first | decide | assumption | omega) (by first | rfl | assumption) rfl (by omega) (zText_g ht6) (by decide) ?_
  refine Zw_astore_3 dX0_says_27 rfl ?_
  refine Zw_aload_3 dX0_says_28 ?_
  refine Zw_getr (23 + 3 * t) lf_X0_48 dX0_says_29 (by first | decide | assumption | omega) (by first | rfl | assumption) (by first | rfl | assumption) ?_
  refine Zw_iload_2 dX0_says_32 ?_
  refine Zw_iconst (v := 1) dX0_says_33 (by decide) ?_
  refine Zw_nadd (0) (1) dX0_says_34 rfl rfl ?_
  refine Zw_ialdnv ((0 + 1)) (nI b1) dX0_says_35 (by first | decide | assumption | omega) (by first | rfl | assumption) rfl (by omega) (by decide) e1 ?_
  refine Zw_istore_4 dX0_says_36 rfl ?_
  refine Zw_iconst (v := 0) dX0_says_38 (by decide) ?_
  refine Zw_istore_5 dX0_says_39 rfl ?_
  refine Zw_aload_3 dX0_says_41 ?_
  refine Zw_getr (23 + 3 * t) lf_X0_48 dX0_says_42 (by first | decide | assumption | omega) (by first | rfl | assumption) (by first | rfl | assumption) ?_
  refine Zw_iload_2 dX0_says_45 ?_
  refine Zw_ialdnv (0) (nI b0) dX0_says_46 (by first | decide | assumption | omega) (by first | rfl | assumption) rfl (by omega) (by decide) e0 ?_
  refine Zw_istore_6 dX0_says_47 rfl ?_
  refine Zw_drop (L' := [.ref 17, .null, .null, .ref (21 + 3 * t), .int (nI b1), .int 0, .int (nI b0), .null]) (by simp [zsub]) (by simp) ?_
  refine (fun hh0 => ?_ : (∀ f, Q (some (.int (if x_fin (x_run (μ 19) (μ (22 + 3 * t)) b0 (b1 - b0) (μ 20, 0)) then 1 else 0))) (zar μ 20 f) τ) → _) ?_
  · have hz := l_says e4 (show b1 ≤ ln by omega) (by omega) ht6 hh0 161 b0 (μ 20) 0 (by omega) (by omega) (by omega) rfl
    rw [zar_self] at hz
    exact hz
  intro f
  have hh : xsay μ t 0 (μ 19) (μ 20) = x_fin (x_run (μ 19) (μ (22 + 3 * t)) b0 (b1 - b0) (μ 20, 0)) := by
    unfold xsay x_say
    rw [show μ (23 + 3 * t) 0 = nI b0 from e0, show μ (23 + 3 * t) (0 + 1) = nI b1 from e1, nI_clamp (by omega), nI_clamp (by omega)]
  rw [← hh]
  cases hq : xsay μ t 0 (μ 19) (μ 20) with
  | true => exact h1 hq f
  | false => exact h0 hq f
set_option maxRecDepth 20000 in
theorem s_says1 {Q : zQ} {μ : zMu} {τ : Int64} (cnt t : Nat) (hcn : μ 17 3 = nI cnt) (hc6 : cnt ≤ 6) (ht : t < cnt) (hx : x_tx μ t) (h1 : xsay μ t 1 (μ 19) (μ 20) = true → ∀ f, Q (some (.int 1)) (zar μ 20 f) τ) (h0 : xsay μ t 1 (μ 19) (μ 20) = false → ∀ f, Q (some (.int 0)) (zar μ 20 f) τ) : Zc 1 yX0_says cX0_says 8 (some .boolean) [.ref 17, .int (nI t), .int 1] μ τ Q := by
  refine Zc.mk 5 [.ref 17, .int (nI t), .int 1, .null, .null, .null, .null, .null] rfl (by decide) (Nat.le_of_ble_eq_true rfl) ?_
  have ht6 : t < 6 := by omega
  obtain ⟨b0, b1, b2, b3, ln, e0, e1, e2, e3, e4, g0, g1, g2, g3, g4, g5⟩ := hx
  obtain ⟨hk, hs, hc, hsc, hb, hsb, n1, n2, n3⟩ := zText_of ht6
  refine Zw_iload_1 dX0_says_0 ?_
  refine Zw_aload_0 dX0_says_1 ?_
  refine Zw_getv (nI cnt) lf_X0_24 dX0_says_2 (by first | decide | assumption | omega) (by first | rfl | assumption) (by rfl) hcn ?_
  refine Zw_N2 (k := 0) lm_X0_40 dX0_says_5 (by decide) (Nat.le_of_ble_eq_true rfl) ?_
  refine s_within cnt (nI_toInt (by omega)) (fun _ => ?_) (fun a0 => absurd (vp_in_nI ht (by omega)) a0)
  refine Zw_if_eq 19 dX0_says_8 (by decide) (fun c => absurd c (by decide)) (fun _ => ?_)
  refine Zw_iload_2 dX0_says_11 ?_
  refine Zw_iconst (v := 3) dX0_says_12 (by decide) ?_
  refine Zw_N2 (k := 0) lm_X0_40 dX0_says_13 (by decide) (Nat.le_of_ble_eq_true rfl) ?_
  refine s_within 3 (by decide) (fun _ => ?_) (fun a0 => absurd (by unfold vp_in; decide) a0)
  refine Zw_if_ne 21 dX0_says_16 (by decide) (fun _ => ?_) (fun c => absurd c (by decide))
  refine Zw_aload_0 dX0_says_21 ?_
  refine Zw_getr 18 lf_X0_11 dX0_says_22 (by first | decide | assumption | omega) (by first | rfl | assumption) (by rfl) ?_
  refine Zw_iload_1 dX0_says_25 ?_
  refine Zw_aaldn (t) (21 + 3 * t) dX0_says_26 (by first | decide | assumption | omega) (by first | rfl | assumption) rfl (by omega) (zText_g ht6) (by decide) ?_
  refine Zw_astore_3 dX0_says_27 rfl ?_
  refine Zw_aload_3 dX0_says_28 ?_
  refine Zw_getr (23 + 3 * t) lf_X0_48 dX0_says_29 (by first | decide | assumption | omega) (by first | rfl | assumption) (by first | rfl | assumption) ?_
  refine Zw_iload_2 dX0_says_32 ?_
  refine Zw_iconst (v := 1) dX0_says_33 (by decide) ?_
  refine Zw_nadd (1) (1) dX0_says_34 rfl rfl ?_
  refine Zw_ialdnv ((1 + 1)) (nI b2) dX0_says_35 (by first | decide | assumption | omega) (by first | rfl | assumption) rfl (by omega) (by decide) e2 ?_
  refine Zw_istore_4 dX0_says_36 rfl ?_
  refine Zw_iconst (v := 0) dX0_says_38 (by decide) ?_
  refine Zw_istore_5 dX0_says_39 rfl ?_
  refine Zw_aload_3 dX0_says_41 ?_
  refine Zw_getr (23 + 3 * t) lf_X0_48 dX0_says_42 (by first | decide | assumption | omega) (by first | rfl | assumption) (by first | rfl | assumption) ?_
  refine Zw_iload_2 dX0_says_45 ?_
  refine Zw_ialdnv (1) (nI b1) dX0_says_46 (by first | decide | assumption | omega) (by first | rfl | assumption) rfl (by omega) (by decide) e1 ?_
  refine Zw_istore_6 dX0_says_47 rfl ?_
  refine Zw_drop (L' := [.ref 17, .null, .null, .ref (21 + 3 * t), .int (nI b2), .int 0, .int (nI b1), .null]) (by simp [zsub]) (by simp) ?_
  refine (fun hh0 => ?_ : (∀ f, Q (some (.int (if x_fin (x_run (μ 19) (μ (22 + 3 * t)) b1 (b2 - b1) (μ 20, 0)) then 1 else 0))) (zar μ 20 f) τ) → _) ?_
  · have hz := l_says e4 (show b2 ≤ ln by omega) (by omega) ht6 hh0 161 b1 (μ 20) 0 (by omega) (by omega) (by omega) rfl
    rw [zar_self] at hz
    exact hz
  intro f
  have hh : xsay μ t 1 (μ 19) (μ 20) = x_fin (x_run (μ 19) (μ (22 + 3 * t)) b1 (b2 - b1) (μ 20, 0)) := by
    unfold xsay x_say
    rw [show μ (23 + 3 * t) 1 = nI b1 from e1, show μ (23 + 3 * t) (1 + 1) = nI b2 from e2, nI_clamp (by omega), nI_clamp (by omega)]
  rw [← hh]
  cases hq : xsay μ t 1 (μ 19) (μ 20) with
  | true => exact h1 hq f
  | false => exact h0 hq f
set_option maxRecDepth 20000 in
theorem s_says2 {Q : zQ} {μ : zMu} {τ : Int64} (cnt t : Nat) (hcn : μ 17 3 = nI cnt) (hc6 : cnt ≤ 6) (ht : t < cnt) (hx : x_tx μ t) (h1 : xsay μ t 2 (μ 19) (μ 20) = true → ∀ f, Q (some (.int 1)) (zar μ 20 f) τ) (h0 : xsay μ t 2 (μ 19) (μ 20) = false → ∀ f, Q (some (.int 0)) (zar μ 20 f) τ) : Zc 1 yX0_says cX0_says 8 (some .boolean) [.ref 17, .int (nI t), .int 2] μ τ Q := by
  refine Zc.mk 5 [.ref 17, .int (nI t), .int 2, .null, .null, .null, .null, .null] rfl (by decide) (Nat.le_of_ble_eq_true rfl) ?_
  have ht6 : t < 6 := by omega
  obtain ⟨b0, b1, b2, b3, ln, e0, e1, e2, e3, e4, g0, g1, g2, g3, g4, g5⟩ := hx
  obtain ⟨hk, hs, hc, hsc, hb, hsb, n1, n2, n3⟩ := zText_of ht6
  refine Zw_iload_1 dX0_says_0 ?_
  refine Zw_aload_0 dX0_says_1 ?_
  refine Zw_getv (nI cnt) lf_X0_24 dX0_says_2 (by first | decide | assumption | omega) (by first | rfl | assumption) (by rfl) hcn ?_
  refine Zw_N2 (k := 0) lm_X0_40 dX0_says_5 (by decide) (Nat.le_of_ble_eq_true rfl) ?_
  refine s_within cnt (nI_toInt (by omega)) (fun _ => ?_) (fun a0 => absurd (vp_in_nI ht (by omega)) a0)
  refine Zw_if_eq 19 dX0_says_8 (by decide) (fun c => absurd c (by decide)) (fun _ => ?_)
  refine Zw_iload_2 dX0_says_11 ?_
  refine Zw_iconst (v := 3) dX0_says_12 (by decide) ?_
  refine Zw_N2 (k := 0) lm_X0_40 dX0_says_13 (by decide) (Nat.le_of_ble_eq_true rfl) ?_
  refine s_within 3 (by decide) (fun _ => ?_) (fun a0 => absurd (by unfold vp_in; decide) a0)
  refine Zw_if_ne 21 dX0_says_16 (by decide) (fun _ => ?_) (fun c => absurd c (by decide))
  refine Zw_aload_0 dX0_says_21 ?_
  refine Zw_getr 18 lf_X0_11 dX0_says_22 (by first | decide | assumption | omega) (by first | rfl | assumption) (by rfl) ?_
  refine Zw_iload_1 dX0_says_25 ?_
  refine Zw_aaldn (t) (21 + 3 * t) dX0_says_26 (by first | decide | assumption | omega) (by first | rfl | assumption) rfl (by omega) (zText_g ht6) (by decide) ?_
  refine Zw_astore_3 dX0_says_27 rfl ?_
  refine Zw_aload_3 dX0_says_28 ?_
  refine Zw_getr (23 + 3 * t) lf_X0_48 dX0_says_29 (by first | decide | assumption | omega) (by first | rfl | assumption) (by first | rfl | assumption) ?_
  refine Zw_iload_2 dX0_says_32 ?_
  refine Zw_iconst (v := 1) dX0_says_33 (by decide) ?_
  refine Zw_nadd (2) (1) dX0_says_34 rfl rfl ?_
  refine Zw_ialdnv ((2 + 1)) (nI b3) dX0_says_35 (by first | decide | assumption | omega) (by first | rfl | assumption) rfl (by omega) (by decide) e3 ?_
  refine Zw_istore_4 dX0_says_36 rfl ?_
  refine Zw_iconst (v := 0) dX0_says_38 (by decide) ?_
  refine Zw_istore_5 dX0_says_39 rfl ?_
  refine Zw_aload_3 dX0_says_41 ?_
  refine Zw_getr (23 + 3 * t) lf_X0_48 dX0_says_42 (by first | decide | assumption | omega) (by first | rfl | assumption) (by first | rfl | assumption) ?_
  refine Zw_iload_2 dX0_says_45 ?_
  refine Zw_ialdnv (2) (nI b2) dX0_says_46 (by first | decide | assumption | omega) (by first | rfl | assumption) rfl (by omega) (by decide) e2 ?_
  refine Zw_istore_6 dX0_says_47 rfl ?_
  refine Zw_drop (L' := [.ref 17, .null, .null, .ref (21 + 3 * t), .int (nI b3), .int 0, .int (nI b2), .null]) (by simp [zsub]) (by simp) ?_
  refine (fun hh0 => ?_ : (∀ f, Q (some (.int (if x_fin (x_run (μ 19) (μ (22 + 3 * t)) b2 (b3 - b2) (μ 20, 0)) then 1 else 0))) (zar μ 20 f) τ) → _) ?_
  · have hz := l_says e4 (show b3 ≤ ln by omega) (by omega) ht6 hh0 161 b2 (μ 20) 0 (by omega) (by omega) (by omega) rfl
    rw [zar_self] at hz
    exact hz
  intro f
  have hh : xsay μ t 2 (μ 19) (μ 20) = x_fin (x_run (μ 19) (μ (22 + 3 * t)) b2 (b3 - b2) (μ 20, 0)) := by
    unfold xsay x_say
    rw [show μ (23 + 3 * t) 2 = nI b2 from e2, show μ (23 + 3 * t) (2 + 1) = nI b3 from e3, nI_clamp (by omega), nI_clamp (by omega)]
  rw [← hh]
  cases hq : xsay μ t 2 (μ 19) (μ 20) with
  | true => exact h1 hq f
  | false => exact h0 hq f
set_option maxRecDepth 20000 in
theorem s_namesWeek {Q : zQ} {μ : zMu} {τ : Int64} (cnt t : Nat) (hcn : μ 17 3 = nI cnt) (hc6 : cnt ≤ 6) (ht : t < cnt) (h1 : μ (21 + 3 * t) 3 ≠ 0 → Q (some (.int 1)) μ τ) (h0 : μ (21 + 3 * t) 3 = 0 → Q (some (.int 0)) μ τ) : Zc 1 yX0_namesWeek cX0_namesWeek 2 (some .boolean) [.ref 17, .int (nI t)] μ τ Q := by
  refine Zc.mk 0 [.ref 17, .int (nI t)] rfl (by decide) (Nat.le_of_ble_eq_true rfl) ?_
  have ht6 : t < 6 := by omega
  obtain ⟨hk, hs, hc, hsc, hb, hsb, n1, n2, n3⟩ := zText_of ht6
  refine Zw_iload_1 dX0_namesWeek_0 ?_
  refine Zw_aload_0 dX0_namesWeek_1 ?_
  refine Zw_getv (nI cnt) lf_X0_24 dX0_namesWeek_2 (by first | decide | assumption | omega) (by first | rfl | assumption) (by rfl) hcn ?_
  refine Zw_N2 (k := 0) lm_X0_40 dX0_namesWeek_5 (by decide) (Nat.le_of_ble_eq_true rfl) ?_
  refine s_within cnt (nI_toInt (by omega)) (fun _ => ?_) (fun a0 => absurd (vp_in_nI ht (by omega)) a0)
  refine Zw_if_eq 27 dX0_namesWeek_8 (by decide) (fun c => absurd c (by decide)) (fun _ => ?_)
  refine Zw_aload_0 dX0_namesWeek_11 ?_
  refine Zw_getr 18 lf_X0_11 dX0_namesWeek_12 (by first | decide | assumption | omega) (by first | rfl | assumption) (by rfl) ?_
  refine Zw_iload_1 dX0_namesWeek_15 ?_
  refine Zw_aaldn (t) (21 + 3 * t) dX0_namesWeek_16 (by first | decide | assumption | omega) (by first | rfl | assumption) rfl (by omega) (zText_g ht6) (by decide) ?_
  refine Zw_geti lf_X0_44 dX0_namesWeek_17 (by first | decide | assumption | omega) (by first | rfl | assumption) (by rfl) ?_
  refine Zw_if_eq 27 dX0_namesWeek_20 (by decide) (fun c20 => ?_) (fun c20 => ?_)
  · refine Zw_iconst (v := 0) dX0_namesWeek_27 (by decide) ?_
    refine Zw_ireturn dX0_namesWeek_28 (by first | rfl | assumption) ?_
    exact h0 c20
  · refine Zw_iconst (v := 1) dX0_namesWeek_23 (by decide) ?_
    refine Zw_goto 28 dX0_namesWeek_24 (by decide) ?_
    refine Zw_ireturn dX0_namesWeek_28 (by first | rfl | assumption) ?_
    exact h1 c20
