def d_semi (b : Nat → Int32) (n : Nat) (r : dR) : dR := match r with
  | .inl f => .inl f
  | .inr (v, c, q) => if k_tok b n q = 12 then .inr (v, c, k_nx b n q) else .inl (k_pl b n q)
def d_p1 (b nm : Nat → Int32) (n p pos : Nat) : dR := if k_tok b n pos = 13 + p then d_semi b n (dE b nm n 5 (k_nx b n pos)) else .inl (k_pl b n pos)
theorem d_p1_le {b nm : Nat → Int32} {n p pos : Nat} {v : Int32} {c : List Int32} {q : Nat} (hp : pos ≤ n) (h : d_p1 b nm n p pos = .inr (v, c, q)) (hp3 : p < 3) : pos + 1 ≤ q ∧ q ≤ n := by
  unfold d_p1 at h
  by_cases h1 : k_tok b n pos = 13 + p
  · rw [if_pos h1] at h
    have hu := k_nx_up (b := b) (n := n) (i := pos) (by omega)
    cases hs : dE b nm n 5 (k_nx b n pos) with
    | inl f => rw [hs] at h; cases h
    | inr r =>
      obtain ⟨v1, c1, q1⟩ := r
      rw [hs] at h
      unfold d_semi at h
      dsimp only at h
      have h2 := dE_up b nm n 5 _ _ _ _ hu.2 hs
      by_cases h12 : k_tok b n q1 = 12
      · rw [if_pos h12] at h
        cases h
        have h3 := k_nx_up (b := b) (n := n) (i := q1) (by omega)
        omega
      · rw [if_neg h12] at h; cases h
  · rw [if_neg h1] at h; cases h
def d_r3 (b : Nat → Int32) (n pos : Nat) (r : Int32 × Int32 × Int32) : Nat ⊕ (Int32 × Int32 × Int32) := if k_tok b n pos = 18 then .inr r else .inl (k_pl b n pos)
def d_r2 (b nm : Nat → Int32) (n pos : Nat) (v0 v1 : Int32) : Nat ⊕ (Int32 × Int32 × Int32) := match d_p1 b nm n 2 pos with
  | .inl f => .inl f
  | .inr (v2, _, q) => d_r3 b n q (v0, v1, v2)
def d_r1 (b nm : Nat → Int32) (n pos : Nat) (v0 : Int32) : Nat ⊕ (Int32 × Int32 × Int32) := match d_p1 b nm n 1 pos with
  | .inl f => .inl f
  | .inr (v1, _, q) => d_r2 b nm n q v0 v1
def d_read (b nm : Nat → Int32) (n : Nat) : Nat ⊕ (Int32 × Int32 × Int32) := match d_p1 b nm n 0 0 with
  | .inl f => .inl f
  | .inr (v0, _, q) => d_r1 b nm n q v0
set_option maxRecDepth 20000 in
theorem s_part0 {fr n pos : Nat} {b nm : Nat → Int32} {Q : zQ} {μ : zMu} {τ : Int64} (hI : mI fr n 0 b nm μ τ pos) (h : ∀ v μ2 τ2, mX μ μ2 (k_pl b n pos) → Q (some (.int v)) μ2 τ2) : Zc 40 yX11_part cX11_part 3 (some .int) [.ref 61, .int 0] μ τ Q := by
  refine Zc.mk 1 [.ref 61, .int 0, .null] rfl (by decide) (Nat.le_of_ble_eq_true rfl) ?_
  refine Zw_iload_1 dX11_part_0 ?_
  refine Zw_if_ne 8 dX11_part_1 (by decide) (fun c => absurd c (by decide)) (fun _ => ?_)
  refine Zw_aload_0 dX11_part_4 ?_
  refine Zw_V0 (k := 0) lm_X11_171 dX11_part_5 (by decide) (by first | decide | assumption | omega) (by first | rfl | assumption) (by rfl) (Nat.le_of_ble_eq_true rfl) ?_
  refine s_fail0 hI.2.2.2.2.1 hI.2.2.2.2.2.1 ?_
  refine Zw_aload_0 dX11_part_8 ?_
  refine Zw_getv (1) lf_X11_158 dX11_part_9 (by first | decide | assumption | omega) (by first | rfl | assumption) (by rfl) rfl ?_
  refine Zw_if_ne 19 dX11_part_12 (by decide) (fun _ => ?_) (fun c => absurd c (by decide))
  refine Zw_aload_0 dX11_part_19 ?_
  refine Zw_getv (1) lf_X11_158 dX11_part_20 (by first | decide | assumption | omega) (by first | rfl | assumption) (by rfl) rfl ?_
  refine Zw_if_eq 30 dX11_part_23 (by decide) (fun c => absurd c (by decide)) (fun _ => ?_)
  refine Zw_iconst (v := 0) dX11_part_26 (by decide) ?_
  refine Zw_goto 34 dX11_part_27 (by decide) ?_
  refine Zw_istore_2 dX11_part_34 rfl ?_
  refine Zw_aload_0 dX11_part_35 ?_
  refine Zw_bipush (v := 59) dX11_part_36 (by decide) ?_
  refine Zw_V1 (k := 0) lm_X11_199 dX11_part_38 (by decide) (by first | decide | assumption | omega) (by first | rfl | assumption) (by rfl) (Nat.le_of_ble_eq_true rfl) ?_
  refine s_signB rfl ?_
  refine Zw_if_ne 48 dX11_part_41 (by decide) (fun c => absurd c (by decide)) (fun _ => ?_)
  refine Zw_aload_0 dX11_part_44 ?_
  refine Zw_V0 (k := 0) lm_X11_171 dX11_part_45 (by decide) (by first | decide | assumption | omega) (by first | rfl | assumption) (by rfl) (Nat.le_of_ble_eq_true rfl) ?_
  refine s_failB rfl ?_
  refine Zw_aload_0 dX11_part_48 ?_
  refine Zw_getv (1) lf_X11_158 dX11_part_49 (by first | decide | assumption | omega) (by first | rfl | assumption) (by rfl) rfl ?_
  refine Zw_if_ne 59 dX11_part_52 (by decide) (fun _ => ?_) (fun c => absurd c (by decide))
  refine Zw_iload_2 dX11_part_59 ?_
  refine Zw_ireturn dX11_part_60 (by first | rfl | assumption) ?_
  exact h _ _ _ mX.of
set_option maxRecDepth 20000 in
theorem s_part1 {fr n pos : Nat} {b nm : Nat → Int32} {Q : zQ} {μ : zMu} {τ : Int64} (hI : mI fr n 0 b nm μ τ pos) (h18 : k_tok b n pos ≠ 18) (h19 : k_tok b n pos ≠ 19) (hF : ∀ f v μ2 τ2, d_semi b n (dE b nm n 5 (k_nx b n pos)) = .inl f → mX μ μ2 f → Q (some (.int v)) μ2 τ2) (hD : ∀ v c q μ2 τ2, d_semi b n (dE b nm n 5 (k_nx b n pos)) = .inr (v, c, q) → mOff μ μ2 → mI fr n 0 b nm μ2 τ2 q → Q (some (.int v)) μ2 τ2) : Zc 40 yX11_part cX11_part 3 (some .int) [.ref 61, .int 1] μ τ Q := by
  refine Zc.mk 1 [.ref 61, .int 1, .null] rfl (by decide) (Nat.le_of_ble_eq_true rfl) ?_
  refine Zw_iload_1 dX11_part_0 ?_
  refine Zw_if_ne 8 dX11_part_1 (by decide) (fun _ => ?_) (fun c => absurd c (by decide))
  refine Zw_aload_0 dX11_part_8 ?_
  refine Zw_getv (0) lf_X11_158 dX11_part_9 (by first | decide | assumption | omega) (by first | rfl | assumption) (by rfl) hI.2.2.2.2.1 ?_
  refine Zw_if_ne 19 dX11_part_12 (by decide) (fun c => absurd c (by decide)) (fun _ => ?_)
  refine Zw_aload_0 dX11_part_15 ?_
  refine Zw_V0 (k := 1) lm_X11_174 dX11_part_16 (by decide) (by first | decide | assumption | omega) (by first | rfl | assumption) (by rfl) (Nat.le_of_ble_eq_true rfl) ?_
  refine s_nx hI h18 h19 (fun μ2 τ2 o2 I2 => ?_)
  refine Zw_aload_0 dX11_part_19 ?_
  refine Zw_getv (0) lf_X11_158 dX11_part_20 (by first | decide | assumption | omega) (by first | rfl | assumption) (by rfl) I2.2.2.2.2.1 ?_
  refine Zw_if_eq 30 dX11_part_23 (by decide) (fun _ => ?_) (fun c => absurd c (by decide))
  refine Zw_aload_0 dX11_part_30 ?_
  refine Zw_V0 (k := 39) lm_X11_319 dX11_part_31 (by decide) (by first | decide | assumption | omega) (by first | rfl | assumption) (by rfl) (Nat.le_of_ble_eq_true rfl) ?_
  refine s_either0 I2 (fun f1 v1 μ1 τ1 e1 x1 => ?_) (fun v1 c1 q1 μ1 τ1 e1 o1 I1 => ?_)
  · refine Zw_istore_2 dX11_part_34 rfl ?_
    refine Zw_aload_0 dX11_part_35 ?_
    refine Zw_bipush (v := 59) dX11_part_36 (by decide) ?_
    refine Zw_V1 (k := 0) lm_X11_199 dX11_part_38 (by decide) (by first | decide | assumption | omega) (by first | rfl | assumption) (by rfl) (Nat.le_of_ble_eq_true rfl) ?_
    refine s_signB x1.2.1 ?_
    refine Zw_if_ne 48 dX11_part_41 (by decide) (fun c => absurd c (by decide)) (fun _ => ?_)
    refine Zw_aload_0 dX11_part_44 ?_
    refine Zw_V0 (k := 0) lm_X11_171 dX11_part_45 (by decide) (by first | decide | assumption | omega) (by first | rfl | assumption) (by rfl) (Nat.le_of_ble_eq_true rfl) ?_
    refine s_failB x1.2.1 ?_
    refine Zw_aload_0 dX11_part_48 ?_
    refine Zw_getv (1) lf_X11_158 dX11_part_49 (by first | decide | assumption | omega) (by first | rfl | assumption) (by rfl) x1.2.1 ?_
    refine Zw_if_ne 59 dX11_part_52 (by decide) (fun _ => ?_) (fun c => absurd c (by decide))
    refine Zw_iload_2 dX11_part_59 ?_
    refine Zw_ireturn dX11_part_60 (by first | rfl | assumption) ?_
    exact hF _ _ _ _ (by rw [e1]; rfl) (mX.tr o2 x1)
  · refine Zw_istore_2 dX11_part_34 rfl ?_
    refine Zw_aload_0 dX11_part_35 ?_
    refine Zw_bipush (v := 59) dX11_part_36 (by decide) ?_
    refine Zw_V1 (k := 0) lm_X11_199 dX11_part_38 (by decide) (by first | decide | assumption | omega) (by first | rfl | assumption) (by rfl) (Nat.le_of_ble_eq_true rfl) ?_
    refine s_sign (tk := 12) I1.2.2.2.2.1 I1.2.2.2.2.2 (by decide) (by decide) (fun k12 => ?_) (fun k12 => ?_)
    · refine Zw_if_ne 48 dX11_part_41 (by decide) (fun _ => ?_) (fun c => absurd c (by decide))
      refine Zw_aload_0 dX11_part_48 ?_
      refine Zw_getv (0) lf_X11_158 dX11_part_49 (by first | decide | assumption | omega) (by first | rfl | assumption) (by rfl) I1.2.2.2.2.1 ?_
      refine Zw_if_ne 59 dX11_part_52 (by decide) (fun c => absurd c (by decide)) (fun _ => ?_)
      refine Zw_aload_0 dX11_part_55 ?_
      refine Zw_V0 (k := 1) lm_X11_174 dX11_part_56 (by decide) (by first | decide | assumption | omega) (by first | rfl | assumption) (by rfl) (Nat.le_of_ble_eq_true rfl) ?_
      refine s_nx I1 (by omega) (by omega) (fun μ3 τ3 o3 I3 => ?_)
      refine Zw_iload_2 dX11_part_59 ?_
      refine Zw_ireturn dX11_part_60 (by first | rfl | assumption) ?_
      exact hD _ _ _ _ _ (by rw [e1]; exact if_pos k12) ((o2.tr o1).tr o3) I3
    · refine Zw_if_ne 48 dX11_part_41 (by decide) (fun c => absurd c (by decide)) (fun _ => ?_)
      refine Zw_aload_0 dX11_part_44 ?_
      refine Zw_V0 (k := 0) lm_X11_171 dX11_part_45 (by decide) (by first | decide | assumption | omega) (by first | rfl | assumption) (by rfl) (Nat.le_of_ble_eq_true rfl) ?_
      refine s_fail0 I1.2.2.2.2.1 I1.2.2.2.2.2.1 ?_
      refine Zw_aload_0 dX11_part_48 ?_
      refine Zw_getv (1) lf_X11_158 dX11_part_49 (by first | decide | assumption | omega) (by first | rfl | assumption) (by rfl) rfl ?_
      refine Zw_if_ne 59 dX11_part_52 (by decide) (fun _ => ?_) (fun c => absurd c (by decide))
      refine Zw_iload_2 dX11_part_59 ?_
      refine Zw_ireturn dX11_part_60 (by first | rfl | assumption) ?_
      exact hF _ _ _ _ (by rw [e1]; exact if_neg k12) (mX.tr (o2.tr o1) mX.of)
def mR (μ μ' : zMu) : Prop := zOff [61] μ μ' ∧ ∀ s, (s < 18 ∨ 26 < s) → μ' 61 s = μ 61 s
theorem mOff.R {a b : zMu} (h : mOff a b) : mR a b := ⟨h.1, fun s hs => h.2 s (by omega) (by omega) (by omega) (by omega) (by omega) (by omega)⟩
theorem mR.tr {a b c : zMu} (h : mR a b) (h' : mR b c) : mR a c := ⟨h.1.tr h'.1, fun s hs => (h'.2 s hs).trans (h.2 s hs)⟩
theorem mR.refl (μ : zMu) : mR μ μ := ⟨fun _ _ => rfl, fun _ _ => rfl⟩
theorem mR.up {a b : zMu} {j : Nat} {x : Int32} (h : mR a b) (hj : 18 ≤ j ∧ j ≤ 26) : mR a (zup b 61 j x) := by
  refine ⟨fun k hk => ?_, fun s hs => ?_⟩
  · have hk' : k ≠ 61 := by simpa using hk
    rw [zup_ne hk']
    exact h.1 k hk
  · rw [zup_eq]
    have e : upd (b 61) j x s = b 61 s := if_neg (by omega)
    rw [e]
    exact h.2 s hs
def m_b (μ : zMu) (t : Nat) : Nat → Int32 := fun i => μ 62 (160 * t + i)
set_option maxRecDepth 20000 in
theorem s_read0 {t n : Nat} {b nm : Nat → Int32} {Q : zQ} {μ : zMu} {τ : Int64} (ht : t < 6) (hsz : μ 63 t = nI n) (hn : n ≤ 160) (hbb : b = m_b μ t) (hby : k_by b n) (hnm : ∀ j, j < 6 → μ 61 (12 + j) = nm j) (hF : ∀ f v μ2 τ2, d_read b nm n = .inl f → mR μ μ2 → μ2 61 25 = 1 → μ2 61 26 = nI f → Q (some (.int v)) μ2 τ2) (hD : ∀ r μ2 τ2, d_read b nm n = .inr r → mR μ μ2 → μ2 61 25 = 0 → Q (some (.int (q_p3 r 0))) μ2 τ2) : Zc 41 yX11_read cX11_read 6 (some .int) [.ref 61, .int (nI t), .int 0] μ τ Q := by
  refine Zc.mk 3 [.ref 61, .int (nI t), .int 0, .null, .null, .null] rfl (by decide) (Nat.le_of_ble_eq_true rfl) ?_
  refine Zw_aload_0 dX11_read_0 ?_
  refine Zw_sipush (v := 160) dX11_read_1 (by decide) ?_
  refine Zw_iload_1 dX11_read_4 ?_
  refine Zw_nmul (160) (t) dX11_read_5 rfl rfl ?_
  refine Zw_put lp_X11_131 dX11_read_6 (by first | decide | assumption | omega) (by first | rfl | assumption) (by rfl) (by first | rfl | assumption) (by first | rfl | assumption) ?_
  refine Zw_aload_0 dX11_read_9 ?_
  refine Zw_aload_0 dX11_read_10 ?_
  refine Zw_getr 63 lf_X11_17 dX11_read_11 (by first | decide | assumption | omega) (by first | rfl | assumption) (by rfl) ?_
  refine Zw_iload_1 dX11_read_14 ?_
  refine Zw_ialdnv (t) (nI n) dX11_read_15 (by first | decide | assumption | omega) (by first | rfl | assumption) rfl (by omega) (by decide) hsz ?_
  refine Zw_put lp_X11_128 dX11_read_16 (by first | decide | assumption | omega) (by first | rfl | assumption) (by rfl) (by first | rfl | assumption) (by first | rfl | assumption) ?_
  refine Zw_aload_0 dX11_read_19 ?_
  refine Zw_iconst (v := 0) dX11_read_20 (by decide) ?_
  refine Zw_put lp_X11_134 dX11_read_21 (by first | decide | assumption | omega) (by first | rfl | assumption) (by rfl) (by first | rfl | assumption) (by first | rfl | assumption) ?_
  refine Zw_aload_0 dX11_read_24 ?_
  refine Zw_iconst (v := 0) dX11_read_25 (by decide) ?_
  refine Zw_put lp_X11_168 dX11_read_26 (by first | decide | assumption | omega) (by first | rfl | assumption) (by rfl) (by first | rfl | assumption) (by first | rfl | assumption) ?_
  refine Zw_aload_0 dX11_read_29 ?_
  refine Zw_iconst (v := 0) dX11_read_30 (by decide) ?_
  refine Zw_put lp_X11_158 dX11_read_31 (by first | decide | assumption | omega) (by first | rfl | assumption) (by rfl) (by first | rfl | assumption) (by first | rfl | assumption) ?_
  refine Zw_aload_0 dX11_read_34 ?_
  refine Zw_V0 (k := 1) lm_X11_174 dX11_read_35 (by decide) (by first | decide | assumption | omega) (by first | rfl | assumption) (by rfl) (Nat.le_of_ble_eq_true rfl) ?_
  have hBb : mB (160 * t) n b (zup (zup (zup (zup (zup μ 61 18 (nI (160 * t))) 61 19 (nI n)) 61 20 0) 61 24 0) 61 25 0) := ⟨by omega, hn, rfl, rfl, fun i hi => by subst hbb; rfl, hby⟩
  have hR0 : mR μ (zup (zup (zup (zup (zup μ 61 18 (nI (160 * t))) 61 19 (nI n)) 61 20 0) 61 24 0) 61 25 0) := ((((mR.refl μ).up (by omega)).up (by omega)).up (by omega) |>.up (by omega)).up (by omega)
  refine s_mnext (i := 0) hBb rfl (Nat.zero_le _) (fun μb τb onb Sb => ?_)
  have ob := onb.off
  have Ib : mI (160 * t) n 0 b nm μb τb 0 := ⟨hBb.off ob, Nat.zero_le _, fun j hj => by rw [ob.2 (12 + j) (by omega) (by omega) (by omega) (by omega) (by omega) (by omega), hR0.2 (12 + j) (by omega)]; exact hnm j hj, (onb.2 24 (by decide) (by decide) (by decide)).trans rfl, (onb.2 25 (by decide) (by decide) (by decide)).trans rfl, Sb⟩
  refine Zw_aload_0 dX11_read_38 ?_
  refine Zw_aload_0 dX11_read_39 ?_
  refine Zw_bipush (v := 103) dX11_read_40 (by decide) ?_
  refine Zw_bipush (v := 111) dX11_read_42 (by decide) ?_
  refine Zw_bipush (v := 101) dX11_read_44 (by decide) ?_
  refine Zw_bipush (v := 115) dX11_read_46 (by decide) ?_
  refine Zw_iconst (v := 0) dX11_read_48 (by decide) ?_
  refine Zw_iconst (v := 0) dX11_read_49 (by decide) ?_
  refine Zw_iconst (v := 0) dX11_read_50 (by decide) ?_
  refine Zw_iconst (v := 0) dX11_read_51 (by decide) ?_
  refine Zw_V8 (k := 2) lm_X11_177 dX11_read_52 (by decide) (by first | decide | assumption | omega) (by first | rfl | assumption) (by rfl) (Nat.le_of_ble_eq_true rfl) ?_
  refine s_word (w := 0) Ib.1 Ib.2.1 Ib.2.2.2.2.1 Ib.2.2.2.2.2 (by decide) (by decide +kernel) (fun w1 => ?_) (fun w1 => ?_)
  all_goals rw [mw_tok (by decide), show k_wt 0 = 13 from rfl] at w1
  · refine Zw_V1 (k := 40) lm_X11_322 dX11_read_55 (by decide) (by first | decide | assumption | omega) (by first | rfl | assumption) (by rfl) (Nat.le_of_ble_eq_true rfl) ?_
    refine s_part1 Ib (by omega) (by omega) (fun f1 v1 μ1 τ1 e1 x1 => ?_) (fun v1 c1 q1 μ1 τ1 e1 o1 I1 => ?_)
    · refine Zw_istore_3 dX11_read_58 rfl ?_
      refine Zw_aload_0 dX11_read_59 ?_
      refine Zw_getv (1) lf_X11_158 dX11_read_60 (by first | decide | assumption | omega) (by first | rfl | assumption) (by rfl) x1.2.1 ?_
      refine Zw_if_eq 70 dX11_read_63 (by decide) (fun c => absurd c (by decide)) (fun _ => ?_)
      refine Zw_iconst (v := 0) dX11_read_66 (by decide) ?_
      refine Zw_goto 91 dX11_read_67 (by decide) ?_
      refine Zw_istore_4 dX11_read_91 rfl ?_
      refine Zw_aload_0 dX11_read_93 ?_
      refine Zw_getv (1) lf_X11_158 dX11_read_94 (by first | decide | assumption | omega) (by first | rfl | assumption) (by rfl) x1.2.1 ?_
      refine Zw_if_eq 104 dX11_read_97 (by decide) (fun c => absurd c (by decide)) (fun _ => ?_)
      refine Zw_iconst (v := 0) dX11_read_100 (by decide) ?_
      refine Zw_goto 124 dX11_read_101 (by decide) ?_
      refine Zw_istore_5 dX11_read_124 rfl ?_
      refine Zw_aload_0 dX11_read_126 ?_
      refine Zw_getv (1) lf_X11_158 dX11_read_127 (by first | decide | assumption | omega) (by first | rfl | assumption) (by rfl) x1.2.1 ?_
      refine Zw_if_ne 144 dX11_read_130 (by decide) (fun _ => ?_) (fun c => absurd c (by decide))
      refine Zw_iload_2 dX11_read_144 ?_
      refine Zw_if_ne 152 dX11_read_145 (by decide) (fun c => absurd c (by decide)) (fun _ => ?_)
      refine Zw_iload_3 dX11_read_148 ?_
      refine Zw_goto 164 dX11_read_149 (by decide) ?_
      refine Zw_ireturn dX11_read_164 (by first | rfl | assumption) ?_
      have hx := mX.tr ob x1
      exact hF _ _ _ _ (by unfold d_read; rw [show d_p1 b nm n 0 0 = .inl f1 by rw [d_p1, if_pos (by omega)]; exact e1]) (mR.tr (hR0) hx.1.R) hx.2.1 hx.2.2
    · refine Zw_istore_3 dX11_read_58 rfl ?_
      refine Zw_aload_0 dX11_read_59 ?_
      refine Zw_getv (0) lf_X11_158 dX11_read_60 (by first | decide | assumption | omega) (by first | rfl | assumption) (by rfl) I1.2.2.2.2.1 ?_
      refine Zw_if_eq 70 dX11_read_63 (by decide) (fun _ => ?_) (fun c => absurd c (by decide))
      refine Zw_aload_0 dX11_read_70 ?_
      refine Zw_aload_0 dX11_read_71 ?_
      refine Zw_bipush (v := 115) dX11_read_72 (by decide) ?_
      refine Zw_bipush (v := 116) dX11_read_74 (by decide) ?_
      refine Zw_bipush (v := 97) dX11_read_76 (by decide) ?_
      refine Zw_bipush (v := 121) dX11_read_78 (by decide) ?_
      refine Zw_bipush (v := 115) dX11_read_80 (by decide) ?_
      refine Zw_iconst (v := 0) dX11_read_82 (by decide) ?_
      refine Zw_iconst (v := 0) dX11_read_83 (by decide) ?_
      refine Zw_iconst (v := 0) dX11_read_84 (by decide) ?_
      refine Zw_V8 (k := 2) lm_X11_177 dX11_read_85 (by decide) (by first | decide | assumption | omega) (by first | rfl | assumption) (by rfl) (Nat.le_of_ble_eq_true rfl) ?_
      refine s_word (w := 1) I1.1 I1.2.1 I1.2.2.2.2.1 I1.2.2.2.2.2 (by decide) (by decide +kernel) (fun w2 => ?_) (fun w2 => ?_)
      all_goals rw [mw_tok (by decide), show k_wt 1 = 14 from rfl] at w2
      · refine Zw_V1 (k := 40) lm_X11_322 dX11_read_88 (by decide) (by first | decide | assumption | omega) (by first | rfl | assumption) (by rfl) (Nat.le_of_ble_eq_true rfl) ?_
        refine s_part1 I1 (by omega) (by omega) (fun f2 v2 μ2 τ2 e2 x2 => ?_) (fun v2 c2 q2 μ2 τ2 e2 o2 I2 => ?_)
        · refine Zw_istore_4 dX11_read_91 rfl ?_
          refine Zw_aload_0 dX11_read_93 ?_
          refine Zw_getv (1) lf_X11_158 dX11_read_94 (by first | decide | assumption | omega) (by first | rfl | assumption) (by rfl) x2.2.1 ?_
          refine Zw_if_eq 104 dX11_read_97 (by decide) (fun c => absurd c (by decide)) (fun _ => ?_)
          refine Zw_iconst (v := 0) dX11_read_100 (by decide) ?_
          refine Zw_goto 124 dX11_read_101 (by decide) ?_
          refine Zw_istore_5 dX11_read_124 rfl ?_
          refine Zw_aload_0 dX11_read_126 ?_
          refine Zw_getv (1) lf_X11_158 dX11_read_127 (by first | decide | assumption | omega) (by first | rfl | assumption) (by rfl) x2.2.1 ?_
          refine Zw_if_ne 144 dX11_read_130 (by decide) (fun _ => ?_) (fun c => absurd c (by decide))
          refine Zw_iload_2 dX11_read_144 ?_
          refine Zw_if_ne 152 dX11_read_145 (by decide) (fun c => absurd c (by decide)) (fun _ => ?_)
          refine Zw_iload_3 dX11_read_148 ?_
          refine Zw_goto 164 dX11_read_149 (by decide) ?_
          refine Zw_ireturn dX11_read_164 (by first | rfl | assumption) ?_
          have hx := mX.tr (mOff.tr ob o1) x2
          exact hF _ _ _ _ (by unfold d_read; rw [show d_p1 b nm n 0 0 = .inr (v1, c1, q1) by rw [d_p1, if_pos (by omega)]; exact e1]; dsimp only; unfold d_r1; rw [show d_p1 b nm n 1 q1 = .inl f2 by rw [d_p1, if_pos (by omega)]; exact e2]) (mR.tr (hR0) hx.1.R) hx.2.1 hx.2.2
        · refine Zw_istore_4 dX11_read_91 rfl ?_
          refine Zw_aload_0 dX11_read_93 ?_
          refine Zw_getv (0) lf_X11_158 dX11_read_94 (by first | decide | assumption | omega) (by first | rfl | assumption) (by rfl) I2.2.2.2.2.1 ?_
          refine Zw_if_eq 104 dX11_read_97 (by decide) (fun _ => ?_) (fun c => absurd c (by decide))
          refine Zw_aload_0 dX11_read_104 ?_
          refine Zw_aload_0 dX11_read_105 ?_
          refine Zw_bipush (v := 115) dX11_read_106 (by decide) ?_
          refine Zw_bipush (v := 101) dX11_read_108 (by decide) ?_
          refine Zw_bipush (v := 101) dX11_read_110 (by decide) ?_
          refine Zw_bipush (v := 115) dX11_read_112 (by decide) ?_
          refine Zw_iconst (v := 0) dX11_read_114 (by decide) ?_
          refine Zw_iconst (v := 0) dX11_read_115 (by decide) ?_
          refine Zw_iconst (v := 0) dX11_read_116 (by decide) ?_
          refine Zw_iconst (v := 0) dX11_read_117 (by decide) ?_
          refine Zw_V8 (k := 2) lm_X11_177 dX11_read_118 (by decide) (by first | decide | assumption | omega) (by first | rfl | assumption) (by rfl) (Nat.le_of_ble_eq_true rfl) ?_
          refine s_word (w := 2) I2.1 I2.2.1 I2.2.2.2.2.1 I2.2.2.2.2.2 (by decide) (by decide +kernel) (fun w3 => ?_) (fun w3 => ?_)
          all_goals rw [mw_tok (by decide), show k_wt 2 = 15 from rfl] at w3
          · refine Zw_V1 (k := 40) lm_X11_322 dX11_read_121 (by decide) (by first | decide | assumption | omega) (by first | rfl | assumption) (by rfl) (Nat.le_of_ble_eq_true rfl) ?_
            refine s_part1 I2 (by omega) (by omega) (fun f3 v3 μ3 τ3 e3 x3 => ?_) (fun v3 c3 q3 μ3 τ3 e3 o3 I3 => ?_)
            · refine Zw_istore_5 dX11_read_124 rfl ?_
              refine Zw_aload_0 dX11_read_126 ?_
              refine Zw_getv (1) lf_X11_158 dX11_read_127 (by first | decide | assumption | omega) (by first | rfl | assumption) (by rfl) x3.2.1 ?_
              refine Zw_if_ne 144 dX11_read_130 (by decide) (fun _ => ?_) (fun c => absurd c (by decide))
              refine Zw_iload_2 dX11_read_144 ?_
              refine Zw_if_ne 152 dX11_read_145 (by decide) (fun c => absurd c (by decide)) (fun _ => ?_)
              refine Zw_iload_3 dX11_read_148 ?_
              refine Zw_goto 164 dX11_read_149 (by decide) ?_
              refine Zw_ireturn dX11_read_164 (by first | rfl | assumption) ?_
              have hx := mX.tr (mOff.tr (mOff.tr ob o1) o2) x3
              exact hF _ _ _ _ (by unfold d_read; rw [show d_p1 b nm n 0 0 = .inr (v1, c1, q1) by rw [d_p1, if_pos (by omega)]; exact e1]; dsimp only; unfold d_r1; rw [show d_p1 b nm n 1 q1 = .inr (v2, c2, q2) by rw [d_p1, if_pos (by omega)]; exact e2]; dsimp only; unfold d_r2; rw [show d_p1 b nm n 2 q2 = .inl f3 by rw [d_p1, if_pos (by omega)]; exact e3]) (mR.tr (hR0) hx.1.R) hx.2.1 hx.2.2
            · refine Zw_istore_5 dX11_read_124 rfl ?_
              refine Zw_aload_0 dX11_read_126 ?_
              refine Zw_getv (0) lf_X11_158 dX11_read_127 (by first | decide | assumption | omega) (by first | rfl | assumption) (by rfl) I3.2.2.2.2.1 ?_
              refine Zw_if_ne 144 dX11_read_130 (by decide) (fun c => absurd c (by decide)) (fun _ => ?_)
              refine Zw_aload_0 dX11_read_133 ?_
              have hsn := k_sgn_ne (b (k_pl b n q3))
              have hkd := m_kd_of b n q3
              have hkl := m_kd_lt b n (k_pl b n q3)
              refine Zw_getv (nI (m_kd b n (k_pl b n q3))) lf_X11_143 dX11_read_134 (by first | decide | assumption | omega) (by first | rfl | assumption) (by rfl) I3.2.2.2.2.2.2.1 ?_
              refine Zw_nif_eq ((m_kd b n (k_pl b n q3))) 144 dX11_read_137 (by decide) rfl (by omega) (fun c137 => ?_) (fun c137 => ?_)
              · refine Zw_iload_2 dX11_read_144 ?_
                refine Zw_if_ne 152 dX11_read_145 (by decide) (fun c => absurd c (by decide)) (fun _ => ?_)
                refine Zw_iload_3 dX11_read_148 ?_
                refine Zw_goto 164 dX11_read_149 (by decide) ?_
                refine Zw_ireturn dX11_read_164 (by first | rfl | assumption) ?_
                exact hD _ _ _ (by unfold d_read; rw [show d_p1 b nm n 0 0 = .inr (v1, c1, q1) by rw [d_p1, if_pos (by omega)]; exact e1]; dsimp only; unfold d_r1; rw [show d_p1 b nm n 1 q1 = .inr (v2, c2, q2) by rw [d_p1, if_pos (by omega)]; exact e2]; dsimp only; unfold d_r2; rw [show d_p1 b nm n 2 q2 = .inr (v3, c3, q3) by rw [d_p1, if_pos (by omega)]; exact e3]; dsimp only; unfold d_r3; rw [if_pos (by omega)]) (mR.tr hR0 (mOff.R (mOff.tr (mOff.tr (mOff.tr ob o1) o2) o3))) I3.2.2.2.2.1
              · refine Zw_aload_0 dX11_read_140 ?_
                refine Zw_V0 (k := 0) lm_X11_171 dX11_read_141 (by decide) (by first | decide | assumption | omega) (by first | rfl | assumption) (by rfl) (Nat.le_of_ble_eq_true rfl) ?_
                refine s_fail0 I3.2.2.2.2.1 I3.2.2.2.2.2.1 ?_
                refine Zw_iload_2 dX11_read_144 ?_
                refine Zw_if_ne 152 dX11_read_145 (by decide) (fun c => absurd c (by decide)) (fun _ => ?_)
                refine Zw_iload_3 dX11_read_148 ?_
                refine Zw_goto 164 dX11_read_149 (by decide) ?_
                refine Zw_ireturn dX11_read_164 (by first | rfl | assumption) ?_
                have hx := mX.tr (mOff.tr (mOff.tr (mOff.tr ob o1) o2) o3) (mX.of (p := k_pl b n q3))
                exact hF _ _ _ _ (by unfold d_read; rw [show d_p1 b nm n 0 0 = .inr (v1, c1, q1) by rw [d_p1, if_pos (by omega)]; exact e1]; dsimp only; unfold d_r1; rw [show d_p1 b nm n 1 q1 = .inr (v2, c2, q2) by rw [d_p1, if_pos (by omega)]; exact e2]; dsimp only; unfold d_r2; rw [show d_p1 b nm n 2 q2 = .inr (v3, c3, q3) by rw [d_p1, if_pos (by omega)]; exact e3]; dsimp only; unfold d_r3; rw [if_neg (show ¬ k_tok b n q3 = 18 by omega)]) (mR.tr hR0 hx.1.R) hx.2.1 hx.2.2
          · refine Zw_V1 (k := 40) lm_X11_322 dX11_read_121 (by decide) (by first | decide | assumption | omega) (by first | rfl | assumption) (by rfl) (Nat.le_of_ble_eq_true rfl) ?_
            refine s_part0 I2 (fun v3 μ3 τ3 x3 => ?_)
            refine Zw_istore_5 dX11_read_124 rfl ?_
            refine Zw_aload_0 dX11_read_126 ?_
            refine Zw_getv (1) lf_X11_158 dX11_read_127 (by first | decide | assumption | omega) (by first | rfl | assumption) (by rfl) x3.2.1 ?_
            refine Zw_if_ne 144 dX11_read_130 (by decide) (fun _ => ?_) (fun c => absurd c (by decide))
            refine Zw_iload_2 dX11_read_144 ?_
            refine Zw_if_ne 152 dX11_read_145 (by decide) (fun c => absurd c (by decide)) (fun _ => ?_)
            refine Zw_iload_3 dX11_read_148 ?_
            refine Zw_goto 164 dX11_read_149 (by decide) ?_
            refine Zw_ireturn dX11_read_164 (by first | rfl | assumption) ?_
            have hx := mX.tr (mOff.tr (mOff.tr ob o1) o2) x3
            exact hF _ _ _ _ (by unfold d_read; rw [show d_p1 b nm n 0 0 = .inr (v1, c1, q1) by rw [d_p1, if_pos (by omega)]; exact e1]; dsimp only; unfold d_r1; rw [show d_p1 b nm n 1 q1 = .inr (v2, c2, q2) by rw [d_p1, if_pos (by omega)]; exact e2]; dsimp only; unfold d_r2; rw [show d_p1 b nm n 2 q2 = .inl (k_pl b n q2) by rw [d_p1, if_neg (by omega)]]) (mR.tr (hR0) hx.1.R) hx.2.1 hx.2.2
      · refine Zw_V1 (k := 40) lm_X11_322 dX11_read_88 (by decide) (by first | decide | assumption | omega) (by first | rfl | assumption) (by rfl) (Nat.le_of_ble_eq_true rfl) ?_
        refine s_part0 I1 (fun v2 μ2 τ2 x2 => ?_)
        refine Zw_istore_4 dX11_read_91 rfl ?_
        refine Zw_aload_0 dX11_read_93 ?_
        refine Zw_getv (1) lf_X11_158 dX11_read_94 (by first | decide | assumption | omega) (by first | rfl | assumption) (by rfl) x2.2.1 ?_
        refine Zw_if_eq 104 dX11_read_97 (by decide) (fun c => absurd c (by decide)) (fun _ => ?_)
        refine Zw_iconst (v := 0) dX11_read_100 (by decide) ?_
        refine Zw_goto 124 dX11_read_101 (by decide) ?_
        refine Zw_istore_5 dX11_read_124 rfl ?_
        refine Zw_aload_0 dX11_read_126 ?_
        refine Zw_getv (1) lf_X11_158 dX11_read_127 (by first | decide | assumption | omega) (by first | rfl | assumption) (by rfl) x2.2.1 ?_
        refine Zw_if_ne 144 dX11_read_130 (by decide) (fun _ => ?_) (fun c => absurd c (by decide))
        refine Zw_iload_2 dX11_read_144 ?_
        refine Zw_if_ne 152 dX11_read_145 (by decide) (fun c => absurd c (by decide)) (fun _ => ?_)
        refine Zw_iload_3 dX11_read_148 ?_
        refine Zw_goto 164 dX11_read_149 (by decide) ?_
        refine Zw_ireturn dX11_read_164 (by first | rfl | assumption) ?_
        have hx := mX.tr (mOff.tr ob o1) x2
        exact hF _ _ _ _ (by unfold d_read; rw [show d_p1 b nm n 0 0 = .inr (v1, c1, q1) by rw [d_p1, if_pos (by omega)]; exact e1]; dsimp only; unfold d_r1; rw [show d_p1 b nm n 1 q1 = .inl (k_pl b n q1) by rw [d_p1, if_neg (by omega)]]) (mR.tr (hR0) hx.1.R) hx.2.1 hx.2.2
  · refine Zw_V1 (k := 40) lm_X11_322 dX11_read_55 (by decide) (by first | decide | assumption | omega) (by first | rfl | assumption) (by rfl) (Nat.le_of_ble_eq_true rfl) ?_
    refine s_part0 Ib (fun v1 μ1 τ1 x1 => ?_)
    refine Zw_istore_3 dX11_read_58 rfl ?_
    refine Zw_aload_0 dX11_read_59 ?_
    refine Zw_getv (1) lf_X11_158 dX11_read_60 (by first | decide | assumption | omega) (by first | rfl | assumption) (by rfl) x1.2.1 ?_
    refine Zw_if_eq 70 dX11_read_63 (by decide) (fun c => absurd c (by decide)) (fun _ => ?_)
    refine Zw_iconst (v := 0) dX11_read_66 (by decide) ?_
    refine Zw_goto 91 dX11_read_67 (by decide) ?_
    refine Zw_istore_4 dX11_read_91 rfl ?_
    refine Zw_aload_0 dX11_read_93 ?_
    refine Zw_getv (1) lf_X11_158 dX11_read_94 (by first | decide | assumption | omega) (by first | rfl | assumption) (by rfl) x1.2.1 ?_
    refine Zw_if_eq 104 dX11_read_97 (by decide) (fun c => absurd c (by decide)) (fun _ => ?_)
    refine Zw_iconst (v := 0) dX11_read_100 (by decide) ?_
    refine Zw_goto 124 dX11_read_101 (by decide) ?_
    refine Zw_istore_5 dX11_read_124 rfl ?_
    refine Zw_aload_0 dX11_read_126 ?_
    refine Zw_getv (1) lf_X11_158 dX11_read_127 (by first | decide | assumption | omega) (by first | rfl | assumption) (by rfl) x1.2.1 ?_
    refine Zw_if_ne 144 dX11_read_130 (by decide) (fun _ => ?_) (fun c => absurd c (by decide))
    refine Zw_iload_2 dX11_read_144 ?_
    refine Zw_if_ne 152 dX11_read_145 (by decide) (fun c => absurd c (by decide)) (fun _ => ?_)
    refine Zw_iload_3 dX11_read_148 ?_
    refine Zw_goto 164 dX11_read_149 (by decide) ?_
    refine Zw_ireturn dX11_read_164 (by first | rfl | assumption) ?_
    have hx := mX.tr ob x1
    exact hF _ _ _ _ (by unfold d_read; rw [show d_p1 b nm n 0 0 = .inl (k_pl b n 0) by rw [d_p1, if_neg (by omega)]]) (mR.tr (hR0) hx.1.R) hx.2.1 hx.2.2
set_option maxRecDepth 20000 in
theorem s_read1 {t n : Nat} {b nm : Nat → Int32} {Q : zQ} {μ : zMu} {τ : Int64} (ht : t < 6) (hsz : μ 63 t = nI n) (hn : n ≤ 160) (hbb : b = m_b μ t) (hby : k_by b n) (hnm : ∀ j, j < 6 → μ 61 (12 + j) = nm j) (hF : ∀ f v μ2 τ2, d_read b nm n = .inl f → mR μ μ2 → μ2 61 25 = 1 → μ2 61 26 = nI f → Q (some (.int v)) μ2 τ2) (hD : ∀ r μ2 τ2, d_read b nm n = .inr r → mR μ μ2 → μ2 61 25 = 0 → Q (some (.int (q_p3 r 1))) μ2 τ2) : Zc 41 yX11_read cX11_read 6 (some .int) [.ref 61, .int (nI t), .int 1] μ τ Q := by
  refine Zc.mk 3 [.ref 61, .int (nI t), .int 1, .null, .null, .null] rfl (by decide) (Nat.le_of_ble_eq_true rfl) ?_
  refine Zw_aload_0 dX11_read_0 ?_
  refine Zw_sipush (v := 160) dX11_read_1 (by decide) ?_
  refine Zw_iload_1 dX11_read_4 ?_
  refine Zw_nmul (160) (t) dX11_read_5 rfl rfl ?_
  refine Zw_put lp_X11_131 dX11_read_6 (by first | decide | assumption | omega) (by first | rfl | assumption) (by rfl) (by first | rfl | assumption) (by first | rfl | assumption) ?_
  refine Zw_aload_0 dX11_read_9 ?_
  refine Zw_aload_0 dX11_read_10 ?_
  refine Zw_getr 63 lf_X11_17 dX11_read_11 (by first | decide | assumption | omega) (by first | rfl | assumption) (by rfl) ?_
  refine Zw_iload_1 dX11_read_14 ?_
  refine Zw_ialdnv (t) (nI n) dX11_read_15 (by first | decide | assumption | omega) (by first | rfl | assumption) rfl (by omega) (by decide) hsz ?_
  refine Zw_put lp_X11_128 dX11_read_16 (by first | decide | assumption | omega) (by first | rfl | assumption) (by rfl) (by first | rfl | assumption) (by first | rfl | assumption) ?_
  refine Zw_aload_0 dX11_read_19 ?_
  refine Zw_iconst (v := 0) dX11_read_20 (by decide) ?_
  refine Zw_put lp_X11_134 dX11_read_21 (by first | decide | assumption | omega) (by first | rfl | assumption) (by rfl) (by first | rfl | assumption) (by first | rfl | assumption) ?_
  refine Zw_aload_0 dX11_read_24 ?_
  refine Zw_iconst (v := 0) dX11_read_25 (by decide) ?_
  refine Zw_put lp_X11_168 dX11_read_26 (by first | decide | assumption | omega) (by first | rfl | assumption) (by rfl) (by first | rfl | assumption) (by first | rfl | assumption) ?_
  refine Zw_aload_0 dX11_read_29 ?_
  refine Zw_iconst (v := 0) dX11_read_30 (by decide) ?_
  refine Zw_put lp_X11_158 dX11_read_31 (by first | decide | assumption | omega) (by first | rfl | assumption) (by rfl) (by first | rfl | assumption) (by first | rfl | assumption) ?_
  refine Zw_aload_0 dX11_read_34 ?_
  refine Zw_V0 (k := 1) lm_X11_174 dX11_read_35 (by decide) (by first | decide | assumption | omega) (by first | rfl | assumption) (by rfl) (Nat.le_of_ble_eq_true rfl) ?_
  have hBb : mB (160 * t) n b (zup (zup (zup (zup (zup μ 61 18 (nI (160 * t))) 61 19 (nI n)) 61 20 0) 61 24 0) 61 25 0) := ⟨by omega, hn, rfl, rfl, fun i hi => by subst hbb; rfl, hby⟩
  have hR0 : mR μ (zup (zup (zup (zup (zup μ 61 18 (nI (160 * t))) 61 19 (nI n)) 61 20 0) 61 24 0) 61 25 0) := ((((mR.refl μ).up (by omega)).up (by omega)).up (by omega) |>.up (by omega)).up (by omega)
  refine s_mnext (i := 0) hBb rfl (Nat.zero_le _) (fun μb τb onb Sb => ?_)
  have ob := onb.off
  have Ib : mI (160 * t) n 0 b nm μb τb 0 := ⟨hBb.off ob, Nat.zero_le _, fun j hj => by rw [ob.2 (12 + j) (by omega) (by omega) (by omega) (by omega) (by omega) (by omega), hR0.2 (12 + j) (by omega)]; exact hnm j hj, (onb.2 24 (by decide) (by decide) (by decide)).trans rfl, (onb.2 25 (by decide) (by decide) (by decide)).trans rfl, Sb⟩
  refine Zw_aload_0 dX11_read_38 ?_
  refine Zw_aload_0 dX11_read_39 ?_
  refine Zw_bipush (v := 103) dX11_read_40 (by decide) ?_
  refine Zw_bipush (v := 111) dX11_read_42 (by decide) ?_
  refine Zw_bipush (v := 101) dX11_read_44 (by decide) ?_
  refine Zw_bipush (v := 115) dX11_read_46 (by decide) ?_
  refine Zw_iconst (v := 0) dX11_read_48 (by decide) ?_
  refine Zw_iconst (v := 0) dX11_read_49 (by decide) ?_
  refine Zw_iconst (v := 0) dX11_read_50 (by decide) ?_
  refine Zw_iconst (v := 0) dX11_read_51 (by decide) ?_
  refine Zw_V8 (k := 2) lm_X11_177 dX11_read_52 (by decide) (by first | decide | assumption | omega) (by first | rfl | assumption) (by rfl) (Nat.le_of_ble_eq_true rfl) ?_
  refine s_word (w := 0) Ib.1 Ib.2.1 Ib.2.2.2.2.1 Ib.2.2.2.2.2 (by decide) (by decide +kernel) (fun w1 => ?_) (fun w1 => ?_)
  all_goals rw [mw_tok (by decide), show k_wt 0 = 13 from rfl] at w1
  · refine Zw_V1 (k := 40) lm_X11_322 dX11_read_55 (by decide) (by first | decide | assumption | omega) (by first | rfl | assumption) (by rfl) (Nat.le_of_ble_eq_true rfl) ?_
    refine s_part1 Ib (by omega) (by omega) (fun f1 v1 μ1 τ1 e1 x1 => ?_) (fun v1 c1 q1 μ1 τ1 e1 o1 I1 => ?_)
    · refine Zw_istore_3 dX11_read_58 rfl ?_
      refine Zw_aload_0 dX11_read_59 ?_
      refine Zw_getv (1) lf_X11_158 dX11_read_60 (by first | decide | assumption | omega) (by first | rfl | assumption) (by rfl) x1.2.1 ?_
      refine Zw_if_eq 70 dX11_read_63 (by decide) (fun c => absurd c (by decide)) (fun _ => ?_)
      refine Zw_iconst (v := 0) dX11_read_66 (by decide) ?_
      refine Zw_goto 91 dX11_read_67 (by decide) ?_
      refine Zw_istore_4 dX11_read_91 rfl ?_
      refine Zw_aload_0 dX11_read_93 ?_
      refine Zw_getv (1) lf_X11_158 dX11_read_94 (by first | decide | assumption | omega) (by first | rfl | assumption) (by rfl) x1.2.1 ?_
      refine Zw_if_eq 104 dX11_read_97 (by decide) (fun c => absurd c (by decide)) (fun _ => ?_)
      refine Zw_iconst (v := 0) dX11_read_100 (by decide) ?_
      refine Zw_goto 124 dX11_read_101 (by decide) ?_
      refine Zw_istore_5 dX11_read_124 rfl ?_
      refine Zw_aload_0 dX11_read_126 ?_
      refine Zw_getv (1) lf_X11_158 dX11_read_127 (by first | decide | assumption | omega) (by first | rfl | assumption) (by rfl) x1.2.1 ?_
      refine Zw_if_ne 144 dX11_read_130 (by decide) (fun _ => ?_) (fun c => absurd c (by decide))
      refine Zw_iload_2 dX11_read_144 ?_
      refine Zw_if_ne 152 dX11_read_145 (by decide) (fun _ => ?_) (fun c => absurd c (by decide))
      refine Zw_iload_2 dX11_read_152 ?_
      refine Zw_iconst (v := 1) dX11_read_153 (by decide) ?_
      refine Zw_icmp_ne 162 dX11_read_154 (by decide) (fun c => absurd c (by decide)) (fun _ => ?_)
      refine Zw_iload_4 dX11_read_157 ?_
      refine Zw_goto 164 dX11_read_159 (by decide) ?_
      refine Zw_ireturn dX11_read_164 (by first | rfl | assumption) ?_
      have hx := mX.tr ob x1
      exact hF _ _ _ _ (by unfold d_read; rw [show d_p1 b nm n 0 0 = .inl f1 by rw [d_p1, if_pos (by omega)]; exact e1]) (mR.tr (hR0) hx.1.R) hx.2.1 hx.2.2
    · refine Zw_istore_3 dX11_read_58 rfl ?_
      refine Zw_aload_0 dX11_read_59 ?_
      refine Zw_getv (0) lf_X11_158 dX11_read_60 (by first | decide | assumption | omega) (by first | rfl | assumption) (by rfl) I1.2.2.2.2.1 ?_
      refine Zw_if_eq 70 dX11_read_63 (by decide) (fun _ => ?_) (fun c => absurd c (by decide))
      refine Zw_aload_0 dX11_read_70 ?_
      refine Zw_aload_0 dX11_read_71 ?_
      refine Zw_bipush (v := 115) dX11_read_72 (by decide) ?_
      refine Zw_bipush (v := 116) dX11_read_74 (by decide) ?_
      refine Zw_bipush (v := 97) dX11_read_76 (by decide) ?_
      refine Zw_bipush (v := 121) dX11_read_78 (by decide) ?_
      refine Zw_bipush (v := 115) dX11_read_80 (by decide) ?_
      refine Zw_iconst (v := 0) dX11_read_82 (by decide) ?_
      refine Zw_iconst (v := 0) dX11_read_83 (by decide) ?_
      refine Zw_iconst (v := 0) dX11_read_84 (by decide) ?_
      refine Zw_V8 (k := 2) lm_X11_177 dX11_read_85 (by decide) (by first | decide | assumption | omega) (by first | rfl | assumption) (by rfl) (Nat.le_of_ble_eq_true rfl) ?_
      refine s_word (w := 1) I1.1 I1.2.1 I1.2.2.2.2.1 I1.2.2.2.2.2 (by decide) (by decide +kernel) (fun w2 => ?_) (fun w2 => ?_)
      all_goals rw [mw_tok (by decide), show k_wt 1 = 14 from rfl] at w2
      · refine Zw_V1 (k := 40) lm_X11_322 dX11_read_88 (by decide) (by first | decide | assumption | omega) (by first | rfl | assumption) (by rfl) (Nat.le_of_ble_eq_true rfl) ?_
        refine s_part1 I1 (by omega) (by omega) (fun f2 v2 μ2 τ2 e2 x2 => ?_) (fun v2 c2 q2 μ2 τ2 e2 o2 I2 => ?_)
        · refine Zw_istore_4 dX11_read_91 rfl ?_
          refine Zw_aload_0 dX11_read_93 ?_
          refine Zw_getv (1) lf_X11_158 dX11_read_94 (by first | decide | assumption | omega) (by first | rfl | assumption) (by rfl) x2.2.1 ?_
          refine Zw_if_eq 104 dX11_read_97 (by decide) (fun c => absurd c (by decide)) (fun _ => ?_)
          refine Zw_iconst (v := 0) dX11_read_100 (by decide) ?_
          refine Zw_goto 124 dX11_read_101 (by decide) ?_
          refine Zw_istore_5 dX11_read_124 rfl ?_
          refine Zw_aload_0 dX11_read_126 ?_
          refine Zw_getv (1) lf_X11_158 dX11_read_127 (by first | decide | assumption | omega) (by first | rfl | assumption) (by rfl) x2.2.1 ?_
          refine Zw_if_ne 144 dX11_read_130 (by decide) (fun _ => ?_) (fun c => absurd c (by decide))
          refine Zw_iload_2 dX11_read_144 ?_
          refine Zw_if_ne 152 dX11_read_145 (by decide) (fun _ => ?_) (fun c => absurd c (by decide))
          refine Zw_iload_2 dX11_read_152 ?_
          refine Zw_iconst (v := 1) dX11_read_153 (by decide) ?_
          refine Zw_icmp_ne 162 dX11_read_154 (by decide) (fun c => absurd c (by decide)) (fun _ => ?_)
          refine Zw_iload_4 dX11_read_157 ?_
          refine Zw_goto 164 dX11_read_159 (by decide) ?_
          refine Zw_ireturn dX11_read_164 (by first | rfl | assumption) ?_
          have hx := mX.tr (mOff.tr ob o1) x2
          exact hF _ _ _ _ (by unfold d_read; rw [show d_p1 b nm n 0 0 = .inr (v1, c1, q1) by rw [d_p1, if_pos (by omega)]; exact e1]; dsimp only; unfold d_r1; rw [show d_p1 b nm n 1 q1 = .inl f2 by rw [d_p1, if_pos (by omega)]; exact e2]) (mR.tr (hR0) hx.1.R) hx.2.1 hx.2.2
        · refine Zw_istore_4 dX11_read_91 rfl ?_
          refine Zw_aload_0 dX11_read_93 ?_
          refine Zw_getv (0) lf_X11_158 dX11_read_94 (by first | decide | assumption | omega) (by first | rfl | assumption) (by rfl) I2.2.2.2.2.1 ?_
          refine Zw_if_eq 104 dX11_read_97 (by decide) (fun _ => ?_) (fun c => absurd c (by decide))
          refine Zw_aload_0 dX11_read_104 ?_
          refine Zw_aload_0 dX11_read_105 ?_
          refine Zw_bipush (v := 115) dX11_read_106 (by decide) ?_
          refine Zw_bipush (v := 101) dX11_read_108 (by decide) ?_
          refine Zw_bipush (v := 101) dX11_read_110 (by decide) ?_
          refine Zw_bipush (v := 115) dX11_read_112 (by decide) ?_
          refine Zw_iconst (v := 0) dX11_read_114 (by decide) ?_
          refine Zw_iconst (v := 0) dX11_read_115 (by decide) ?_
          refine Zw_iconst (v := 0) dX11_read_116 (by decide) ?_
          refine Zw_iconst (v := 0) dX11_read_117 (by decide) ?_
          refine Zw_V8 (k := 2) lm_X11_177 dX11_read_118 (by decide) (by first | decide | assumption | omega) (by first | rfl | assumption) (by rfl) (Nat.le_of_ble_eq_true rfl) ?_
          refine s_word (w := 2) I2.1 I2.2.1 I2.2.2.2.2.1 I2.2.2.2.2.2 (by decide) (by decide +kernel) (fun w3 => ?_) (fun w3 => ?_)
          all_goals rw [mw_tok (by decide), show k_wt 2 = 15 from rfl] at w3
          · refine Zw_V1 (k := 40) lm_X11_322 dX11_read_121 (by decide) (by first | decide | assumption | omega) (by first | rfl | assumption) (by rfl) (Nat.le_of_ble_eq_true rfl) ?_
            refine s_part1 I2 (by omega) (by omega) (fun f3 v3 μ3 τ3 e3 x3 => ?_) (fun v3 c3 q3 μ3 τ3 e3 o3 I3 => ?_)
            · refine Zw_istore_5 dX11_read_124 rfl ?_
              refine Zw_aload_0 dX11_read_126 ?_
              refine Zw_getv (1) lf_X11_158 dX11_read_127 (by first | decide | assumption | omega) (by first | rfl | assumption) (by rfl) x3.2.1 ?_
              refine Zw_if_ne 144 dX11_read_130 (by decide) (fun _ => ?_) (fun c => absurd c (by decide))
              refine Zw_iload_2 dX11_read_144 ?_
              refine Zw_if_ne 152 dX11_read_145 (by decide) (fun _ => ?_) (fun c => absurd c (by decide))
              refine Zw_iload_2 dX11_read_152 ?_
              refine Zw_iconst (v := 1) dX11_read_153 (by decide) ?_
              refine Zw_icmp_ne 162 dX11_read_154 (by decide) (fun c => absurd c (by decide)) (fun _ => ?_)
              refine Zw_iload_4 dX11_read_157 ?_
              refine Zw_goto 164 dX11_read_159 (by decide) ?_
              refine Zw_ireturn dX11_read_164 (by first | rfl | assumption) ?_
              have hx := mX.tr (mOff.tr (mOff.tr ob o1) o2) x3
              exact hF _ _ _ _ (by unfold d_read; rw [show d_p1 b nm n 0 0 = .inr (v1, c1, q1) by rw [d_p1, if_pos (by omega)]; exact e1]; dsimp only; unfold d_r1; rw [show d_p1 b nm n 1 q1 = .inr (v2, c2, q2) by rw [d_p1, if_pos (by omega)]; exact e2]; dsimp only; unfold d_r2; rw [show d_p1 b nm n 2 q2 = .inl f3 by rw [d_p1, if_pos (by omega)]; exact e3]) (mR.tr (hR0) hx.1.R) hx.2.1 hx.2.2
            · refine Zw_istore_5 dX11_read_124 rfl ?_
              refine Zw_aload_0 dX11_read_126 ?_
              refine Zw_getv (0) lf_X11_158 dX11_read_127 (by first | decide | assumption | omega) (by first | rfl | assumption) (by rfl) I3.2.2.2.2.1 ?_
              refine Zw_if_ne 144 dX11_read_130 (by decide) (fun c => absurd c (by decide)) (fun _ => ?_)
              refine Zw_aload_0 dX11_read_133 ?_
              have hsn := k_sgn_ne (b (k_pl b n q3))
              have hkd := m_kd_of b n q3
              have hkl := m_kd_lt b n (k_pl b n q3)
              refine Zw_getv (nI (m_kd b n (k_pl b n q3))) lf_X11_143 dX11_read_134 (by first | decide | assumption | omega) (by first | rfl | assumption) (by rfl) I3.2.2.2.2.2.2.1 ?_
              refine Zw_nif_eq ((m_kd b n (k_pl b n q3))) 144 dX11_read_137 (by decide) rfl (by omega) (fun c137 => ?_) (fun c137 => ?_)
              · refine Zw_iload_2 dX11_read_144 ?_
                refine Zw_if_ne 152 dX11_read_145 (by decide) (fun _ => ?_) (fun c => absurd c (by decide))
                refine Zw_iload_2 dX11_read_152 ?_
                refine Zw_iconst (v := 1) dX11_read_153 (by decide) ?_
                refine Zw_icmp_ne 162 dX11_read_154 (by decide) (fun c => absurd c (by decide)) (fun _ => ?_)
                refine Zw_iload_4 dX11_read_157 ?_
                refine Zw_goto 164 dX11_read_159 (by decide) ?_
                refine Zw_ireturn dX11_read_164 (by first | rfl | assumption) ?_
                exact hD _ _ _ (by unfold d_read; rw [show d_p1 b nm n 0 0 = .inr (v1, c1, q1) by rw [d_p1, if_pos (by omega)]; exact e1]; dsimp only; unfold d_r1; rw [show d_p1 b nm n 1 q1 = .inr (v2, c2, q2) by rw [d_p1, if_pos (by omega)]; exact e2]; dsimp only; unfold d_r2; rw [show d_p1 b nm n 2 q2 = .inr (v3, c3, q3) by rw [d_p1, if_pos (by omega)]; exact e3]; dsimp only; unfold d_r3; rw [if_pos (by omega)]) (mR.tr hR0 (mOff.R (mOff.tr (mOff.tr (mOff.tr ob o1) o2) o3))) I3.2.2.2.2.1
              · refine Zw_aload_0 dX11_read_140 ?_
                refine Zw_V0 (k := 0) lm_X11_171 dX11_read_141 (by decide) (by first | decide | assumption | omega) (by first | rfl | assumption) (by rfl) (Nat.le_of_ble_eq_true rfl) ?_
                refine s_fail0 I3.2.2.2.2.1 I3.2.2.2.2.2.1 ?_
                refine Zw_iload_2 dX11_read_144 ?_
                refine Zw_if_ne 152 dX11_read_145 (by decide) (fun _ => ?_) (fun c => absurd c (by decide))
                refine Zw_iload_2 dX11_read_152 ?_
                refine Zw_iconst (v := 1) dX11_read_153 (by decide) ?_
                refine Zw_icmp_ne 162 dX11_read_154 (by decide) (fun c => absurd c (by decide)) (fun _ => ?_)
                refine Zw_iload_4 dX11_read_157 ?_
                refine Zw_goto 164 dX11_read_159 (by decide) ?_
                refine Zw_ireturn dX11_read_164 (by first | rfl | assumption) ?_
                have hx := mX.tr (mOff.tr (mOff.tr (mOff.tr ob o1) o2) o3) (mX.of (p := k_pl b n q3))
                exact hF _ _ _ _ (by unfold d_read; rw [show d_p1 b nm n 0 0 = .inr (v1, c1, q1) by rw [d_p1, if_pos (by omega)]; exact e1]; dsimp only; unfold d_r1; rw [show d_p1 b nm n 1 q1 = .inr (v2, c2, q2) by rw [d_p1, if_pos (by omega)]; exact e2]; dsimp only; unfold d_r2; rw [show d_p1 b nm n 2 q2 = .inr (v3, c3, q3) by rw [d_p1, if_pos (by omega)]; exact e3]; dsimp only; unfold d_r3; rw [if_neg (show ¬ k_tok b n q3 = 18 by omega)]) (mR.tr hR0 hx.1.R) hx.2.1 hx.2.2
          · refine Zw_V1 (k := 40) lm_X11_322 dX11_read_121 (by decide) (by first | decide | assumption | omega) (by first | rfl | assumption) (by rfl) (Nat.le_of_ble_eq_true rfl) ?_
            refine s_part0 I2 (fun v3 μ3 τ3 x3 => ?_)
            refine Zw_istore_5 dX11_read_124 rfl ?_
            refine Zw_aload_0 dX11_read_126 ?_
            refine Zw_getv (1) lf_X11_158 dX11_read_127 (by first | decide | assumption | omega) (by first | rfl | assumption) (by rfl) x3.2.1 ?_
            refine Zw_if_ne 144 dX11_read_130 (by decide) (fun _ => ?_) (fun c => absurd c (by decide))
            refine Zw_iload_2 dX11_read_144 ?_
            refine Zw_if_ne 152 dX11_read_145 (by decide) (fun _ => ?_) (fun c => absurd c (by decide))
            refine Zw_iload_2 dX11_read_152 ?_
            refine Zw_iconst (v := 1) dX11_read_153 (by decide) ?_
            refine Zw_icmp_ne 162 dX11_read_154 (by decide) (fun c => absurd c (by decide)) (fun _ => ?_)
            refine Zw_iload_4 dX11_read_157 ?_
            refine Zw_goto 164 dX11_read_159 (by decide) ?_
            refine Zw_ireturn dX11_read_164 (by first | rfl | assumption) ?_
            have hx := mX.tr (mOff.tr (mOff.tr ob o1) o2) x3
            exact hF _ _ _ _ (by unfold d_read; rw [show d_p1 b nm n 0 0 = .inr (v1, c1, q1) by rw [d_p1, if_pos (by omega)]; exact e1]; dsimp only; unfold d_r1; rw [show d_p1 b nm n 1 q1 = .inr (v2, c2, q2) by rw [d_p1, if_pos (by omega)]; exact e2]; dsimp only; unfold d_r2; rw [show d_p1 b nm n 2 q2 = .inl (k_pl b n q2) by rw [d_p1, if_neg (by omega)]]) (mR.tr (hR0) hx.1.R) hx.2.1 hx.2.2
      · refine Zw_V1 (k := 40) lm_X11_322 dX11_read_88 (by decide) (by first | decide | assumption | omega) (by first | rfl | assumption) (by rfl) (Nat.le_of_ble_eq_true rfl) ?_
        refine s_part0 I1 (fun v2 μ2 τ2 x2 => ?_)
        refine Zw_istore_4 dX11_read_91 rfl ?_
        refine Zw_aload_0 dX11_read_93 ?_
        refine Zw_getv (1) lf_X11_158 dX11_read_94 (by first | decide | assumption | omega) (by first | rfl | assumption) (by rfl) x2.2.1 ?_
        refine Zw_if_eq 104 dX11_read_97 (by decide) (fun c => absurd c (by decide)) (fun _ => ?_)
        refine Zw_iconst (v := 0) dX11_read_100 (by decide) ?_
        refine Zw_goto 124 dX11_read_101 (by decide) ?_
        refine Zw_istore_5 dX11_read_124 rfl ?_
        refine Zw_aload_0 dX11_read_126 ?_
        refine Zw_getv (1) lf_X11_158 dX11_read_127 (by first | decide | assumption | omega) (by first | rfl | assumption) (by rfl) x2.2.1 ?_
        refine Zw_if_ne 144 dX11_read_130 (by decide) (fun _ => ?_) (fun c => absurd c (by decide))
        refine Zw_iload_2 dX11_read_144 ?_
        refine Zw_if_ne 152 dX11_read_145 (by decide) (fun _ => ?_) (fun c => absurd c (by decide))
        refine Zw_iload_2 dX11_read_152 ?_
        refine Zw_iconst (v := 1) dX11_read_153 (by decide) ?_
        refine Zw_icmp_ne 162 dX11_read_154 (by decide) (fun c => absurd c (by decide)) (fun _ => ?_)
        refine Zw_iload_4 dX11_read_157 ?_
        refine Zw_goto 164 dX11_read_159 (by decide) ?_
        refine Zw_ireturn dX11_read_164 (by first | rfl | assumption) ?_
        have hx := mX.tr (mOff.tr ob o1) x2
        exact hF _ _ _ _ (by unfold d_read; rw [show d_p1 b nm n 0 0 = .inr (v1, c1, q1) by rw [d_p1, if_pos (by omega)]; exact e1]; dsimp only; unfold d_r1; rw [show d_p1 b nm n 1 q1 = .inl (k_pl b n q1) by rw [d_p1, if_neg (by omega)]]) (mR.tr (hR0) hx.1.R) hx.2.1 hx.2.2
  · refine Zw_V1 (k := 40) lm_X11_322 dX11_read_55 (by decide) (by first | decide | assumption | omega) (by first | rfl | assumption) (by rfl) (Nat.le_of_ble_eq_true rfl) ?_
    refine s_part0 Ib (fun v1 μ1 τ1 x1 => ?_)
    refine Zw_istore_3 dX11_read_58 rfl ?_
    refine Zw_aload_0 dX11_read_59 ?_
    refine Zw_getv (1) lf_X11_158 dX11_read_60 (by first | decide | assumption | omega) (by first | rfl | assumption) (by rfl) x1.2.1 ?_
    refine Zw_if_eq 70 dX11_read_63 (by decide) (fun c => absurd c (by decide)) (fun _ => ?_)
    refine Zw_iconst (v := 0) dX11_read_66 (by decide) ?_
    refine Zw_goto 91 dX11_read_67 (by decide) ?_
    refine Zw_istore_4 dX11_read_91 rfl ?_
    refine Zw_aload_0 dX11_read_93 ?_
    refine Zw_getv (1) lf_X11_158 dX11_read_94 (by first | decide | assumption | omega) (by first | rfl | assumption) (by rfl) x1.2.1 ?_
    refine Zw_if_eq 104 dX11_read_97 (by decide) (fun c => absurd c (by decide)) (fun _ => ?_)
    refine Zw_iconst (v := 0) dX11_read_100 (by decide) ?_
    refine Zw_goto 124 dX11_read_101 (by decide) ?_
    refine Zw_istore_5 dX11_read_124 rfl ?_
    refine Zw_aload_0 dX11_read_126 ?_
    refine Zw_getv (1) lf_X11_158 dX11_read_127 (by first | decide | assumption | omega) (by first | rfl | assumption) (by rfl) x1.2.1 ?_
    refine Zw_if_ne 144 dX11_read_130 (by decide) (fun _ => ?_) (fun c => absurd c (by decide))
    refine Zw_iload_2 dX11_read_144 ?_
    refine Zw_if_ne 152 dX11_read_145 (by decide) (fun _ => ?_) (fun c => absurd c (by decide))
    refine Zw_iload_2 dX11_read_152 ?_
    refine Zw_iconst (v := 1) dX11_read_153 (by decide) ?_
    refine Zw_icmp_ne 162 dX11_read_154 (by decide) (fun c => absurd c (by decide)) (fun _ => ?_)
    refine Zw_iload_4 dX11_read_157 ?_
    refine Zw_goto 164 dX11_read_159 (by decide) ?_
    refine Zw_ireturn dX11_read_164 (by first | rfl | assumption) ?_
    have hx := mX.tr ob x1
    exact hF _ _ _ _ (by unfold d_read; rw [show d_p1 b nm n 0 0 = .inl (k_pl b n 0) by rw [d_p1, if_neg (by omega)]]) (mR.tr (hR0) hx.1.R) hx.2.1 hx.2.2
set_option maxRecDepth 20000 in
theorem s_read2 {t n : Nat} {b nm : Nat → Int32} {Q : zQ} {μ : zMu} {τ : Int64} (ht : t < 6) (hsz : μ 63 t = nI n) (hn : n ≤ 160) (hbb : b = m_b μ t) (hby : k_by b n) (hnm : ∀ j, j < 6 → μ 61 (12 + j) = nm j) (hF : ∀ f v μ2 τ2, d_read b nm n = .inl f → mR μ μ2 → μ2 61 25 = 1 → μ2 61 26 = nI f → Q (some (.int v)) μ2 τ2) (hD : ∀ r μ2 τ2, d_read b nm n = .inr r → mR μ μ2 → μ2 61 25 = 0 → Q (some (.int (q_p3 r 2))) μ2 τ2) : Zc 41 yX11_read cX11_read 6 (some .int) [.ref 61, .int (nI t), .int 2] μ τ Q := by
  refine Zc.mk 3 [.ref 61, .int (nI t), .int 2, .null, .null, .null] rfl (by decide) (Nat.le_of_ble_eq_true rfl) ?_
  refine Zw_aload_0 dX11_read_0 ?_
  refine Zw_sipush (v := 160) dX11_read_1 (by decide) ?_
  refine Zw_iload_1 dX11_read_4 ?_
  refine Zw_nmul (160) (t) dX11_read_5 rfl rfl ?_
  refine Zw_put lp_X11_131 dX11_read_6 (by first | decide | assumption | omega) (by first | rfl | assumption) (by rfl) (by first | rfl | assumption) (by first | rfl | assumption) ?_
  refine Zw_aload_0 dX11_read_9 ?_
  refine Zw_aload_0 dX11_read_10 ?_
  refine Zw_getr 63 lf_X11_17 dX11_read_11 (by first | decide | assumption | omega) (by first | rfl | assumption) (by rfl) ?_
  refine Zw_iload_1 dX11_read_14 ?_
  refine Zw_ialdnv (t) (nI n) dX11_read_15 (by first | decide | assumption | omega) (by first | rfl | assumption) rfl (by omega) (by decide) hsz ?_
  refine Zw_put lp_X11_128 dX11_read_16 (by first | decide | assumption | omega) (by first | rfl | assumption) (by rfl) (by first | rfl | assumption) (by first | rfl | assumption) ?_
  refine Zw_aload_0 dX11_read_19 ?_
  refine Zw_iconst (v := 0) dX11_read_20 (by decide) ?_
  refine Zw_put lp_X11_134 dX11_read_21 (by first | decide | assumption | omega) (by first | rfl | assumption) (by rfl) (by first | rfl | assumption) (by first | rfl | assumption) ?_
  refine Zw_aload_0 dX11_read_24 ?_
  refine Zw_iconst (v := 0) dX11_read_25 (by decide) ?_
  refine Zw_put lp_X11_168 dX11_read_26 (by first | decide | assumption | omega) (by first | rfl | assumption) (by rfl) (by first | rfl | assumption) (by first | rfl | assumption) ?_
  refine Zw_aload_0 dX11_read_29 ?_
  refine Zw_iconst (v := 0) dX11_read_30 (by decide) ?_
  refine Zw_put lp_X11_158 dX11_read_31 (by first | decide | assumption | omega) (by first | rfl | assumption) (by rfl) (by first | rfl | assumption) (by first | rfl | assumption) ?_
  refine Zw_aload_0 dX11_read_34 ?_
  refine Zw_V0 (k := 1) lm_X11_174 dX11_read_35 (by decide) (by first | decide | assumption | omega) (by first | rfl | assumption) (by rfl) (Nat.le_of_ble_eq_true rfl) ?_
  have hBb : mB (160 * t) n b (zup (zup (zup (zup (zup μ 61 18 (nI (160 * t))) 61 19 (nI n)) 61 20 0) 61 24 0) 61 25 0) := ⟨by omega, hn, rfl, rfl, fun i hi => by subst hbb; rfl, hby⟩
  have hR0 : mR μ (zup (zup (zup (zup (zup μ 61 18 (nI (160 * t))) 61 19 (nI n)) 61 20 0) 61 24 0) 61 25 0) := ((((mR.refl μ).up (by omega)).up (by omega)).up (by omega) |>.up (by omega)).up (by omega)
  refine s_mnext (i := 0) hBb rfl (Nat.zero_le _) (fun μb τb onb Sb => ?_)
  have ob := onb.off
  have Ib : mI (160 * t) n 0 b nm μb τb 0 := ⟨hBb.off ob, Nat.zero_le _, fun j hj => by rw [ob.2 (12 + j) (by omega) (by omega) (by omega) (by omega) (by omega) (by omega), hR0.2 (12 + j) (by omega)]; exact hnm j hj, (onb.2 24 (by decide) (by decide) (by decide)).trans rfl, (onb.2 25 (by decide) (by decide) (by decide)).trans rfl, Sb⟩
  refine Zw_aload_0 dX11_read_38 ?_
  refine Zw_aload_0 dX11_read_39 ?_
  refine Zw_bipush (v := 103) dX11_read_40 (by decide) ?_
  refine Zw_bipush (v := 111) dX11_read_42 (by decide) ?_
  refine Zw_bipush (v := 101) dX11_read_44 (by decide) ?_
  refine Zw_bipush (v := 115) dX11_read_46 (by decide) ?_
  refine Zw_iconst (v := 0) dX11_read_48 (by decide) ?_
  refine Zw_iconst (v := 0) dX11_read_49 (by decide) ?_
  refine Zw_iconst (v := 0) dX11_read_50 (by decide) ?_
  refine Zw_iconst (v := 0) dX11_read_51 (by decide) ?_
  refine Zw_V8 (k := 2) lm_X11_177 dX11_read_52 (by decide) (by first | decide | assumption | omega) (by first | rfl | assumption) (by rfl) (Nat.le_of_ble_eq_true rfl) ?_
  refine s_word (w := 0) Ib.1 Ib.2.1 Ib.2.2.2.2.1 Ib.2.2.2.2.2 (by decide) (by decide +kernel) (fun w1 => ?_) (fun w1 => ?_)
  all_goals rw [mw_tok (by decide), show k_wt 0 = 13 from rfl] at w1
  · refine Zw_V1 (k := 40) lm_X11_322 dX11_read_55 (by decide) (by first | decide | assumption | omega) (by first | rfl | assumption) (by rfl) (Nat.le_of_ble_eq_true rfl) ?_
    refine s_part1 Ib (by omega) (by omega) (fun f1 v1 μ1 τ1 e1 x1 => ?_) (fun v1 c1 q1 μ1 τ1 e1 o1 I1 => ?_)
    · refine Zw_istore_3 dX11_read_58 rfl ?_
      refine Zw_aload_0 dX11_read_59 ?_
      refine Zw_getv (1) lf_X11_158 dX11_read_60 (by first | decide | assumption | omega) (by first | rfl | assumption) (by rfl) x1.2.1 ?_
      refine Zw_if_eq 70 dX11_read_63 (by decide) (fun c => absurd c (by decide)) (fun _ => ?_)
      refine Zw_iconst (v := 0) dX11_read_66 (by decide) ?_
      refine Zw_goto 91 dX11_read_67 (by decide) ?_
      refine Zw_istore_4 dX11_read_91 rfl ?_
      refine Zw_aload_0 dX11_read_93 ?_
      refine Zw_getv (1) lf_X11_158 dX11_read_94 (by first | decide | assumption | omega) (by first | rfl | assumption) (by rfl) x1.2.1 ?_
      refine Zw_if_eq 104 dX11_read_97 (by decide) (fun c => absurd c (by decide)) (fun _ => ?_)
      refine Zw_iconst (v := 0) dX11_read_100 (by decide) ?_
      refine Zw_goto 124 dX11_read_101 (by decide) ?_
      refine Zw_istore_5 dX11_read_124 rfl ?_
      refine Zw_aload_0 dX11_read_126 ?_
      refine Zw_getv (1) lf_X11_158 dX11_read_127 (by first | decide | assumption | omega) (by first | rfl | assumption) (by rfl) x1.2.1 ?_
      refine Zw_if_ne 144 dX11_read_130 (by decide) (fun _ => ?_) (fun c => absurd c (by decide))
      refine Zw_iload_2 dX11_read_144 ?_
      refine Zw_if_ne 152 dX11_read_145 (by decide) (fun _ => ?_) (fun c => absurd c (by decide))
      refine Zw_iload_2 dX11_read_152 ?_
      refine Zw_iconst (v := 1) dX11_read_153 (by decide) ?_
      refine Zw_icmp_ne 162 dX11_read_154 (by decide) (fun _ => ?_) (fun c => absurd c (by decide))
      refine Zw_iload_5 dX11_read_162 ?_
      refine Zw_ireturn dX11_read_164 (by first | rfl | assumption) ?_
      have hx := mX.tr ob x1
      exact hF _ _ _ _ (by unfold d_read; rw [show d_p1 b nm n 0 0 = .inl f1 by rw [d_p1, if_pos (by omega)]; exact e1]) (mR.tr (hR0) hx.1.R) hx.2.1 hx.2.2
    · refine Zw_istore_3 dX11_read_58 rfl ?_
      refine Zw_aload_0 dX11_read_59 ?_
      refine Zw_getv (0) lf_X11_158 dX11_read_60 (by first | decide | assumption | omega) (by first | rfl | assumption) (by rfl) I1.2.2.2.2.1 ?_
      refine Zw_if_eq 70 dX11_read_63 (by decide) (fun _ => ?_) (fun c => absurd c (by decide))
      refine Zw_aload_0 dX11_read_70 ?_
      refine Zw_aload_0 dX11_read_71 ?_
      refine Zw_bipush (v := 115) dX11_read_72 (by decide) ?_
      refine Zw_bipush (v := 116) dX11_read_74 (by decide) ?_
      refine Zw_bipush (v := 97) dX11_read_76 (by decide) ?_
      refine Zw_bipush (v := 121) dX11_read_78 (by decide) ?_
      refine Zw_bipush (v := 115) dX11_read_80 (by decide) ?_
      refine Zw_iconst (v := 0) dX11_read_82 (by decide) ?_
      refine Zw_iconst (v := 0) dX11_read_83 (by decide) ?_
      refine Zw_iconst (v := 0) dX11_read_84 (by decide) ?_
      refine Zw_V8 (k := 2) lm_X11_177 dX11_read_85 (by decide) (by first | decide | assumption | omega) (by first | rfl | assumption) (by rfl) (Nat.le_of_ble_eq_true rfl) ?_
      refine s_word (w := 1) I1.1 I1.2.1 I1.2.2.2.2.1 I1.2.2.2.2.2 (by decide) (by decide +kernel) (fun w2 => ?_) (fun w2 => ?_)
      all_goals rw [mw_tok (by decide), show k_wt 1 = 14 from rfl] at w2
      · refine Zw_V1 (k := 40) lm_X11_322 dX11_read_88 (by decide) (by first | decide | assumption | omega) (by first | rfl | assumption) (by rfl) (Nat.le_of_ble_eq_true rfl) ?_
        refine s_part1 I1 (by omega) (by omega) (fun f2 v2 μ2 τ2 e2 x2 => ?_) (fun v2 c2 q2 μ2 τ2 e2 o2 I2 => ?_)
        · refine Zw_istore_4 dX11_read_91 rfl ?_
          refine Zw_aload_0 dX11_read_93 ?_
          refine Zw_getv (1) lf_X11_158 dX11_read_94 (by first | decide | assumption | omega) (by first | rfl | assumption) (by rfl) x2.2.1 ?_
          refine Zw_if_eq 104 dX11_read_97 (by decide) (fun c => absurd c (by decide)) (fun _ => ?_)
          refine Zw_iconst (v := 0) dX11_read_100 (by decide) ?_
          refine Zw_goto 124 dX11_read_101 (by decide) ?_
          refine Zw_istore_5 dX11_read_124 rfl ?_
          refine Zw_aload_0 dX11_read_126 ?_
          refine Zw_getv (1) lf_X11_158 dX11_read_127 (by first | decide | assumption | omega) (by first | rfl | assumption) (by rfl) x2.2.1 ?_
          refine Zw_if_ne 144 dX11_read_130 (by decide) (fun _ => ?_) (fun c => absurd c (by decide))
          refine Zw_iload_2 dX11_read_144 ?_
          refine Zw_if_ne 152 dX11_read_145 (by decide) (fun _ => ?_) (fun c => absurd c (by decide))
          refine Zw_iload_2 dX11_read_152 ?_
          refine Zw_iconst (v := 1) dX11_read_153 (by decide) ?_
          refine Zw_icmp_ne 162 dX11_read_154 (by decide) (fun _ => ?_) (fun c => absurd c (by decide))
          refine Zw_iload_5 dX11_read_162 ?_
          refine Zw_ireturn dX11_read_164 (by first | rfl | assumption) ?_
          have hx := mX.tr (mOff.tr ob o1) x2
          exact hF _ _ _ _ (by unfold d_read; rw [show d_p1 b nm n 0 0 = .inr (v1, c1, q1) by rw [d_p1, if_pos (by omega)]; exact e1]; dsimp only; unfold d_r1; rw [show d_p1 b nm n 1 q1 = .inl f2 by rw [d_p1, if_pos (by omega)]; exact e2]) (mR.tr (hR0) hx.1.R) hx.2.1 hx.2.2
        · refine Zw_istore_4 dX11_read_91 rfl ?_
          refine Zw_aload_0 dX11_read_93 ?_
          refine Zw_getv (0) lf_X11_158 dX11_read_94 (by first | decide | assumption | omega) (by first | rfl | assumption) (by rfl) I2.2.2.2.2.1 ?_
          refine Zw_if_eq 104 dX11_read_97 (by decide) (fun _ => ?_) (fun c => absurd c (by decide))
          refine Zw_aload_0 dX11_read_104 ?_
          refine Zw_aload_0 dX11_read_105 ?_
          refine Zw_bipush (v := 115) dX11_read_106 (by decide) ?_
          refine Zw_bipush (v := 101) dX11_read_108 (by decide) ?_
          refine Zw_bipush (v := 101) dX11_read_110 (by decide) ?_
          refine Zw_bipush (v := 115) dX11_read_112 (by decide) ?_
          refine Zw_iconst (v := 0) dX11_read_114 (by decide) ?_
          refine Zw_iconst (v := 0) dX11_read_115 (by decide) ?_
          refine Zw_iconst (v := 0) dX11_read_116 (by decide) ?_
          refine Zw_iconst (v := 0) dX11_read_117 (by decide) ?_
          refine Zw_V8 (k := 2) lm_X11_177 dX11_read_118 (by decide) (by first | decide | assumption | omega) (by first | rfl | assumption) (by rfl) (Nat.le_of_ble_eq_true rfl) ?_
          refine s_word (w := 2) I2.1 I2.2.1 I2.2.2.2.2.1 I2.2.2.2.2.2 (by decide) (by decide +kernel) (fun w3 => ?_) (fun w3 => ?_)
          all_goals rw [mw_tok (by decide), show k_wt 2 = 15 from rfl] at w3
          · refine Zw_V1 (k := 40) lm_X11_322 dX11_read_121 (by decide) (by first | decide | assumption | omega) (by first | rfl | assumption) (by rfl) (Nat.le_of_ble_eq_true rfl) ?_
            refine s_part1 I2 (by omega) (by omega) (fun f3 v3 μ3 τ3 e3 x3 => ?_) (fun v3 c3 q3 μ3 τ3 e3 o3 I3 => ?_)
            · refine Zw_istore_5 dX11_read_124 rfl ?_
              refine Zw_aload_0 dX11_read_126 ?_
              refine Zw_getv (1) lf_X11_158 dX11_read_127 (by first | decide | assumption | omega) (by first | rfl | assumption) (by rfl) x3.2.1 ?_
              refine Zw_if_ne 144 dX11_read_130 (by decide) (fun _ => ?_) (fun c => absurd c (by decide))
              refine Zw_iload_2 dX11_read_144 ?_
              refine Zw_if_ne 152 dX11_read_145 (by decide) (fun _ => ?_) (fun c => absurd c (by decide))
              refine Zw_iload_2 dX11_read_152 ?_
              refine Zw_iconst (v := 1) dX11_read_153 (by decide) ?_
              refine Zw_icmp_ne 162 dX11_read_154 (by decide) (fun _ => ?_) (fun c => absurd c (by decide))
              refine Zw_iload_5 dX11_read_162 ?_
              refine Zw_ireturn dX11_read_164 (by first | rfl | assumption) ?_
              have hx := mX.tr (mOff.tr (mOff.tr ob o1) o2) x3
              exact hF _ _ _ _ (by unfold d_read; rw [show d_p1 b nm n 0 0 = .inr (v1, c1, q1) by rw [d_p1, if_pos (by omega)]; exact e1]; dsimp only; unfold d_r1; rw [show d_p1 b nm n 1 q1 = .inr (v2, c2, q2) by rw [d_p1, if_pos (by omega)]; exact e2]; dsimp only; unfold d_r2; rw [show d_p1 b nm n 2 q2 = .inl f3 by rw [d_p1, if_pos (by omega)]; exact e3]) (mR.tr (hR0) hx.1.R) hx.2.1 hx.2.2
            · refine Zw_istore_5 dX11_read_124 rfl ?_
              refine Zw_aload_0 dX11_read_126 ?_
              refine Zw_getv (0) lf_X11_158 dX11_read_127 (by first | decide | assumption | omega) (by first | rfl | assumption) (by rfl) I3.2.2.2.2.1 ?_
              refine Zw_if_ne 144 dX11_read_130 (by decide) (fun c => absurd c (by decide)) (fun _ => ?_)
              refine Zw_aload_0 dX11_read_133 ?_
              have hsn := k_sgn_ne (b (k_pl b n q3))
              have hkd := m_kd_of b n q3
              have hkl := m_kd_lt b n (k_pl b n q3)
              refine Zw_getv (nI (m_kd b n (k_pl b n q3))) lf_X11_143 dX11_read_134 (by first | decide | assumption | omega) (by first | rfl | assumption) (by rfl) I3.2.2.2.2.2.2.1 ?_
              refine Zw_nif_eq ((m_kd b n (k_pl b n q3))) 144 dX11_read_137 (by decide) rfl (by omega) (fun c137 => ?_) (fun c137 => ?_)
              · refine Zw_iload_2 dX11_read_144 ?_
                refine Zw_if_ne 152 dX11_read_145 (by decide) (fun _ => ?_) (fun c => absurd c (by decide))
                refine Zw_iload_2 dX11_read_152 ?_
                refine Zw_iconst (v := 1) dX11_read_153 (by decide) ?_
                refine Zw_icmp_ne 162 dX11_read_154 (by decide) (fun _ => ?_) (fun c => absurd c (by decide))
                refine Zw_iload_5 dX11_read_162 ?_
                refine Zw_ireturn dX11_read_164 (by first | rfl | assumption) ?_
                exact hD _ _ _ (by unfold d_read; rw [show d_p1 b nm n 0 0 = .inr (v1, c1, q1) by rw [d_p1, if_pos (by omega)]; exact e1]; dsimp only; unfold d_r1; rw [show d_p1 b nm n 1 q1 = .inr (v2, c2, q2) by rw [d_p1, if_pos (by omega)]; exact e2]; dsimp only; unfold d_r2; rw [show d_p1 b nm n 2 q2 = .inr (v3, c3, q3) by rw [d_p1, if_pos (by omega)]; exact e3]; dsimp only; unfold d_r3; rw [if_pos (by omega)]) (mR.tr hR0 (mOff.R (mOff.tr (mOff.tr (mOff.tr ob o1) o2) o3))) I3.2.2.2.2.1
              · refine Zw_aload_0 dX11_read_140 ?_
                refine Zw_V0 (k := 0) lm_X11_171 dX11_read_141 (by decide) (by first | decide | assumption | omega) (by first | rfl | assumption) (by rfl) (Nat.le_of_ble_eq_true rfl) ?_
                refine s_fail0 I3.2.2.2.2.1 I3.2.2.2.2.2.1 ?_
                refine Zw_iload_2 dX11_read_144 ?_
                refine Zw_if_ne 152 dX11_read_145 (by decide) (fun _ => ?_) (fun c => absurd c (by decide))
                refine Zw_iload_2 dX11_read_152 ?_
                refine Zw_iconst (v := 1) dX11_read_153 (by decide) ?_
                refine Zw_icmp_ne 162 dX11_read_154 (by decide) (fun _ => ?_) (fun c => absurd c (by decide))
                refine Zw_iload_5 dX11_read_162 ?_
                refine Zw_ireturn dX11_read_164 (by first | rfl | assumption) ?_
                have hx := mX.tr (mOff.tr (mOff.tr (mOff.tr ob o1) o2) o3) (mX.of (p := k_pl b n q3))
                exact hF _ _ _ _ (by unfold d_read; rw [show d_p1 b nm n 0 0 = .inr (v1, c1, q1) by rw [d_p1, if_pos (by omega)]; exact e1]; dsimp only; unfold d_r1; rw [show d_p1 b nm n 1 q1 = .inr (v2, c2, q2) by rw [d_p1, if_pos (by omega)]; exact e2]; dsimp only; unfold d_r2; rw [show d_p1 b nm n 2 q2 = .inr (v3, c3, q3) by rw [d_p1, if_pos (by omega)]; exact e3]; dsimp only; unfold d_r3; rw [if_neg (show ¬ k_tok b n q3 = 18 by omega)]) (mR.tr hR0 hx.1.R) hx.2.1 hx.2.2
          · refine Zw_V1 (k := 40) lm_X11_322 dX11_read_121 (by decide) (by first | decide | assumption | omega) (by first | rfl | assumption) (by rfl) (Nat.le_of_ble_eq_true rfl) ?_
            refine s_part0 I2 (fun v3 μ3 τ3 x3 => ?_)
            refine Zw_istore_5 dX11_read_124 rfl ?_
            refine Zw_aload_0 dX11_read_126 ?_
            refine Zw_getv (1) lf_X11_158 dX11_read_127 (by first | decide | assumption | omega) (by first | rfl | assumption) (by rfl) x3.2.1 ?_
            refine Zw_if_ne 144 dX11_read_130 (by decide) (fun _ => ?_) (fun c => absurd c (by decide))
            refine Zw_iload_2 dX11_read_144 ?_
            refine Zw_if_ne 152 dX11_read_145 (by decide) (fun _ => ?_) (fun c => absurd c (by decide))
            refine Zw_iload_2 dX11_read_152 ?_
            refine Zw_iconst (v := 1) dX11_read_153 (by decide) ?_
            refine Zw_icmp_ne 162 dX11_read_154 (by decide) (fun _ => ?_) (fun c => absurd c (by decide))
            refine Zw_iload_5 dX11_read_162 ?_
            refine Zw_ireturn dX11_read_164 (by first | rfl | assumption) ?_
            have hx := mX.tr (mOff.tr (mOff.tr ob o1) o2) x3
            exact hF _ _ _ _ (by unfold d_read; rw [show d_p1 b nm n 0 0 = .inr (v1, c1, q1) by rw [d_p1, if_pos (by omega)]; exact e1]; dsimp only; unfold d_r1; rw [show d_p1 b nm n 1 q1 = .inr (v2, c2, q2) by rw [d_p1, if_pos (by omega)]; exact e2]; dsimp only; unfold d_r2; rw [show d_p1 b nm n 2 q2 = .inl (k_pl b n q2) by rw [d_p1, if_neg (by omega)]]) (mR.tr (hR0) hx.1.R) hx.2.1 hx.2.2
      · refine Zw_V1 (k := 40) lm_X11_322 dX11_read_88 (by decide) (by first | decide | assumption | omega) (by first | rfl | assumption) (by rfl) (Nat.le_of_ble_eq_true rfl) ?_
        refine s_part0 I1 (fun v2 μ2 τ2 x2 => ?_)
        refine Zw_istore_4 dX11_read_91 rfl ?_
        refine Zw_aload_0 dX11_read_93 ?_
        refine Zw_getv (1) lf_X11_158 dX11_read_94 (by first | decide | assumption | omega) (by first | rfl | assumption) (by rfl) x2.2.1 ?_
        refine Zw_if_eq 104 dX11_read_97 (by decide) (fun c => absurd c (by decide)) (fun _ => ?_)
        refine Zw_iconst (v := 0) dX11_read_100 (by decide) ?_
        refine Zw_goto 124 dX11_read_101 (by decide) ?_
        refine Zw_istore_5 dX11_read_124 rfl ?_
        refine Zw_aload_0 dX11_read_126 ?_
        refine Zw_getv (1) lf_X11_158 dX11_read_127 (by first | decide | assumption | omega) (by first | rfl | assumption) (by rfl) x2.2.1 ?_
        refine Zw_if_ne 144 dX11_read_130 (by decide) (fun _ => ?_) (fun c => absurd c (by decide))
        refine Zw_iload_2 dX11_read_144 ?_
        refine Zw_if_ne 152 dX11_read_145 (by decide) (fun _ => ?_) (fun c => absurd c (by decide))
        refine Zw_iload_2 dX11_read_152 ?_
        refine Zw_iconst (v := 1) dX11_read_153 (by decide) ?_
        refine Zw_icmp_ne 162 dX11_read_154 (by decide) (fun _ => ?_) (fun c => absurd c (by decide))
        refine Zw_iload_5 dX11_read_162 ?_
        refine Zw_ireturn dX11_read_164 (by first | rfl | assumption) ?_
        have hx := mX.tr (mOff.tr ob o1) x2
        exact hF _ _ _ _ (by unfold d_read; rw [show d_p1 b nm n 0 0 = .inr (v1, c1, q1) by rw [d_p1, if_pos (by omega)]; exact e1]; dsimp only; unfold d_r1; rw [show d_p1 b nm n 1 q1 = .inl (k_pl b n q1) by rw [d_p1, if_neg (by omega)]]) (mR.tr (hR0) hx.1.R) hx.2.1 hx.2.2
  · refine Zw_V1 (k := 40) lm_X11_322 dX11_read_55 (by decide) (by first | decide | assumption | omega) (by first | rfl | assumption) (by rfl) (Nat.le_of_ble_eq_true rfl) ?_
    refine s_part0 Ib (fun v1 μ1 τ1 x1 => ?_)
    refine Zw_istore_3 dX11_read_58 rfl ?_
    refine Zw_aload_0 dX11_read_59 ?_
    refine Zw_getv (1) lf_X11_158 dX11_read_60 (by first | decide | assumption | omega) (by first | rfl | assumption) (by rfl) x1.2.1 ?_
    refine Zw_if_eq 70 dX11_read_63 (by decide) (fun c => absurd c (by decide)) (fun _ => ?_)
    refine Zw_iconst (v := 0) dX11_read_66 (by decide) ?_
    refine Zw_goto 91 dX11_read_67 (by decide) ?_
    refine Zw_istore_4 dX11_read_91 rfl ?_
    refine Zw_aload_0 dX11_read_93 ?_
    refine Zw_getv (1) lf_X11_158 dX11_read_94 (by first | decide | assumption | omega) (by first | rfl | assumption) (by rfl) x1.2.1 ?_
    refine Zw_if_eq 104 dX11_read_97 (by decide) (fun c => absurd c (by decide)) (fun _ => ?_)
    refine Zw_iconst (v := 0) dX11_read_100 (by decide) ?_
    refine Zw_goto 124 dX11_read_101 (by decide) ?_
    refine Zw_istore_5 dX11_read_124 rfl ?_
    refine Zw_aload_0 dX11_read_126 ?_
    refine Zw_getv (1) lf_X11_158 dX11_read_127 (by first | decide | assumption | omega) (by first | rfl | assumption) (by rfl) x1.2.1 ?_
    refine Zw_if_ne 144 dX11_read_130 (by decide) (fun _ => ?_) (fun c => absurd c (by decide))
    refine Zw_iload_2 dX11_read_144 ?_
    refine Zw_if_ne 152 dX11_read_145 (by decide) (fun _ => ?_) (fun c => absurd c (by decide))
    refine Zw_iload_2 dX11_read_152 ?_
    refine Zw_iconst (v := 1) dX11_read_153 (by decide) ?_
    refine Zw_icmp_ne 162 dX11_read_154 (by decide) (fun _ => ?_) (fun c => absurd c (by decide))
    refine Zw_iload_5 dX11_read_162 ?_
    refine Zw_ireturn dX11_read_164 (by first | rfl | assumption) ?_
    have hx := mX.tr ob x1
    exact hF _ _ _ _ (by unfold d_read; rw [show d_p1 b nm n 0 0 = .inl (k_pl b n 0) by rw [d_p1, if_neg (by omega)]]) (mR.tr (hR0) hx.1.R) hx.2.1 hx.2.2
