/-! the week goes on, and is laid back -/
def nW (S : List Nat) (μ μ' : zMu) : Prop := nOff (65 :: S) μ μ' ∧ ∀ j, j ≠ 0 → μ' 65 j = μ 65 j
theorem nW.refl (S : List Nat) (μ : zMu) : nW S μ μ := ⟨nOff.refl _ _, fun _ _ => rfl⟩
theorem nW.tr {S : List Nat} {a b c : zMu} (h : nW S a b) (h' : nOff [] b c) : nW S a c := ⟨h.1.tr (h'.sub (by simp)), fun j hj => by rw [h'.1 65 (by simp)]; exact h.2 j hj⟩
theorem nW.tr2 {S : List Nat} {a b c : zMu} (h : nW S a b) (h' : nOff S b c) (hS : ∀ k ∈ S, 68 < k) : nW S a c := ⟨h.1.tr (h'.sub (by simp; exact fun k hk => Or.inr hk)), fun j hj => by rw [h'.1 65 (by simp; intro e; exact absurd (hS 65 e) (by decide))]; exact h.2 j hj⟩
theorem nW.up {S : List Nat} {a b : zMu} {x : Int32} (h : nW S a b) : nW S a (zup b 65 0 x) := by
  refine ⟨⟨fun k hk => ?_, fun s hs => ?_⟩, fun j hj => ?_⟩
  · rw [zup_ne (by intro e; subst e; simp at hk)]; exact h.1.1 k hk
  · rw [zup_ne (by decide)]; exact h.1.2 s hs
  · rw [zup_at, if_neg (by simp [hj])]; exact h.2 j hj
theorem nW.back {S : List Nat} {a b : zMu} {x : Int32} (h : nW S a b) (hx : x = a 65 0) : nOff S a (zup b 65 0 x) := by
  refine ⟨fun k hk => ?_, fun s hs => ?_⟩
  · by_cases e : k = 65
    · subst e
      rw [zup_eq]
      funext j
      by_cases e2 : j = 0
      · subst e2; rw [upd, if_pos rfl]; exact hx
      · rw [upd, if_neg e2]; exact h.2 j e2
    · rw [zup_ne e]; exact h.1.1 k (by simp at hk ⊢; exact ⟨hk.1, e, hk.2⟩)
  · rw [zup_ne (by decide)]; exact h.1.2 s (hs.c (by decide) (by decide))
theorem nW.c {S : List Nat} {a b : zMu} {C : mC} {w v : Nat} {x : Int32} (hS : ∀ k ∈ S, 68 < k) (hc : m_cx C w a) (h : nW S a b) (hx : b 65 0 = nI v) (hv : v < 2000) : m_cx C v b := by
  have h1 : m_cx C w (zup b 65 0 (a 65 0)) := hc.off (h.back rfl) hS
  have h2 := h1.wk (v := v) (x := nI v) rfl hv
  have e : zup (zup b 65 0 (a 65 0)) 65 0 (nI v) = b := by
    funext k j
    rw [zup_at, zup_at]
    by_cases hk : k = 65 ∧ j = 0
    · rw [if_pos hk, hk.1, hk.2]; exact hx.symm
    · rw [if_neg hk, if_neg hk]
  rw [e] at h2
  exact h2
theorem r8_and {x y : Int32} (hx : r8 x) : r8 (x &&& y) := by
  obtain ⟨a, ha, rfl⟩ := hx
  have hb : (nI a &&& y).toBitVec.toNat = a &&& y.toBitVec.toNat := by
    rw [Int32.toBitVec_and, BitVec.toNat_and, pk_tn (by omega)]
  have hle : a &&& y.toBitVec.toNat ≤ a := Nat.and_le_left
  refine ⟨a &&& y.toBitVec.toNat, by omega, ?_⟩
  apply Int32.toBitVec_inj.mp
  apply BitVec.eq_of_toNat_eq
  rw [hb, pk_tn (by omega)]
theorem q_has0 (p : Nat) (hp : p < 8) : q_has 0 p = false := by
  have key : ∀ p, p < 8 → q_has 0 p = false := by decide +kernel
  exact key p hp
theorem q_spread0 (mv : Nat → Int32) : q_spread mv 0 = 0 := by
  have : ∀ n, n ≤ 8 → q_orf (fun p => if q_has 0 p then mv p else 0) n = 0 := by
    intro n
    induction n with
    | zero => intro _; rfl
    | succ n ih =>
      intro hn
      show q_orf _ n ||| _ = 0
      rw [ih (by omega)]
      show (0 : Int32) ||| (if q_has 0 n = true then mv n else 0) = 0
      rw [q_has0 n (by omega)]
      simp
  exact this 8 (by omega)
theorem and_0 (x : Int32) : 0 &&& x = 0 := by
  apply Int32.toBitVec_inj.mp; simp
def m_rn (mv : Nat → Nat → Int32) (wt : Nat → Int32) (w : Nat) : Nat → Nat → Int32 → Int32 → Int32 → Int32 × Int32 × Int32
  | 0, _, set, fn, tg => (set, fn, tg)
  | m + 1, i, set, fn, tg => m_rn mv wt w m (i + 1) (q_spread (mv (w + i)) set &&& (wt (w + i + 1) ^^^ (-1))) (if fn = -1 ∧ q_spread (mv (w + i)) set &&& (wt (w + i + 1) ^^^ (-1)) = 0 then nI i else fn) (tg + q_bc (q_spread (mv (w + i)) set &&& (wt (w + i + 1) ^^^ (-1))))
theorem m_rn_s (mv : Nat → Nat → Int32) (wt : Nat → Int32) (w m i : Nat) (set fn tg : Int32) : m_rn mv wt w (m + 1) i set fn tg = m_rn mv wt w m (i + 1) (q_spread (mv (w + i)) set &&& (wt (w + i + 1) ^^^ (-1))) (if fn = -1 ∧ q_spread (mv (w + i)) set &&& (wt (w + i + 1) ^^^ (-1)) = 0 then nI i else fn) (tg + q_bc (q_spread (mv (w + i)) set &&& (wt (w + i + 1) ^^^ (-1)))) := rfl
theorem m_rn_0 (mv : Nat → Nat → Int32) (wt : Nat → Int32) (w : Nat) {fn : Int32} (hf : fn ≠ -1) : ∀ m i tg, m_rn mv wt w m i 0 fn tg = (0, fn, tg)
  | 0, _, _ => rfl
  | m + 1, i, tg => by
    rw [m_rn_s, q_spread0, and_0, if_neg (fun e => hf e.1), show q_bc 0 = 0 from by decide +kernel, m_rn_0 mv wt w hf m (i + 1)]
    rw [Int32.add_zero]
theorem m_rn_q (mv : Nat → Nat → Int32) (wt : Nat → Int32) (w : Nat) : ∀ m i set tg, i + m < 2 ^ 31 → m_rn mv wt w m i set (-1) tg = q_rn mv wt w m i set tg
  | 0, _, _, _, _ => rfl
  | m + 1, i, set, tg, hm => by
    rw [m_rn_s, q_rn_s]
    by_cases h : q_spread (mv (w + i)) set &&& (wt (w + i + 1) ^^^ (-1)) = 0
    · rw [if_pos ⟨rfl, h⟩, if_pos h, h, m_rn_0 mv wt w (nI_m1 (by omega))]
    · rw [if_neg (fun e => h e.2), if_neg h, m_rn_q mv wt w m (i + 1) _ _ (by omega)]
set_option maxRecDepth 20000 in
theorem s_mspreadB {set what : Int32} {Q : zQ} {μ : zMu} {τ : Int64} (hbad : ¬ (vp_in set 256 ∧ vp_in what 3)) (h : Q (some (.int (-2))) μ τ) : Zc 45 yX11_spread cX11_spread 3 (some .int) [.ref 61, .int set, .int what] μ τ Q := by
  refine Zc.mk 0 [.ref 61, .int set, .int what] rfl (by decide) (Nat.le_of_ble_eq_true rfl) ?_
  refine Zw_iload_1 dX11_spread_0 ?_
  refine Zw_i2l dX11_spread_1 ?_
  refine Zw_lconst (v := 0) dX11_spread_2 (by decide) ?_
  refine Zw_ldc2 dX11_spread_3 zw12 ?_
  refine Zw_S3 (k := 0) lm_X11_76 dX11_spread_6 (by decide) (Nat.le_of_ble_eq_true rfl) ?_
  refine s_in0 256 (by decide) (fun b1 => ?_) (fun b1 => ?_)
  · refine Zw_if_eq 24 dX11_spread_9 (by decide) (fun c => absurd c (by decide)) (fun _ => ?_)
    refine Zw_iload_2 dX11_spread_12 ?_
    refine Zw_i2l dX11_spread_13 ?_
    refine Zw_lconst (v := 0) dX11_spread_14 (by decide) ?_
    refine Zw_ldc2 dX11_spread_15 zw19 ?_
    refine Zw_S3 (k := 0) lm_X11_76 dX11_spread_18 (by decide) (Nat.le_of_ble_eq_true rfl) ?_
    refine s_in0 3 (by decide) (fun b2 => ?_) (fun b2 => ?_)
    · refine Zw_if_ne 27 dX11_spread_21 (by decide) (fun _ => ?_) (fun c => absurd c (by decide))
      exact absurd ⟨b1, b2⟩ hbad
    · refine Zw_if_ne 27 dX11_spread_21 (by decide) (fun c => absurd c (by decide)) (fun _ => ?_)
      refine Zw_bipush (v := (-2)) dX11_spread_24 (by decide) ?_
      refine Zw_ireturn dX11_spread_26 (by first | rfl | assumption) ?_
      exact h
  · refine Zw_if_eq 24 dX11_spread_9 (by decide) (fun _ => ?_) (fun c => absurd c (by decide))
    refine Zw_bipush (v := (-2)) dX11_spread_24 (by decide) ?_
    refine Zw_ireturn dX11_spread_26 (by first | rfl | assumption) ?_
    exact h
set_option maxRecDepth 20000 in
theorem s_mspread0 {C : mC} {w : Nat} {set : Int32} {Q : zQ} {μ : zMu} {τ : Int64} (hc : m_cx C w μ) (hs : vp_in set 256) (h : ∀ μ2 τ2, nOff [] μ μ2 → Q (some (.int (q_spr (c_mv C w) (c_wt C w) set 0))) μ2 τ2) : Zc 45 yX11_spread cX11_spread 3 (some .int) [.ref 61, .int set, .int 0] μ τ Q := by
  refine Zc.mk 0 [.ref 61, .int set, .int 0] rfl (by decide) (Nat.le_of_ble_eq_true rfl) ?_
  have hr : r8 set := by obtain ⟨v, hv, e⟩ := vp_in_of hs (by decide); exact ⟨v, hv, e⟩
  refine Zw_iload_1 dX11_spread_0 ?_
  refine Zw_i2l dX11_spread_1 ?_
  refine Zw_lconst (v := 0) dX11_spread_2 (by decide) ?_
  refine Zw_ldc2 dX11_spread_3 zw12 ?_
  refine Zw_S3 (k := 0) lm_X11_76 dX11_spread_6 (by decide) (Nat.le_of_ble_eq_true rfl) ?_
  refine s_in0 256 (by decide) (fun _ => ?_) (fun a0 => absurd hs a0)
  refine Zw_if_eq 24 dX11_spread_9 (by decide) (fun c => absurd c (by decide)) (fun _ => ?_)
  refine Zw_iload_2 dX11_spread_12 ?_
  refine Zw_i2l dX11_spread_13 ?_
  refine Zw_lconst (v := 0) dX11_spread_14 (by decide) ?_
  refine Zw_ldc2 dX11_spread_15 zw19 ?_
  refine Zw_S3 (k := 0) lm_X11_76 dX11_spread_18 (by decide) (Nat.le_of_ble_eq_true rfl) ?_
  refine s_in0 3 (by decide) (fun _ => ?_) (fun a0 => absurd (by unfold vp_in; decide) a0)
  refine Zw_if_ne 27 dX11_spread_21 (by decide) (fun _ => ?_) (fun c => absurd c (by decide))
  refine Zw_iload_2 dX11_spread_27 ?_
  refine Zw_if_ne 39 dX11_spread_28 (by decide) (fun c => absurd c (by decide)) (fun _ => ?_)
  refine Zw_aload_0 dX11_spread_31 ?_
  refine Zw_iload_1 dX11_spread_32 ?_
  refine Zw_V1 (k := 44) lm_X11_341 dX11_spread_33 (by decide) (by first | decide | assumption | omega) (by first | rfl | assumption) (by rfl) (Nat.le_of_ble_eq_true rfl) ?_
  refine s_c_spread hc hr (fun μ1 τ1 o1 => ?_)
  refine Zw_goto 67 dX11_spread_36 (by decide) ?_
  refine Zw_ireturn dX11_spread_67 (by first | rfl | assumption) ?_
  exact h _ _ o1
set_option maxRecDepth 20000 in
theorem s_mspread1 {C : mC} {w : Nat} {set : Int32} {Q : zQ} {μ : zMu} {τ : Int64} (hc : m_cx C w μ) (hs : vp_in set 256) (h : ∀ μ2 τ2, nOff [] μ μ2 → Q (some (.int (q_spr (c_mv C w) (c_wt C w) set 1))) μ2 τ2) : Zc 45 yX11_spread cX11_spread 3 (some .int) [.ref 61, .int set, .int 1] μ τ Q := by
  refine Zc.mk 0 [.ref 61, .int set, .int 1] rfl (by decide) (Nat.le_of_ble_eq_true rfl) ?_
  have hr : r8 set := by obtain ⟨v, hv, e⟩ := vp_in_of hs (by decide); exact ⟨v, hv, e⟩
  refine Zw_iload_1 dX11_spread_0 ?_
  refine Zw_i2l dX11_spread_1 ?_
  refine Zw_lconst (v := 0) dX11_spread_2 (by decide) ?_
  refine Zw_ldc2 dX11_spread_3 zw12 ?_
  refine Zw_S3 (k := 0) lm_X11_76 dX11_spread_6 (by decide) (Nat.le_of_ble_eq_true rfl) ?_
  refine s_in0 256 (by decide) (fun _ => ?_) (fun a0 => absurd hs a0)
  refine Zw_if_eq 24 dX11_spread_9 (by decide) (fun c => absurd c (by decide)) (fun _ => ?_)
  refine Zw_iload_2 dX11_spread_12 ?_
  refine Zw_i2l dX11_spread_13 ?_
  refine Zw_lconst (v := 0) dX11_spread_14 (by decide) ?_
  refine Zw_ldc2 dX11_spread_15 zw19 ?_
  refine Zw_S3 (k := 0) lm_X11_76 dX11_spread_18 (by decide) (Nat.le_of_ble_eq_true rfl) ?_
  refine s_in0 3 (by decide) (fun _ => ?_) (fun a0 => absurd (by unfold vp_in; decide) a0)
  refine Zw_if_ne 27 dX11_spread_21 (by decide) (fun _ => ?_) (fun c => absurd c (by decide))
  refine Zw_iload_2 dX11_spread_27 ?_
  refine Zw_if_ne 39 dX11_spread_28 (by decide) (fun _ => ?_) (fun c => absurd c (by decide))
  refine Zw_iload_2 dX11_spread_39 ?_
  refine Zw_iconst (v := 1) dX11_spread_40 (by decide) ?_
  refine Zw_icmp_ne 55 dX11_spread_41 (by decide) (fun c => absurd c (by decide)) (fun _ => ?_)
  refine Zw_iload_1 dX11_spread_44 ?_
  refine Zw_aload_0 dX11_spread_45 ?_
  refine Zw_V0 (k := 44) lm_X11_344 dX11_spread_46 (by decide) (by first | decide | assumption | omega) (by first | rfl | assumption) (by rfl) (Nat.le_of_ble_eq_true rfl) ?_
  refine s_c_seen hc (fun μ2 τ2 o2 => ?_)
  refine Zw_iconst (v := (-1)) dX11_spread_49 (by decide) ?_
  refine Zw_ixor dX11_spread_50 ?_
  refine Zw_iand dX11_spread_51 ?_
  refine Zw_goto 67 dX11_spread_52 (by decide) ?_
  refine Zw_ireturn dX11_spread_67 (by first | rfl | assumption) ?_
  exact h _ _ o2
set_option maxRecDepth 20000 in
theorem s_mspread2 {C : mC} {w : Nat} {set : Int32} {Q : zQ} {μ : zMu} {τ : Int64} (hc : m_cx C w μ) (hs : vp_in set 256) (h : ∀ μ2 τ2, nOff [] μ μ2 → Q (some (.int (q_spr (c_mv C w) (c_wt C w) set 2))) μ2 τ2) : Zc 45 yX11_spread cX11_spread 3 (some .int) [.ref 61, .int set, .int 2] μ τ Q := by
  refine Zc.mk 0 [.ref 61, .int set, .int 2] rfl (by decide) (Nat.le_of_ble_eq_true rfl) ?_
  have hr : r8 set := by obtain ⟨v, hv, e⟩ := vp_in_of hs (by decide); exact ⟨v, hv, e⟩
  refine Zw_iload_1 dX11_spread_0 ?_
  refine Zw_i2l dX11_spread_1 ?_
  refine Zw_lconst (v := 0) dX11_spread_2 (by decide) ?_
  refine Zw_ldc2 dX11_spread_3 zw12 ?_
  refine Zw_S3 (k := 0) lm_X11_76 dX11_spread_6 (by decide) (Nat.le_of_ble_eq_true rfl) ?_
  refine s_in0 256 (by decide) (fun _ => ?_) (fun a0 => absurd hs a0)
  refine Zw_if_eq 24 dX11_spread_9 (by decide) (fun c => absurd c (by decide)) (fun _ => ?_)
  refine Zw_iload_2 dX11_spread_12 ?_
  refine Zw_i2l dX11_spread_13 ?_
  refine Zw_lconst (v := 0) dX11_spread_14 (by decide) ?_
  refine Zw_ldc2 dX11_spread_15 zw19 ?_
  refine Zw_S3 (k := 0) lm_X11_76 dX11_spread_18 (by decide) (Nat.le_of_ble_eq_true rfl) ?_
  refine s_in0 3 (by decide) (fun _ => ?_) (fun a0 => absurd (by unfold vp_in; decide) a0)
  refine Zw_if_ne 27 dX11_spread_21 (by decide) (fun _ => ?_) (fun c => absurd c (by decide))
  refine Zw_iload_2 dX11_spread_27 ?_
  refine Zw_if_ne 39 dX11_spread_28 (by decide) (fun _ => ?_) (fun c => absurd c (by decide))
  refine Zw_iload_2 dX11_spread_39 ?_
  refine Zw_iconst (v := 1) dX11_spread_40 (by decide) ?_
  refine Zw_icmp_ne 55 dX11_spread_41 (by decide) (fun _ => ?_) (fun c => absurd c (by decide))
  refine Zw_aload_0 dX11_spread_55 ?_
  refine Zw_iload_1 dX11_spread_56 ?_
  refine Zw_V1 (k := 44) lm_X11_341 dX11_spread_57 (by decide) (by first | decide | assumption | omega) (by first | rfl | assumption) (by rfl) (Nat.le_of_ble_eq_true rfl) ?_
  refine s_c_spread hc hr (fun μ1 τ1 o1 => ?_)
  refine Zw_aload_0 dX11_spread_60 ?_
  refine Zw_V0 (k := 44) lm_X11_344 dX11_spread_61 (by decide) (by first | decide | assumption | omega) (by first | rfl | assumption) (by rfl) (Nat.le_of_ble_eq_true rfl) ?_
  refine s_c_seen (hc.off o1 (by simp)) (fun μ2 τ2 o2 => ?_)
  refine Zw_iconst (v := (-1)) dX11_spread_64 (by decide) ?_
  refine Zw_ixor dX11_spread_65 ?_
  refine Zw_iand dX11_spread_66 ?_
  refine Zw_ireturn dX11_spread_67 (by first | rfl | assumption) ?_
  exact h _ _ (o1.tr o2)
set_option maxRecDepth 20000 in
theorem s_mrunB {n what : Int32} {Q : zQ} {μ : zMu} {τ : Int64} (hbad : ¬ (vp_in n 41 ∧ vp_in what 3)) (h : Q (some (.int (-2))) μ τ) : Zc 45 yX11_run cX11_run 8 (some .int) [.ref 61, .int n, .int what] μ τ Q := by
  refine Zc.mk 5 [.ref 61, .int n, .int what, .null, .null, .null, .null, .null] rfl (by decide) (Nat.le_of_ble_eq_true rfl) ?_
  refine Zw_iload_1 dX11_run_0 ?_
  refine Zw_i2l dX11_run_1 ?_
  refine Zw_lconst (v := 0) dX11_run_2 (by decide) ?_
  refine Zw_ldc2 dX11_run_3 zw20 ?_
  refine Zw_S3 (k := 0) lm_X11_76 dX11_run_6 (by decide) (Nat.le_of_ble_eq_true rfl) ?_
  refine s_in0 41 (by decide) (fun b1 => ?_) (fun b1 => ?_)
  · refine Zw_if_eq 24 dX11_run_9 (by decide) (fun c => absurd c (by decide)) (fun _ => ?_)
    refine Zw_iload_2 dX11_run_12 ?_
    refine Zw_i2l dX11_run_13 ?_
    refine Zw_lconst (v := 0) dX11_run_14 (by decide) ?_
    refine Zw_ldc2 dX11_run_15 zw19 ?_
    refine Zw_S3 (k := 0) lm_X11_76 dX11_run_18 (by decide) (Nat.le_of_ble_eq_true rfl) ?_
    refine s_in0 3 (by decide) (fun b2 => ?_) (fun b2 => ?_)
    · refine Zw_if_ne 27 dX11_run_21 (by decide) (fun _ => ?_) (fun c => absurd c (by decide))
      exact absurd ⟨b1, b2⟩ hbad
    · refine Zw_if_ne 27 dX11_run_21 (by decide) (fun c => absurd c (by decide)) (fun _ => ?_)
      refine Zw_bipush (v := (-2)) dX11_run_24 (by decide) ?_
      refine Zw_ireturn dX11_run_26 (by first | rfl | assumption) ?_
      exact h
  · refine Zw_if_eq 24 dX11_run_9 (by decide) (fun _ => ?_) (fun c => absurd c (by decide))
    refine Zw_bipush (v := (-2)) dX11_run_24 (by decide) ?_
    refine Zw_ireturn dX11_run_26 (by first | rfl | assumption) ?_
    exact h
set_option maxRecDepth 20000 in
theorem l_mrn0 {Q : zQ} {μ0 : zMu} {C : mC} {w m0 : Nat} {R : Int32 × Int32 × Int32} (hc0 : m_cx C w μ0) (hm40 : m0 ≤ 40) (hw999 : w ≤ 999) (h : ∀ μ2 τ2, nOff [] μ0 μ2 → Q (some (.int (q_pick3 R 0))) μ2 τ2) : ∀ m i set fn tg μ τ, m0 - i < m → i ≤ m0 → nW [] μ0 μ → μ 65 0 = nI (w + i) → r8 set → m_rn (fun v => c_mv C v) (fun v => c_wt C v) w (m0 - i) i set fn tg = R → Zw 45 RX11 cX11_run 8 (some .int) Q 51 [.ref 61, .int (nI m0), .int 0, .int (nI w), .int set, .int fn, .int tg, .int (nI i)] [] μ τ
  | 0, i, _, _, _, _, _, hm, _, _, _, _, _ => absurd hm (by omega)
  | m + 1, i, set, fn, tg, μ, τ, hm, hi, hO, hwk, hr, hV => by
    obtain ⟨_, _, hw0, hw2⟩ := hc0.n5
    have hw9 := hw999
    have hwb : w + i < 2000 → m_cx C (w + i) μ := fun hb => hO.c (x := 0) (by simp) hc0 hwk hb
    refine Zw_iload_7 dX11_run_51 ?_
    refine Zw_iload_1 dX11_run_53 ?_
    refine Zw_nicmp_ge (i) (m0) 122 dX11_run_54 (by decide) rfl rfl (by omega) (by omega) (fun c54 => ?_) (fun c54 => ?_)
    · refine Zw_aload_0 dX11_run_122 ?_
      refine Zw_getr 65 lf_X11_23 dX11_run_123 (by first | decide | assumption | omega) (by first | rfl | assumption) (by rfl) ?_
      refine Zw_iconst (v := 0) dX11_run_126 (by decide) ?_
      refine Zw_iload_3 dX11_run_127 ?_
      refine Zw_iastn (0) dX11_run_128 (by first | decide | assumption | omega) (by first | rfl | assumption) rfl (by omega) (by decide) ?_
      refine Zw_iload_2 dX11_run_129 ?_
      refine Zw_if_ne 138 dX11_run_130 (by decide) (fun c => absurd c (by decide)) (fun _ => ?_)
      refine Zw_iload_4 dX11_run_133 ?_
      refine Zw_goto 150 dX11_run_135 (by decide) ?_
      refine Zw_ireturn dX11_run_150 (by first | rfl | assumption) ?_
      obtain rfl : i = m0 := by omega
      rw [show i - i = 0 by omega] at hV
      subst hV
      exact h _ _ (hO.back hw0.symm)
    · refine Zw_aload_0 dX11_run_57 ?_
      refine Zw_iload_4 dX11_run_58 ?_
      refine Zw_V1 (k := 44) lm_X11_341 dX11_run_60 (by decide) (by first | decide | assumption | omega) (by first | rfl | assumption) (by rfl) (Nat.le_of_ble_eq_true rfl) ?_
      have hc := hwb (by omega)
      refine s_c_spread hc hr (fun μ1 τ1 o1 => ?_)
      refine Zw_istore_4 dX11_run_63 rfl ?_
      refine Zw_aload_0 dX11_run_65 ?_
      refine Zw_getr 65 lf_X11_23 dX11_run_66 (by first | decide | assumption | omega) (by first | rfl | assumption) (by rfl) ?_
      refine Zw_iconst (v := 0) dX11_run_69 (by decide) ?_
      refine Zw_dup2 dX11_run_70 rfl rfl ?_
      refine Zw_ialdnv (0) (nI (w + i)) dX11_run_71 (by first | decide | assumption | omega) (by first | rfl | assumption) rfl (by omega) (by decide) (by rw [o1.1 65 (by simp)]; exact hwk) ?_
      refine Zw_iconst (v := 1) dX11_run_72 (by decide) ?_
      refine Zw_nadd ((w + i)) (1) dX11_run_73 rfl rfl ?_
      refine Zw_iastn (0) dX11_run_74 (by first | decide | assumption | omega) (by first | rfl | assumption) rfl (by omega) (by decide) ?_
      refine Zw_iload_4 dX11_run_75 ?_
      refine Zw_aload_0 dX11_run_77 ?_
      refine Zw_V0 (k := 44) lm_X11_344 dX11_run_78 (by decide) (by first | decide | assumption | omega) (by first | rfl | assumption) (by rfl) (Nat.le_of_ble_eq_true rfl) ?_
      have hO2 : nW [] μ0 (zup μ1 65 0 (nI (w + i + 1))) := (hO.tr o1).up
      refine s_c_seen (C := C) (w := w + i + 1) ((hc.off o1 (by simp)).wk rfl (by omega)) (fun μ2 τ2 o2 => ?_)
      refine Zw_iconst (v := (-1)) dX11_run_81 (by decide) ?_
      refine Zw_ixor dX11_run_82 ?_
      refine Zw_iand dX11_run_83 ?_
      refine Zw_istore_4 dX11_run_84 rfl ?_
      refine Zw_iload_5 dX11_run_86 ?_
      refine Zw_iconst (v := (-1)) dX11_run_88 (by decide) ?_
      refine Zw_icmp_ne 102 dX11_run_89 (by decide) (fun c89 => ?_) (fun c89 => ?_)
      · refine Zw_iload_5 dX11_run_102 ?_
        refine Zw_istore_5 dX11_run_104 rfl ?_
        refine Zw_iload_6 dX11_run_106 ?_
        refine Zw_iload_4 dX11_run_108 ?_
        refine Zw_S1 (k := 0) lm_X11_329 dX11_run_110 (by decide) (Nat.le_of_ble_eq_true rfl) ?_
        refine s_bits (r8_and (r8_spread (fun p hp => r8_mv C (w + i) hp) set)) ?_
        refine Zw_iadd dX11_run_113 ?_
        refine Zw_istore_6 dX11_run_114 rfl ?_
        refine Zw_iinc_7 dX11_run_116 rfl (zincn _) ?_
        refine Zw_goto 51 dX11_run_119 (by decide) ?_
        rw [show m0 - i = (m0 - (i + 1)) + 1 by omega, m_rn_s, if_neg (fun e => c89 e.1)] at hV
        refine l_mrn0 hc0 hm40 hw999 h m (i + 1) _ _ _ _ _ (by omega) (by omega) ((hO2.tr o2)) ?_ (r8_and (r8_spread (fun p hp => r8_mv C (w + i) hp) set)) hV
        rw [o2.1 65 (by simp), zup_at, if_pos ⟨rfl, rfl⟩]
        rfl
      · refine Zw_iload_4 dX11_run_92 ?_
        refine Zw_if_ne 102 dX11_run_94 (by decide) (fun c94 => ?_) (fun c94 => ?_)
        · refine Zw_iload_5 dX11_run_102 ?_
          refine Zw_istore_5 dX11_run_104 rfl ?_
          refine Zw_iload_6 dX11_run_106 ?_
          refine Zw_iload_4 dX11_run_108 ?_
          refine Zw_S1 (k := 0) lm_X11_329 dX11_run_110 (by decide) (Nat.le_of_ble_eq_true rfl) ?_
          refine s_bits (r8_and (r8_spread (fun p hp => r8_mv C (w + i) hp) set)) ?_
          refine Zw_iadd dX11_run_113 ?_
          refine Zw_istore_6 dX11_run_114 rfl ?_
          refine Zw_iinc_7 dX11_run_116 rfl (zincn _) ?_
          refine Zw_goto 51 dX11_run_119 (by decide) ?_
          rw [show m0 - i = (m0 - (i + 1)) + 1 by omega, m_rn_s, if_neg (fun e => c94 e.2)] at hV
          refine l_mrn0 hc0 hm40 hw999 h m (i + 1) _ _ _ _ _ (by omega) (by omega) ((hO2.tr o2)) ?_ (r8_and (r8_spread (fun p hp => r8_mv C (w + i) hp) set)) hV
          rw [o2.1 65 (by simp), zup_at, if_pos ⟨rfl, rfl⟩]
          rfl
        · refine Zw_iload_7 dX11_run_97 ?_
          refine Zw_goto 104 dX11_run_99 (by decide) ?_
          refine Zw_istore_5 dX11_run_104 rfl ?_
          refine Zw_iload_6 dX11_run_106 ?_
          refine Zw_iload_4 dX11_run_108 ?_
          refine Zw_S1 (k := 0) lm_X11_329 dX11_run_110 (by decide) (Nat.le_of_ble_eq_true rfl) ?_
          refine s_bits (r8_and (r8_spread (fun p hp => r8_mv C (w + i) hp) set)) ?_
          refine Zw_iadd dX11_run_113 ?_
          refine Zw_istore_6 dX11_run_114 rfl ?_
          refine Zw_iinc_7 dX11_run_116 rfl (zincn _) ?_
          refine Zw_goto 51 dX11_run_119 (by decide) ?_
          rw [show m0 - i = (m0 - (i + 1)) + 1 by omega, m_rn_s, if_pos ⟨c89, c94⟩] at hV
          refine l_mrn0 hc0 hm40 hw999 h m (i + 1) _ _ _ _ _ (by omega) (by omega) ((hO2.tr o2)) ?_ (r8_and (r8_spread (fun p hp => r8_mv C (w + i) hp) set)) hV
          rw [o2.1 65 (by simp), zup_at, if_pos ⟨rfl, rfl⟩]
          rfl
set_option maxRecDepth 20000 in
theorem s_mrun0 {C : mC} {w m0 : Nat} {Q : zQ} {μ : zMu} {τ : Int64} (hc0 : m_cx C w μ) (hm40 : m0 ≤ 40) (hw999 : w ≤ 999) (hr : r8 (μ 65 3)) (h : ∀ μ2 τ2, nOff [] μ μ2 → Q (some (.int (q_pick3 (q_rn (fun v => c_mv C v) (fun v => c_wt C v) w m0 0 (μ 65 3) 0) 0))) μ2 τ2) : Zc 45 yX11_run cX11_run 8 (some .int) [.ref 61, .int (nI m0), .int 0] μ τ Q := by
  refine Zc.mk 5 [.ref 61, .int (nI m0), .int 0, .null, .null, .null, .null, .null] rfl (by decide) (Nat.le_of_ble_eq_true rfl) ?_
  refine Zw_iload_1 dX11_run_0 ?_
  refine Zw_i2l dX11_run_1 ?_
  refine Zw_lconst (v := 0) dX11_run_2 (by decide) ?_
  refine Zw_ldc2 dX11_run_3 zw20 ?_
  refine Zw_S3 (k := 0) lm_X11_76 dX11_run_6 (by decide) (Nat.le_of_ble_eq_true rfl) ?_
  refine s_in0 41 (by decide) (fun _ => ?_) (fun a0 => absurd (vp_in_nI (by omega) (by omega)) a0)
  refine Zw_if_eq 24 dX11_run_9 (by decide) (fun c => absurd c (by decide)) (fun _ => ?_)
  refine Zw_iload_2 dX11_run_12 ?_
  refine Zw_i2l dX11_run_13 ?_
  refine Zw_lconst (v := 0) dX11_run_14 (by decide) ?_
  refine Zw_ldc2 dX11_run_15 zw19 ?_
  refine Zw_S3 (k := 0) lm_X11_76 dX11_run_18 (by decide) (Nat.le_of_ble_eq_true rfl) ?_
  refine s_in0 3 (by decide) (fun _ => ?_) (fun a0 => absurd (by unfold vp_in; decide) a0)
  refine Zw_if_ne 27 dX11_run_21 (by decide) (fun _ => ?_) (fun c => absurd c (by decide))
  refine Zw_aload_0 dX11_run_27 ?_
  refine Zw_getr 65 lf_X11_23 dX11_run_28 (by first | decide | assumption | omega) (by first | rfl | assumption) (by rfl) ?_
  refine Zw_iconst (v := 0) dX11_run_31 (by decide) ?_
  refine Zw_ialdnv (0) (nI w) dX11_run_32 (by first | decide | assumption | omega) (by first | rfl | assumption) rfl (by omega) (by decide) hc0.n5.2.2.1 ?_
  refine Zw_istore_3 dX11_run_33 rfl ?_
  refine Zw_aload_0 dX11_run_34 ?_
  refine Zw_getr 65 lf_X11_23 dX11_run_35 (by first | decide | assumption | omega) (by first | rfl | assumption) (by rfl) ?_
  refine Zw_iconst (v := 3) dX11_run_38 (by decide) ?_
  refine Zw_ialdn (3) dX11_run_39 (by first | decide | assumption | omega) (by first | rfl | assumption) rfl (by omega) (by decide) ?_
  refine Zw_istore_4 dX11_run_40 rfl ?_
  refine Zw_iconst (v := (-1)) dX11_run_42 (by decide) ?_
  refine Zw_istore_5 dX11_run_43 rfl ?_
  refine Zw_iconst (v := 0) dX11_run_45 (by decide) ?_
  refine Zw_istore_6 dX11_run_46 rfl ?_
  refine Zw_iconst (v := 0) dX11_run_48 (by decide) ?_
  refine Zw_istore_7 dX11_run_49 rfl ?_
  exact l_mrn0 hc0 hm40 hw999 h (m0 + 1) 0 _ _ _ _ _ (by omega) (by omega) (nW.refl _ _) hc0.n5.2.2.1 hr (m_rn_q _ _ _ _ _ _ _ (by omega))
set_option maxRecDepth 20000 in
theorem l_mrn1 {Q : zQ} {μ0 : zMu} {C : mC} {w m0 : Nat} {R : Int32 × Int32 × Int32} (hc0 : m_cx C w μ0) (hm40 : m0 ≤ 40) (hw999 : w ≤ 999) (h : ∀ μ2 τ2, nOff [] μ0 μ2 → Q (some (.int (q_pick3 R 1))) μ2 τ2) : ∀ m i set fn tg μ τ, m0 - i < m → i ≤ m0 → nW [] μ0 μ → μ 65 0 = nI (w + i) → r8 set → m_rn (fun v => c_mv C v) (fun v => c_wt C v) w (m0 - i) i set fn tg = R → Zw 45 RX11 cX11_run 8 (some .int) Q 51 [.ref 61, .int (nI m0), .int 1, .int (nI w), .int set, .int fn, .int tg, .int (nI i)] [] μ τ
  | 0, i, _, _, _, _, _, hm, _, _, _, _, _ => absurd hm (by omega)
  | m + 1, i, set, fn, tg, μ, τ, hm, hi, hO, hwk, hr, hV => by
    obtain ⟨_, _, hw0, hw2⟩ := hc0.n5
    have hw9 := hw999
    have hwb : w + i < 2000 → m_cx C (w + i) μ := fun hb => hO.c (x := 0) (by simp) hc0 hwk hb
    refine Zw_iload_7 dX11_run_51 ?_
    refine Zw_iload_1 dX11_run_53 ?_
    refine Zw_nicmp_ge (i) (m0) 122 dX11_run_54 (by decide) rfl rfl (by omega) (by omega) (fun c54 => ?_) (fun c54 => ?_)
    · refine Zw_aload_0 dX11_run_122 ?_
      refine Zw_getr 65 lf_X11_23 dX11_run_123 (by first | decide | assumption | omega) (by first | rfl | assumption) (by rfl) ?_
      refine Zw_iconst (v := 0) dX11_run_126 (by decide) ?_
      refine Zw_iload_3 dX11_run_127 ?_
      refine Zw_iastn (0) dX11_run_128 (by first | decide | assumption | omega) (by first | rfl | assumption) rfl (by omega) (by decide) ?_
      refine Zw_iload_2 dX11_run_129 ?_
      refine Zw_if_ne 138 dX11_run_130 (by decide) (fun _ => ?_) (fun c => absurd c (by decide))
      refine Zw_iload_2 dX11_run_138 ?_
      refine Zw_iconst (v := 1) dX11_run_139 (by decide) ?_
      refine Zw_icmp_ne 148 dX11_run_140 (by decide) (fun c => absurd c (by decide)) (fun _ => ?_)
      refine Zw_iload_5 dX11_run_143 ?_
      refine Zw_goto 150 dX11_run_145 (by decide) ?_
      refine Zw_ireturn dX11_run_150 (by first | rfl | assumption) ?_
      obtain rfl : i = m0 := by omega
      rw [show i - i = 0 by omega] at hV
      subst hV
      exact h _ _ (hO.back hw0.symm)
    · refine Zw_aload_0 dX11_run_57 ?_
      refine Zw_iload_4 dX11_run_58 ?_
      refine Zw_V1 (k := 44) lm_X11_341 dX11_run_60 (by decide) (by first | decide | assumption | omega) (by first | rfl | assumption) (by rfl) (Nat.le_of_ble_eq_true rfl) ?_
      have hc := hwb (by omega)
      refine s_c_spread hc hr (fun μ1 τ1 o1 => ?_)
      refine Zw_istore_4 dX11_run_63 rfl ?_
      refine Zw_aload_0 dX11_run_65 ?_
      refine Zw_getr 65 lf_X11_23 dX11_run_66 (by first | decide | assumption | omega) (by first | rfl | assumption) (by rfl) ?_
      refine Zw_iconst (v := 0) dX11_run_69 (by decide) ?_
      refine Zw_dup2 dX11_run_70 rfl rfl ?_
      refine Zw_ialdnv (0) (nI (w + i)) dX11_run_71 (by first | decide | assumption | omega) (by first | rfl | assumption) rfl (by omega) (by decide) (by rw [o1.1 65 (by simp)]; exact hwk) ?_
      refine Zw_iconst (v := 1) dX11_run_72 (by decide) ?_
      refine Zw_nadd ((w + i)) (1) dX11_run_73 rfl rfl ?_
      refine Zw_iastn (0) dX11_run_74 (by first | decide | assumption | omega) (by first | rfl | assumption) rfl (by omega) (by decide) ?_
      refine Zw_iload_4 dX11_run_75 ?_
      refine Zw_aload_0 dX11_run_77 ?_
      refine Zw_V0 (k := 44) lm_X11_344 dX11_run_78 (by decide) (by first | decide | assumption | omega) (by first | rfl | assumption) (by rfl) (Nat.le_of_ble_eq_true rfl) ?_
      have hO2 : nW [] μ0 (zup μ1 65 0 (nI (w + i + 1))) := (hO.tr o1).up
      refine s_c_seen (C := C) (w := w + i + 1) ((hc.off o1 (by simp)).wk rfl (by omega)) (fun μ2 τ2 o2 => ?_)
      refine Zw_iconst (v := (-1)) dX11_run_81 (by decide) ?_
      refine Zw_ixor dX11_run_82 ?_
      refine Zw_iand dX11_run_83 ?_
      refine Zw_istore_4 dX11_run_84 rfl ?_
      refine Zw_iload_5 dX11_run_86 ?_
      refine Zw_iconst (v := (-1)) dX11_run_88 (by decide) ?_
      refine Zw_icmp_ne 102 dX11_run_89 (by decide) (fun c89 => ?_) (fun c89 => ?_)
      · refine Zw_iload_5 dX11_run_102 ?_
        refine Zw_istore_5 dX11_run_104 rfl ?_
        refine Zw_iload_6 dX11_run_106 ?_
        refine Zw_iload_4 dX11_run_108 ?_
        refine Zw_S1 (k := 0) lm_X11_329 dX11_run_110 (by decide) (Nat.le_of_ble_eq_true rfl) ?_
        refine s_bits (r8_and (r8_spread (fun p hp => r8_mv C (w + i) hp) set)) ?_
        refine Zw_iadd dX11_run_113 ?_
        refine Zw_istore_6 dX11_run_114 rfl ?_
        refine Zw_iinc_7 dX11_run_116 rfl (zincn _) ?_
        refine Zw_goto 51 dX11_run_119 (by decide) ?_
        rw [show m0 - i = (m0 - (i + 1)) + 1 by omega, m_rn_s, if_neg (fun e => c89 e.1)] at hV
        refine l_mrn1 hc0 hm40 hw999 h m (i + 1) _ _ _ _ _ (by omega) (by omega) ((hO2.tr o2)) ?_ (r8_and (r8_spread (fun p hp => r8_mv C (w + i) hp) set)) hV
        rw [o2.1 65 (by simp), zup_at, if_pos ⟨rfl, rfl⟩]
        rfl
      · refine Zw_iload_4 dX11_run_92 ?_
        refine Zw_if_ne 102 dX11_run_94 (by decide) (fun c94 => ?_) (fun c94 => ?_)
        · refine Zw_iload_5 dX11_run_102 ?_
          refine Zw_istore_5 dX11_run_104 rfl ?_
          refine Zw_iload_6 dX11_run_106 ?_
          refine Zw_iload_4 dX11_run_108 ?_
          refine Zw_S1 (k := 0) lm_X11_329 dX11_run_110 (by decide) (Nat.le_of_ble_eq_true rfl) ?_
          refine s_bits (r8_and (r8_spread (fun p hp => r8_mv C (w + i) hp) set)) ?_
          refine Zw_iadd dX11_run_113 ?_
          refine Zw_istore_6 dX11_run_114 rfl ?_
          refine Zw_iinc_7 dX11_run_116 rfl (zincn _) ?_
          refine Zw_goto 51 dX11_run_119 (by decide) ?_
          rw [show m0 - i = (m0 - (i + 1)) + 1 by omega, m_rn_s, if_neg (fun e => c94 e.2)] at hV
          refine l_mrn1 hc0 hm40 hw999 h m (i + 1) _ _ _ _ _ (by omega) (by omega) ((hO2.tr o2)) ?_ (r8_and (r8_spread (fun p hp => r8_mv C (w + i) hp) set)) hV
          rw [o2.1 65 (by simp), zup_at, if_pos ⟨rfl, rfl⟩]
          rfl
        · refine Zw_iload_7 dX11_run_97 ?_
          refine Zw_goto 104 dX11_run_99 (by decide) ?_
          refine Zw_istore_5 dX11_run_104 rfl ?_
          refine Zw_iload_6 dX11_run_106 ?_
          refine Zw_iload_4 dX11_run_108 ?_
          refine Zw_S1 (k := 0) lm_X11_329 dX11_run_110 (by decide) (Nat.le_of_ble_eq_true rfl) ?_
          refine s_bits (r8_and (r8_spread (fun p hp => r8_mv C (w + i) hp) set)) ?_
          refine Zw_iadd dX11_run_113 ?_
          refine Zw_istore_6 dX11_run_114 rfl ?_
          refine Zw_iinc_7 dX11_run_116 rfl (zincn _) ?_
          refine Zw_goto 51 dX11_run_119 (by decide) ?_
          rw [show m0 - i = (m0 - (i + 1)) + 1 by omega, m_rn_s, if_pos ⟨c89, c94⟩] at hV
          refine l_mrn1 hc0 hm40 hw999 h m (i + 1) _ _ _ _ _ (by omega) (by omega) ((hO2.tr o2)) ?_ (r8_and (r8_spread (fun p hp => r8_mv C (w + i) hp) set)) hV
          rw [o2.1 65 (by simp), zup_at, if_pos ⟨rfl, rfl⟩]
          rfl
set_option maxRecDepth 20000 in
theorem s_mrun1 {C : mC} {w m0 : Nat} {Q : zQ} {μ : zMu} {τ : Int64} (hc0 : m_cx C w μ) (hm40 : m0 ≤ 40) (hw999 : w ≤ 999) (hr : r8 (μ 65 3)) (h : ∀ μ2 τ2, nOff [] μ μ2 → Q (some (.int (q_pick3 (q_rn (fun v => c_mv C v) (fun v => c_wt C v) w m0 0 (μ 65 3) 0) 1))) μ2 τ2) : Zc 45 yX11_run cX11_run 8 (some .int) [.ref 61, .int (nI m0), .int 1] μ τ Q := by
  refine Zc.mk 5 [.ref 61, .int (nI m0), .int 1, .null, .null, .null, .null, .null] rfl (by decide) (Nat.le_of_ble_eq_true rfl) ?_
  refine Zw_iload_1 dX11_run_0 ?_
  refine Zw_i2l dX11_run_1 ?_
  refine Zw_lconst (v := 0) dX11_run_2 (by decide) ?_
  refine Zw_ldc2 dX11_run_3 zw20 ?_
  refine Zw_S3 (k := 0) lm_X11_76 dX11_run_6 (by decide) (Nat.le_of_ble_eq_true rfl) ?_
  refine s_in0 41 (by decide) (fun _ => ?_) (fun a0 => absurd (vp_in_nI (by omega) (by omega)) a0)
  refine Zw_if_eq 24 dX11_run_9 (by decide) (fun c => absurd c (by decide)) (fun _ => ?_)
  refine Zw_iload_2 dX11_run_12 ?_
  refine Zw_i2l dX11_run_13 ?_
  refine Zw_lconst (v := 0) dX11_run_14 (by decide) ?_
  refine Zw_ldc2 dX11_run_15 zw19 ?_
  refine Zw_S3 (k := 0) lm_X11_76 dX11_run_18 (by decide) (Nat.le_of_ble_eq_true rfl) ?_
  refine s_in0 3 (by decide) (fun _ => ?_) (fun a0 => absurd (by unfold vp_in; decide) a0)
  refine Zw_if_ne 27 dX11_run_21 (by decide) (fun _ => ?_) (fun c => absurd c (by decide))
  refine Zw_aload_0 dX11_run_27 ?_
  refine Zw_getr 65 lf_X11_23 dX11_run_28 (by first | decide | assumption | omega) (by first | rfl | assumption) (by rfl) ?_
  refine Zw_iconst (v := 0) dX11_run_31 (by decide) ?_
  refine Zw_ialdnv (0) (nI w) dX11_run_32 (by first | decide | assumption | omega) (by first | rfl | assumption) rfl (by omega) (by decide) hc0.n5.2.2.1 ?_
  refine Zw_istore_3 dX11_run_33 rfl ?_
  refine Zw_aload_0 dX11_run_34 ?_
  refine Zw_getr 65 lf_X11_23 dX11_run_35 (by first | decide | assumption | omega) (by first | rfl | assumption) (by rfl) ?_
  refine Zw_iconst (v := 3) dX11_run_38 (by decide) ?_
  refine Zw_ialdn (3) dX11_run_39 (by first | decide | assumption | omega) (by first | rfl | assumption) rfl (by omega) (by decide) ?_
  refine Zw_istore_4 dX11_run_40 rfl ?_
  refine Zw_iconst (v := (-1)) dX11_run_42 (by decide) ?_
  refine Zw_istore_5 dX11_run_43 rfl ?_
  refine Zw_iconst (v := 0) dX11_run_45 (by decide) ?_
  refine Zw_istore_6 dX11_run_46 rfl ?_
  refine Zw_iconst (v := 0) dX11_run_48 (by decide) ?_
  refine Zw_istore_7 dX11_run_49 rfl ?_
  exact l_mrn1 hc0 hm40 hw999 h (m0 + 1) 0 _ _ _ _ _ (by omega) (by omega) (nW.refl _ _) hc0.n5.2.2.1 hr (m_rn_q _ _ _ _ _ _ _ (by omega))
set_option maxRecDepth 20000 in
theorem l_mrn2 {Q : zQ} {μ0 : zMu} {C : mC} {w m0 : Nat} {R : Int32 × Int32 × Int32} (hc0 : m_cx C w μ0) (hm40 : m0 ≤ 40) (hw999 : w ≤ 999) (h : ∀ μ2 τ2, nOff [] μ0 μ2 → Q (some (.int (q_pick3 R 2))) μ2 τ2) : ∀ m i set fn tg μ τ, m0 - i < m → i ≤ m0 → nW [] μ0 μ → μ 65 0 = nI (w + i) → r8 set → m_rn (fun v => c_mv C v) (fun v => c_wt C v) w (m0 - i) i set fn tg = R → Zw 45 RX11 cX11_run 8 (some .int) Q 51 [.ref 61, .int (nI m0), .int 2, .int (nI w), .int set, .int fn, .int tg, .int (nI i)] [] μ τ
  | 0, i, _, _, _, _, _, hm, _, _, _, _, _ => absurd hm (by omega)
  | m + 1, i, set, fn, tg, μ, τ, hm, hi, hO, hwk, hr, hV => by
    obtain ⟨_, _, hw0, hw2⟩ := hc0.n5
    have hw9 := hw999
    have hwb : w + i < 2000 → m_cx C (w + i) μ := fun hb => hO.c (x := 0) (by simp) hc0 hwk hb
    refine Zw_iload_7 dX11_run_51 ?_
    refine Zw_iload_1 dX11_run_53 ?_
    refine Zw_nicmp_ge (i) (m0) 122 dX11_run_54 (by decide) rfl rfl (by omega) (by omega) (fun c54 => ?_) (fun c54 => ?_)
    · refine Zw_aload_0 dX11_run_122 ?_
      refine Zw_getr 65 lf_X11_23 dX11_run_123 (by first | decide | assumption | omega) (by first | rfl | assumption) (by rfl) ?_
      refine Zw_iconst (v := 0) dX11_run_126 (by decide) ?_
      refine Zw_iload_3 dX11_run_127 ?_
      refine Zw_iastn (0) dX11_run_128 (by first | decide | assumption | omega) (by first | rfl | assumption) rfl (by omega) (by decide) ?_
      refine Zw_iload_2 dX11_run_129 ?_
      refine Zw_if_ne 138 dX11_run_130 (by decide) (fun _ => ?_) (fun c => absurd c (by decide))
      refine Zw_iload_2 dX11_run_138 ?_
      refine Zw_iconst (v := 1) dX11_run_139 (by decide) ?_
      refine Zw_icmp_ne 148 dX11_run_140 (by decide) (fun _ => ?_) (fun c => absurd c (by decide))
      refine Zw_iload_6 dX11_run_148 ?_
      refine Zw_ireturn dX11_run_150 (by first | rfl | assumption) ?_
      obtain rfl : i = m0 := by omega
      rw [show i - i = 0 by omega] at hV
      subst hV
      exact h _ _ (hO.back hw0.symm)
    · refine Zw_aload_0 dX11_run_57 ?_
      refine Zw_iload_4 dX11_run_58 ?_
      refine Zw_V1 (k := 44) lm_X11_341 dX11_run_60 (by decide) (by first | decide | assumption | omega) (by first | rfl | assumption) (by rfl) (Nat.le_of_ble_eq_true rfl) ?_
      have hc := hwb (by omega)
      refine s_c_spread hc hr (fun μ1 τ1 o1 => ?_)
      refine Zw_istore_4 dX11_run_63 rfl ?_
      refine Zw_aload_0 dX11_run_65 ?_
      refine Zw_getr 65 lf_X11_23 dX11_run_66 (by first | decide | assumption | omega) (by first | rfl | assumption) (by rfl) ?_
      refine Zw_iconst (v := 0) dX11_run_69 (by decide) ?_
      refine Zw_dup2 dX11_run_70 rfl rfl ?_
      refine Zw_ialdnv (0) (nI (w + i)) dX11_run_71 (by first | decide | assumption | omega) (by first | rfl | assumption) rfl (by omega) (by decide) (by rw [o1.1 65 (by simp)]; exact hwk) ?_
      refine Zw_iconst (v := 1) dX11_run_72 (by decide) ?_
      refine Zw_nadd ((w + i)) (1) dX11_run_73 rfl rfl ?_
      refine Zw_iastn (0) dX11_run_74 (by first | decide | assumption | omega) (by first | rfl | assumption) rfl (by omega) (by decide) ?_
      refine Zw_iload_4 dX11_run_75 ?_
      refine Zw_aload_0 dX11_run_77 ?_
      refine Zw_V0 (k := 44) lm_X11_344 dX11_run_78 (by decide) (by first | decide | assumption | omega) (by first | rfl | assumption) (by rfl) (Nat.le_of_ble_eq_true rfl) ?_
      have hO2 : nW [] μ0 (zup μ1 65 0 (nI (w + i + 1))) := (hO.tr o1).up
      refine s_c_seen (C := C) (w := w + i + 1) ((hc.off o1 (by simp)).wk rfl (by omega)) (fun μ2 τ2 o2 => ?_)
      refine Zw_iconst (v := (-1)) dX11_run_81 (by decide) ?_
      refine Zw_ixor dX11_run_82 ?_
      refine Zw_iand dX11_run_83 ?_
      refine Zw_istore_4 dX11_run_84 rfl ?_
      refine Zw_iload_5 dX11_run_86 ?_
      refine Zw_iconst (v := (-1)) dX11_run_88 (by decide) ?_
      refine Zw_icmp_ne 102 dX11_run_89 (by decide) (fun c89 => ?_) (fun c89 => ?_)
      · refine Zw_iload_5 dX11_run_102 ?_
        refine Zw_istore_5 dX11_run_104 rfl ?_
        refine Zw_iload_6 dX11_run_106 ?_
        refine Zw_iload_4 dX11_run_108 ?_
        refine Zw_S1 (k := 0) lm_X11_329 dX11_run_110 (by decide) (Nat.le_of_ble_eq_true rfl) ?_
        refine s_bits (r8_and (r8_spread (fun p hp => r8_mv C (w + i) hp) set)) ?_
        refine Zw_iadd dX11_run_113 ?_
        refine Zw_istore_6 dX11_run_114 rfl ?_
        refine Zw_iinc_7 dX11_run_116 rfl (zincn _) ?_
        refine Zw_goto 51 dX11_run_119 (by decide) ?_
        rw [show m0 - i = (m0 - (i + 1)) + 1 by omega, m_rn_s, if_neg (fun e => c89 e.1)] at hV
        refine l_mrn2 hc0 hm40 hw999 h m (i + 1) _ _ _ _ _ (by omega) (by omega) ((hO2.tr o2)) ?_ (r8_and (r8_spread (fun p hp => r8_mv C (w + i) hp) set)) hV
        rw [o2.1 65 (by simp), zup_at, if_pos ⟨rfl, rfl⟩]
        rfl
      · refine Zw_iload_4 dX11_run_92 ?_
        refine Zw_if_ne 102 dX11_run_94 (by decide) (fun c94 => ?_) (fun c94 => ?_)
        · refine Zw_iload_5 dX11_run_102 ?_
          refine Zw_istore_5 dX11_run_104 rfl ?_
          refine Zw_iload_6 dX11_run_106 ?_
          refine Zw_iload_4 dX11_run_108 ?_
          refine Zw_S1 (k := 0) lm_X11_329 dX11_run_110 (by decide) (Nat.le_of_ble_eq_true rfl) ?_
          refine s_bits (r8_and (r8_spread (fun p hp => r8_mv C (w + i) hp) set)) ?_
          refine Zw_iadd dX11_run_113 ?_
          refine Zw_istore_6 dX11_run_114 rfl ?_
          refine Zw_iinc_7 dX11_run_116 rfl (zincn _) ?_
          refine Zw_goto 51 dX11_run_119 (by decide) ?_
          rw [show m0 - i = (m0 - (i + 1)) + 1 by omega, m_rn_s, if_neg (fun e => c94 e.2)] at hV
          refine l_mrn2 hc0 hm40 hw999 h m (i + 1) _ _ _ _ _ (by omega) (by omega) ((hO2.tr o2)) ?_ (r8_and (r8_spread (fun p hp => r8_mv C (w + i) hp) set)) hV
          rw [o2.1 65 (by simp), zup_at, if_pos ⟨rfl, rfl⟩]
          rfl
        · refine Zw_iload_7 dX11_run_97 ?_
          refine Zw_goto 104 dX11_run_99 (by decide) ?_
          refine Zw_istore_5 dX11_run_104 rfl ?_
          refine Zw_iload_6 dX11_run_106 ?_
          refine Zw_iload_4 dX11_run_108 ?_
          refine Zw_S1 (k := 0) lm_X11_329 dX11_run_110 (by decide) (Nat.le_of_ble_eq_true rfl) ?_
          refine s_bits (r8_and (r8_spread (fun p hp => r8_mv C (w + i) hp) set)) ?_
          refine Zw_iadd dX11_run_113 ?_
          refine Zw_istore_6 dX11_run_114 rfl ?_
          refine Zw_iinc_7 dX11_run_116 rfl (zincn _) ?_
          refine Zw_goto 51 dX11_run_119 (by decide) ?_
          rw [show m0 - i = (m0 - (i + 1)) + 1 by omega, m_rn_s, if_pos ⟨c89, c94⟩] at hV
          refine l_mrn2 hc0 hm40 hw999 h m (i + 1) _ _ _ _ _ (by omega) (by omega) ((hO2.tr o2)) ?_ (r8_and (r8_spread (fun p hp => r8_mv C (w + i) hp) set)) hV
          rw [o2.1 65 (by simp), zup_at, if_pos ⟨rfl, rfl⟩]
          rfl
set_option maxRecDepth 20000 in
theorem s_mrun2 {C : mC} {w m0 : Nat} {Q : zQ} {μ : zMu} {τ : Int64} (hc0 : m_cx C w μ) (hm40 : m0 ≤ 40) (hw999 : w ≤ 999) (hr : r8 (μ 65 3)) (h : ∀ μ2 τ2, nOff [] μ μ2 → Q (some (.int (q_pick3 (q_rn (fun v => c_mv C v) (fun v => c_wt C v) w m0 0 (μ 65 3) 0) 2))) μ2 τ2) : Zc 45 yX11_run cX11_run 8 (some .int) [.ref 61, .int (nI m0), .int 2] μ τ Q := by
  refine Zc.mk 5 [.ref 61, .int (nI m0), .int 2, .null, .null, .null, .null, .null] rfl (by decide) (Nat.le_of_ble_eq_true rfl) ?_
  refine Zw_iload_1 dX11_run_0 ?_
  refine Zw_i2l dX11_run_1 ?_
  refine Zw_lconst (v := 0) dX11_run_2 (by decide) ?_
  refine Zw_ldc2 dX11_run_3 zw20 ?_
  refine Zw_S3 (k := 0) lm_X11_76 dX11_run_6 (by decide) (Nat.le_of_ble_eq_true rfl) ?_
  refine s_in0 41 (by decide) (fun _ => ?_) (fun a0 => absurd (vp_in_nI (by omega) (by omega)) a0)
  refine Zw_if_eq 24 dX11_run_9 (by decide) (fun c => absurd c (by decide)) (fun _ => ?_)
  refine Zw_iload_2 dX11_run_12 ?_
  refine Zw_i2l dX11_run_13 ?_
  refine Zw_lconst (v := 0) dX11_run_14 (by decide) ?_
  refine Zw_ldc2 dX11_run_15 zw19 ?_
  refine Zw_S3 (k := 0) lm_X11_76 dX11_run_18 (by decide) (Nat.le_of_ble_eq_true rfl) ?_
  refine s_in0 3 (by decide) (fun _ => ?_) (fun a0 => absurd (by unfold vp_in; decide) a0)
  refine Zw_if_ne 27 dX11_run_21 (by decide) (fun _ => ?_) (fun c => absurd c (by decide))
  refine Zw_aload_0 dX11_run_27 ?_
  refine Zw_getr 65 lf_X11_23 dX11_run_28 (by first | decide | assumption | omega) (by first | rfl | assumption) (by rfl) ?_
  refine Zw_iconst (v := 0) dX11_run_31 (by decide) ?_
  refine Zw_ialdnv (0) (nI w) dX11_run_32 (by first | decide | assumption | omega) (by first | rfl | assumption) rfl (by omega) (by decide) hc0.n5.2.2.1 ?_
  refine Zw_istore_3 dX11_run_33 rfl ?_
  refine Zw_aload_0 dX11_run_34 ?_
  refine Zw_getr 65 lf_X11_23 dX11_run_35 (by first | decide | assumption | omega) (by first | rfl | assumption) (by rfl) ?_
  refine Zw_iconst (v := 3) dX11_run_38 (by decide) ?_
  refine Zw_ialdn (3) dX11_run_39 (by first | decide | assumption | omega) (by first | rfl | assumption) rfl (by omega) (by decide) ?_
  refine Zw_istore_4 dX11_run_40 rfl ?_
  refine Zw_iconst (v := (-1)) dX11_run_42 (by decide) ?_
  refine Zw_istore_5 dX11_run_43 rfl ?_
  refine Zw_iconst (v := 0) dX11_run_45 (by decide) ?_
  refine Zw_istore_6 dX11_run_46 rfl ?_
  refine Zw_iconst (v := 0) dX11_run_48 (by decide) ?_
  refine Zw_istore_7 dX11_run_49 rfl ?_
  exact l_mrn2 hc0 hm40 hw999 h (m0 + 1) 0 _ _ _ _ _ (by omega) (by omega) (nW.refl _ _) hc0.n5.2.2.1 hr (m_rn_q _ _ _ _ _ _ _ (by omega))
set_option maxRecDepth 20000 in
theorem s_mlookB {n what : Int32} {Q : zQ} {μ : zMu} {τ : Int64} (hbad : ¬ (1 ≤ n.toInt ∧ n.toInt ≤ 3 ∧ vp_in what 2)) (h : Q (some (.int (-2))) μ τ) : Zc 45 yX11_look cX11_look 8 (some .int) [.ref 61, .int n, .int what] μ τ Q := by
  refine Zc.mk 5 [.ref 61, .int n, .int what, .null, .null, .null, .null, .null] rfl (by decide) (Nat.le_of_ble_eq_true rfl) ?_
  refine Zw_iload_1 dX11_look_0 ?_
  refine Zw_i2l dX11_look_1 ?_
  refine Zw_lconst (v := 1) dX11_look_2 (by decide) ?_
  refine Zw_ldc2 dX11_look_3 zw21 ?_
  refine Zw_S3 (k := 0) lm_X11_76 dX11_look_6 (by decide) (Nat.le_of_ble_eq_true rfl) ?_
  refine s_in (fun a1 a2 => ?_) (fun a0 => ?_)
  · refine Zw_if_eq 22 dX11_look_9 (by decide) (fun c => absurd c (by decide)) (fun _ => ?_)
    refine Zw_iload_2 dX11_look_12 ?_
    refine Zw_i2l dX11_look_13 ?_
    refine Zw_lconst (v := 0) dX11_look_14 (by decide) ?_
    refine Zw_lconst (v := 1) dX11_look_15 (by decide) ?_
    refine Zw_S3 (k := 0) lm_X11_76 dX11_look_16 (by decide) (Nat.le_of_ble_eq_true rfl) ?_
    refine s_in0 2 (by decide) (fun b2 => ?_) (fun b2 => ?_)
    · refine Zw_if_ne 25 dX11_look_19 (by decide) (fun _ => ?_) (fun c => absurd c (by decide))
      exact absurd ⟨by rw [z32] at a1; exact a1, by rw [z32] at a2; exact a2, b2⟩ hbad
    · refine Zw_if_ne 25 dX11_look_19 (by decide) (fun c => absurd c (by decide)) (fun _ => ?_)
      refine Zw_bipush (v := (-2)) dX11_look_22 (by decide) ?_
      refine Zw_ireturn dX11_look_24 (by first | rfl | assumption) ?_
      exact h
  · refine Zw_if_eq 22 dX11_look_9 (by decide) (fun _ => ?_) (fun c => absurd c (by decide))
    refine Zw_bipush (v := (-2)) dX11_look_22 (by decide) ?_
    refine Zw_ireturn dX11_look_24 (by first | rfl | assumption) ?_
    exact h
theorem q_bc8 {x : Int32} (h : r8 x) : ∃ k, k ≤ 8 ∧ q_bc x = nI k := by
  obtain ⟨a, ha, rfl⟩ := h
  exact ⟨pop8 a, pop8_le a ha, q_bc_pop a ha⟩
theorem q_lk_far {mv : Nat → Int32} {on n : Int32} (hm : ∀ p, p < 8 → r8 (mv p)) : ∀ m i b b', (∃ j, i ≤ j ∧ j < i + m ∧ q_bc (nI j) = n) → q_lk mv on n m i b 1000000 = q_lk mv on n m i b' 9
  | 0, i, _, _, h => by obtain ⟨j, h1, h2, _⟩ := h; omega
  | m + 1, i, b, b', h => by
    rw [q_lk_s, q_lk_s]
    by_cases hq : q_bc (nI i) = n
    · obtain ⟨k, hk, ek⟩ := q_bc8 (r8_spread hm (on &&& (nI i ^^^ (-1))))
      have h9 : q_bc (q_spread mv (on &&& (nI i ^^^ (-1)))) < 9 := by rw [ek]; exact nI_lt (b := 9) (by omega) (by decide)
      have hf : q_bc (q_spread mv (on &&& (nI i ^^^ (-1)))) < 1000000 := by rw [ek]; exact nI_lt (b := 1000000) (by omega) (by decide)
      rw [if_pos ⟨hq, hf⟩, if_pos ⟨hq, h9⟩]
    · rw [if_neg (fun e => hq e.1), if_neg (fun e => hq e.1)]
      obtain ⟨j, h1, h2, h3⟩ := h
      exact q_lk_far hm m (i + 1) b b' ⟨j, by rcases Nat.eq_or_lt_of_le h1 with e | e; (subst e; exact absurd h3 hq); exact e, by omega, h3⟩
theorem q_lk_m {mv : Nat → Int32} {on n : Int32} (hm : ∀ p, p < 8 → r8 (mv p)) (h1 : 1 ≤ n.toInt) (h3 : n.toInt ≤ 3) : q_lk mv on n 256 0 (-1) 1000000 = q_lk mv on n 255 1 0 9 := by
  have hn : n = nI 1 ∨ n = nI 2 ∨ n = nI 3 := by
    have e := zlit (x := n) rfl
    have : n.toInt = 1 ∨ n.toInt = 2 ∨ n.toInt = 3 := by omega
    rcases this with q | q | q
    · exact Or.inl (zlit q)
    · exact Or.inr (Or.inl (zlit q))
    · exact Or.inr (Or.inr (zlit q))
  rw [q_lk_s, if_neg (by rcases hn with rfl | rfl | rfl <;> (intro e; exact absurd e.1 (by decide +kernel)))]
  apply q_lk_far hm
  rcases hn with rfl | rfl | rfl
  · exact ⟨1, by omega, by omega, by decide +kernel⟩
  · exact ⟨3, by omega, by omega, by decide +kernel⟩
  · exact ⟨7, by omega, by omega, by decide +kernel⟩
set_option maxRecDepth 20000 in
theorem l_mlk {Q : zQ} {μ0 : zMu} {C : mC} {w : Nat} {n what on : Int32} {R : Int32 × Int32} (hc0 : m_cx C w μ0) (hr : r8 on) (h : ∀ μ2 τ2, nOff [] μ0 μ2 → Q (some (.int (if what = 0 then R.1 else R.2))) μ2 τ2) : ∀ m i best few μ τ, 256 - i < m → i ≤ 256 → nOff [] μ0 μ → q_lk (c_mv C w) on n (256 - i) i best few = R → Zw 45 RX11 cX11_look 8 (some .int) Q 47 [.ref 61, .int n, .int what, .int on, .int best, .int few, .int (nI i), .null] [] μ τ
  | 0, i, _, _, _, _, hm, _, _, _ => absurd hm (by omega)
  | m + 1, i, best, few, μ, τ, hm, hi, hO, hV => by
    refine Zw_iload_6 dX11_look_47 ?_
    refine Zw_sipush (v := 255) dX11_look_49 (by decide) ?_
    refine Zw_nicmp_gt (i) (255) 100 dX11_look_52 (by decide) rfl rfl (by omega) (by omega) (fun c52 => ?_) (fun c52 => ?_)
    · refine Zw_iload_2 dX11_look_100 ?_
      refine Zw_if_ne 109 dX11_look_101 (by decide) (fun c101 => ?_) (fun c101 => ?_)
      · refine Zw_iload_5 dX11_look_109 ?_
        refine Zw_ireturn dX11_look_111 (by first | rfl | assumption) ?_
        obtain rfl : i = 256 := by omega
        rw [show 256 - 256 = 0 by omega] at hV
        subst hV
        have hq := h _ τ hO
        rw [if_neg c101] at hq
        exact hq
      · refine Zw_iload_4 dX11_look_104 ?_
        refine Zw_goto 111 dX11_look_106 (by decide) ?_
        refine Zw_ireturn dX11_look_111 (by first | rfl | assumption) ?_
        obtain rfl : i = 256 := by omega
        rw [show 256 - 256 = 0 by omega] at hV
        subst hV
        have hq := h _ τ hO
        rw [if_pos c101] at hq
        exact hq
    · refine Zw_iload_6 dX11_look_55 ?_
      refine Zw_S1 (k := 0) lm_X11_329 dX11_look_57 (by decide) (Nat.le_of_ble_eq_true rfl) ?_
      refine s_bits ⟨i, by omega, rfl⟩ ?_
      refine Zw_iload_1 dX11_look_60 ?_
      refine Zw_icmp_ne 94 dX11_look_61 (by decide) (fun c61 => ?_) (fun c61 => ?_)
      · refine Zw_iinc_6 dX11_look_94 rfl (zincn _) ?_
        refine Zw_goto 47 dX11_look_97 (by decide) ?_
        refine Zw_drop (L' := [.ref 61, .int n, .int what, .int on, .int best, .int few, .int (nI (i + 1)), .null]) ⟨Or.inr rfl, Or.inr rfl, Or.inr rfl, Or.inr rfl, Or.inr rfl, Or.inr rfl, Or.inr rfl, Or.inl rfl, trivial⟩ (Nat.le_of_ble_eq_true rfl) ?_
        rw [show 256 - i = (256 - (i + 1)) + 1 by omega, q_lk_s, if_neg (fun e => c61 e.1)] at hV
        exact l_mlk hc0 hr h m (i + 1) _ _ _ _ (by omega) (by omega) hO hV
      · refine Zw_aload_0 dX11_look_64 ?_
        refine Zw_iload_3 dX11_look_65 ?_
        refine Zw_iload_6 dX11_look_66 ?_
        refine Zw_iconst (v := (-1)) dX11_look_68 (by decide) ?_
        refine Zw_ixor dX11_look_69 ?_
        refine Zw_iand dX11_look_70 ?_
        refine Zw_V1 (k := 44) lm_X11_341 dX11_look_71 (by decide) (by first | decide | assumption | omega) (by first | rfl | assumption) (by rfl) (Nat.le_of_ble_eq_true rfl) ?_
        refine s_c_spread (hc0.off hO (by simp)) (r8_and hr) (fun μ1 τ1 o1 => ?_)
        refine Zw_S1 (k := 0) lm_X11_329 dX11_look_74 (by decide) (Nat.le_of_ble_eq_true rfl) ?_
        refine s_bits (r8_spread (fun p hp => r8_mv C w hp) _) ?_
        refine Zw_istore_7 dX11_look_77 rfl ?_
        refine Zw_iload_7 dX11_look_79 ?_
        refine Zw_iload_5 dX11_look_81 ?_
        refine Zw_icmp_ge 94 dX11_look_83 (by decide) (fun c83 => ?_) (fun c83 => ?_)
        · refine Zw_iinc_6 dX11_look_94 rfl (zincn _) ?_
          refine Zw_goto 47 dX11_look_97 (by decide) ?_
          refine Zw_drop (L' := [.ref 61, .int n, .int what, .int on, .int best, .int few, .int (nI (i + 1)), .null]) ⟨Or.inr rfl, Or.inr rfl, Or.inr rfl, Or.inr rfl, Or.inr rfl, Or.inr rfl, Or.inr rfl, Or.inl rfl, trivial⟩ (Nat.le_of_ble_eq_true rfl) ?_
          rw [show 256 - i = (256 - (i + 1)) + 1 by omega, q_lk_s, if_neg (fun e => absurd (Int32.lt_iff_toInt_lt.mp e.2) (by have := Int32.le_iff_toInt_le.mp c83; omega))] at hV
          exact l_mlk hc0 hr h m (i + 1) _ _ _ _ (by omega) (by omega) (hO.tr o1) hV
        · refine Zw_iload_6 dX11_look_86 ?_
          refine Zw_istore_4 dX11_look_88 rfl ?_
          refine Zw_iload_7 dX11_look_90 ?_
          refine Zw_istore_5 dX11_look_92 rfl ?_
          refine Zw_iinc_6 dX11_look_94 rfl (zincn _) ?_
          refine Zw_goto 47 dX11_look_97 (by decide) ?_
          refine Zw_drop (L' := [.ref 61, .int n, .int what, .int on, .int (nI i), .int (q_bc (q_spread (c_mv C w) (on &&& (nI i ^^^ (-1))))), .int (nI (i + 1)), .null]) ⟨Or.inr rfl, Or.inr rfl, Or.inr rfl, Or.inr rfl, Or.inr rfl, Or.inr rfl, Or.inr rfl, Or.inl rfl, trivial⟩ (Nat.le_of_ble_eq_true rfl) ?_
          rw [show 256 - i = (256 - (i + 1)) + 1 by omega, q_lk_s, if_pos ⟨c61, by simpa using c83⟩] at hV
          exact l_mlk hc0 hr h m (i + 1) _ _ _ _ (by omega) (by omega) (hO.tr o1) hV
set_option maxRecDepth 20000 in
theorem s_mlook {C : mC} {w : Nat} {n what : Int32} {Q : zQ} {μ : zMu} {τ : Int64} (hc0 : m_cx C w μ) (hr : r8 (μ 65 3)) (hn1 : 1 ≤ n.toInt) (hn3 : n.toInt ≤ 3) (hwh : vp_in what 2) (h : ∀ μ2 τ2, nOff [] μ μ2 → Q (some (.int (if what = 0 then (q_lk (c_mv C w) (q_spread (c_mv C w) (μ 65 3)) n 255 1 0 9).1 else (q_lk (c_mv C w) (q_spread (c_mv C w) (μ 65 3)) n 255 1 0 9).2))) μ2 τ2) : Zc 45 yX11_look cX11_look 8 (some .int) [.ref 61, .int n, .int what] μ τ Q := by
  refine Zc.mk 5 [.ref 61, .int n, .int what, .null, .null, .null, .null, .null] rfl (by decide) (Nat.le_of_ble_eq_true rfl) ?_
  refine Zw_iload_1 dX11_look_0 ?_
  refine Zw_i2l dX11_look_1 ?_
  refine Zw_lconst (v := 1) dX11_look_2 (by decide) ?_
  refine Zw_ldc2 dX11_look_3 zw21 ?_
  refine Zw_S3 (k := 0) lm_X11_76 dX11_look_6 (by decide) (Nat.le_of_ble_eq_true rfl) ?_
  refine s_in (fun _ _ => ?_) (fun a0 => absurd ⟨by rw [z32]; exact hn1, by rw [z32]; exact hn3⟩ a0)
  refine Zw_if_eq 22 dX11_look_9 (by decide) (fun c => absurd c (by decide)) (fun _ => ?_)
  refine Zw_iload_2 dX11_look_12 ?_
  refine Zw_i2l dX11_look_13 ?_
  refine Zw_lconst (v := 0) dX11_look_14 (by decide) ?_
  refine Zw_lconst (v := 1) dX11_look_15 (by decide) ?_
  refine Zw_S3 (k := 0) lm_X11_76 dX11_look_16 (by decide) (Nat.le_of_ble_eq_true rfl) ?_
  refine s_in0 2 (by decide) (fun _ => ?_) (fun a0 => absurd hwh a0)
  refine Zw_if_ne 25 dX11_look_19 (by decide) (fun _ => ?_) (fun c => absurd c (by decide))
  refine Zw_aload_0 dX11_look_25 ?_
  refine Zw_aload_0 dX11_look_26 ?_
  refine Zw_getr 65 lf_X11_23 dX11_look_27 (by first | decide | assumption | omega) (by first | rfl | assumption) (by rfl) ?_
  refine Zw_iconst (v := 3) dX11_look_30 (by decide) ?_
  refine Zw_ialdn (3) dX11_look_31 (by first | decide | assumption | omega) (by first | rfl | assumption) rfl (by omega) (by decide) ?_
  refine Zw_V1 (k := 44) lm_X11_341 dX11_look_32 (by decide) (by first | decide | assumption | omega) (by first | rfl | assumption) (by rfl) (Nat.le_of_ble_eq_true rfl) ?_
  refine s_c_spread hc0 hr (fun μ1 τ1 o1 => ?_)
  refine Zw_istore_3 dX11_look_35 rfl ?_
  refine Zw_iconst (v := (-1)) dX11_look_36 (by decide) ?_
  refine Zw_istore_4 dX11_look_37 rfl ?_
  refine Zw_ldcw dX11_look_39 zw2 ?_
  refine Zw_istore_5 dX11_look_42 rfl ?_
  refine Zw_iconst (v := 0) dX11_look_44 (by decide) ?_
  refine Zw_istore_6 dX11_look_45 rfl ?_
  exact l_mlk (hc0.off o1 (by simp)) (r8_spread (fun p hp => r8_mv C w hp) _) (fun μ2 τ2 o2 => h μ2 τ2 (o1.tr o2)) 257 0 _ _ _ _ (by omega) (by omega) (nOff.refl _ _) (q_lk_m (fun p hp => r8_mv C w hp) hn1 hn3)
