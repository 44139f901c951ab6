def k_let (x : Int32) : Bool := decide (97 ≤ x.toInt ∧ x.toInt ≤ 122)
def k_dig (x : Int32) : Bool := decide (48 ≤ x.toInt ∧ x.toInt ≤ 57)
def k_spc (x : Int32) : Bool := decide (x = 32 ∨ x = 10)
def k_run (p : Int32 → Bool) (b : Nat → Int32) (n : Nat) : Nat → Nat → Nat
  | 0, i => i
  | m + 1, i => if i < n ∧ p (b i) = true then k_run p b n m (i + 1) else i
def k_end (p : Int32 → Bool) (b : Nat → Int32) (n i : Nat) : Nat := k_run p b n (n - i) i
theorem k_run_ge (p : Int32 → Bool) (b : Nat → Int32) (n : Nat) : ∀ m i, i ≤ k_run p b n m i
  | 0, i => Nat.le_refl i
  | m + 1, i => by
    unfold k_run
    split
    · exact Nat.le_trans (Nat.le_succ i) (k_run_ge p b n m (i + 1))
    · exact Nat.le_refl i
theorem k_run_le (p : Int32 → Bool) (b : Nat → Int32) (n : Nat) : ∀ m i, i ≤ n → k_run p b n m i ≤ n
  | 0, i, h => h
  | m + 1, i, h => by
    unfold k_run
    split
    · rename_i hc; exact k_run_le p b n m (i + 1) hc.1
    · exact h
theorem k_end_ge {p : Int32 → Bool} {b : Nat → Int32} {n i : Nat} : i ≤ k_end p b n i := k_run_ge p b n _ i
theorem k_end_le {p : Int32 → Bool} {b : Nat → Int32} {n i : Nat} (h : i ≤ n) : k_end p b n i ≤ n := k_run_le p b n _ i h
theorem k_end_go {p : Int32 → Bool} {b : Nat → Int32} {n i : Nat} (h : i < n) (hp : p (b i) = true) : k_end p b n i = k_end p b n (i + 1) := by
  unfold k_end
  rw [show n - i = (n - (i + 1)) + 1 by omega]
  conv => lhs; unfold k_run
  rw [if_pos ⟨h, hp⟩]
theorem k_end_no {p : Int32 → Bool} {b : Nat → Int32} {n i : Nat} (h : ¬ (i < n ∧ p (b i) = true)) : k_end p b n i = i := by
  unfold k_end
  cases hm : n - i with
  | zero => rfl
  | succ m => unfold k_run; rw [if_neg h]
def k_nv (b : Nat → Int32) : Nat → Nat → Int32 → Int32
  | 0, _, v => v
  | m + 1, i, v => k_nv b m (i + 1) (v * 10 + b i - 48)
def k_isl (b : Nat → Int32) (p ln w : Nat) : Nat → Nat → Bool
  | 0, _ => true
  | m + 1, i => if (if i < ln then b (p + i) = kW (w * 6 + i) else kW (w * 6 + i) = 32) then k_isl b p ln w m (i + 1) else false
theorem k_isl_s (b : Nat → Int32) (p ln w m i : Nat) : k_isl b p ln w (m + 1) i = if (if i < ln then b (p + i) = kW (w * 6 + i) else kW (w * 6 + i) = 32) then k_isl b p ln w m (i + 1) else false := rfl
def k_isw (b : Nat → Int32) (p e w : Nat) : Bool := if 6 < e - p then false else k_isl b p (e - p) w 6 0
def k_wi (b : Nat → Int32) (p e : Nat) : Nat → Nat → Nat → Nat
  | 0, _, r => r
  | m + 1, w, r => k_wi b p e m (w + 1) (if k_isw b p e w = true then w else r)
theorem k_wi_s (b : Nat → Int32) (p e m w r : Nat) : k_wi b p e (m + 1) w r = k_wi b p e m (w + 1) (if k_isw b p e w = true then w else r) := rfl
/-- the word's number; 12: it is none -/
def k_word (b : Nat → Int32) (p e : Nat) : Nat := k_wi b p e 12 0 12
def k_wt (r : Nat) : Nat := if r < 3 then 13 + r else if r < 6 then r - 2 else if r < 12 then 17 else 19
def k_sgn (x : Int32) : Nat := if x = 40 then 10 else if x = 41 then 11 else if x = 59 then 12 else if x = 43 then 6 else if x = 45 then 7 else if x = 42 then 8 else if x = 60 then 4 else if x = 61 then 5 else 19
def k_pl (b : Nat → Int32) (n i : Nat) : Nat := k_end k_spc b n i
def k_tokP (b : Nat → Int32) (n p : Nat) : Nat := if n ≤ p then 18 else if k_let (b p) = true then k_wt (k_word b p (k_end k_let b n p)) else if k_dig (b p) = true then (if 4 < k_end k_dig b n p - p then 19 else 16) else k_sgn (b p)
def k_nxP (b : Nat → Int32) (n p : Nat) : Nat := if n ≤ p then p else if k_let (b p) = true then k_end k_let b n p else if k_dig (b p) = true then k_end k_dig b n p else p + 1
def k_valP (b : Nat → Int32) (n p : Nat) : Int32 := if k_let (b p) = true then nI (k_word b p (k_end k_let b n p) - 6) else k_nv b (k_end k_dig b n p - p) p 0
def k_tok (b : Nat → Int32) (n i : Nat) : Nat := k_tokP b n (k_pl b n i)
def k_nx (b : Nat → Int32) (n i : Nat) : Nat := k_nxP b n (k_pl b n i)
def k_val (b : Nat → Int32) (n i : Nat) : Int32 := k_valP b n (k_pl b n i)
def tOff (μ μ' : zMu) : Prop := zOff [39] μ μ' ∧ ∀ s, s ≠ 2 → s ≠ 3 → s ≠ 4 → s ≠ 5 → μ' 39 s = μ 39 s
theorem tOff.refl (μ : zMu) : tOff μ μ := ⟨fun _ _ => rfl, fun _ _ _ _ _ => rfl⟩
theorem tOff.tr {a b c : zMu} (h : tOff a b) (h' : tOff b c) : tOff a c := ⟨h.1.tr h'.1, fun s h1 h2 h3 h4 => (h'.2 s h1 h2 h3 h4).trans (h.2 s h1 h2 h3 h4)⟩
theorem tOff.up {a b : zMu} {j : Nat} {x : Int32} (h : tOff a b) (hj : j = 2 ∨ j = 3 ∨ j = 4 ∨ j = 5) : tOff a (zup b 39 j x) := by
  refine ⟨fun k hk => ?_, fun s h1 h2 h3 h4 => ?_⟩
  · have hk' : k ≠ 39 := by simpa using hk
    rw [zup_ne hk']
    exact h.1 k hk
  · rw [zup_eq]
    have hs : s ≠ j := by omega
    have e : upd (b 39) j x s = b 39 s := if_neg hs
    rw [e]
    exact h.2 s h1 h2 h3 h4
/-- the tape: its bytes are of 0 to 255 -/
def k_by (b : Nat → Int32) (n : Nat) : Prop := ∀ i, i < n → ∃ v, v < 256 ∧ b i = nI v
set_option maxRecDepth 20000 in
theorem l_num {Q : zQ} {μ0 : zMu} {τ : Int64} {n p : Nat} (hn : n ≤ 160) (h : ∀ e v, ∀ μ2, tOff μ0 μ2 → e = k_end k_dig (μ0 40) n p → v = k_nv (μ0 40) (e - p) p 0 → μ2 39 4 = nI p → μ2 39 5 = nI e → μ2 39 3 = v → μ2 39 2 = nI (if 4 < e - p then 19 else 16) → Q none μ2 τ) : ∀ m i v μ, n - i < m → i ≤ n → p ≤ i → tOff μ0 μ → μ 39 1 = nI n → μ 39 5 = nI i → μ 39 4 = nI p → μ 39 3 = v → k_end k_dig (μ0 40) n i = k_end k_dig (μ0 40) n p → k_nv (μ0 40) (k_end k_dig (μ0 40) n i - i) i v = k_nv (μ0 40) (k_end k_dig (μ0 40) n p - p) p 0 → Zw 1 RX6 cX6_takeNumber 1 none Q 5 [.ref 39] [] μ τ
  | 0, i, _, _, hm, _, _, _, _, _, _, _, _, _ => absurd hm (by omega)
  | m + 1, i, v, μ, hm, hi, hpi, hO, h1, h5, h4, h3, he, hv => by
    refine Zw_aload_0 dX6_takeNumber_5 ?_
    refine Zw_getv (nI i) lf_X6_22 dX6_takeNumber_6 (by first | decide | assumption | omega) (by first | rfl | assumption) (by rfl) h5 ?_
    refine Zw_aload_0 dX6_takeNumber_9 ?_
    refine Zw_getv (nI n) lf_X6_18 dX6_takeNumber_10 (by first | decide | assumption | omega) (by first | rfl | assumption) (by rfl) h1 ?_
    refine Zw_nicmp_ge (i) (n) 68 dX6_takeNumber_13 (by decide) rfl rfl (by omega) (by omega) (fun c13 => ?_) (fun c13 => ?_)
    · refine Zw_aload_0 dX6_takeNumber_68 ?_
      refine Zw_aload_0 dX6_takeNumber_69 ?_
      refine Zw_getv (nI i) lf_X6_22 dX6_takeNumber_70 (by first | decide | assumption | omega) (by first | rfl | assumption) (by rfl) h5 ?_
      refine Zw_aload_0 dX6_takeNumber_73 ?_
      refine Zw_getv (nI p) lf_X6_36 dX6_takeNumber_74 (by first | decide | assumption | omega) (by first | rfl | assumption) (by rfl) h4 ?_
      refine Zw_nsub (i) (p) dX6_takeNumber_77 rfl rfl (by omega) ?_
      refine Zw_iconst (v := 4) dX6_takeNumber_78 (by decide) ?_
      refine Zw_nicmp_le ((i - p)) (4) 87 dX6_takeNumber_79 (by decide) rfl rfl (by omega) (by omega) (fun c79 => ?_) (fun c79 => ?_)
      · refine Zw_bipush (v := 16) dX6_takeNumber_87 (by decide) ?_
        refine Zw_put lp_X6_33 dX6_takeNumber_89 (by first | decide | assumption | omega) (by first | rfl | assumption) (by rfl) (by first | rfl | assumption) (by first | rfl | assumption) ?_
        refine Zw_return dX6_takeNumber_92 ?_
        have hno : k_end k_dig (μ0 40) n i = i := k_end_no (fun q => absurd q.1 (by omega))
        refine h i v _ (tOff.up hO (by omega)) (hno.symm.trans he) ?_ h4 h5 h3 ?_
        · rw [show i = k_end k_dig (μ0 40) n p from hno.symm.trans he]
          rw [← hv, hno, Nat.sub_self]
          rfl
        · rw [if_neg (by omega)]; rfl
      · refine Zw_bipush (v := 19) dX6_takeNumber_82 (by decide) ?_
        refine Zw_goto 89 dX6_takeNumber_84 (by decide) ?_
        refine Zw_put lp_X6_33 dX6_takeNumber_89 (by first | decide | assumption | omega) (by first | rfl | assumption) (by rfl) (by first | rfl | assumption) (by first | rfl | assumption) ?_
        refine Zw_return dX6_takeNumber_92 ?_
        have hno : k_end k_dig (μ0 40) n i = i := k_end_no (fun q => absurd q.1 (by omega))
        refine h i v _ (tOff.up hO (by omega)) (hno.symm.trans he) ?_ h4 h5 h3 ?_
        · rw [show i = k_end k_dig (μ0 40) n p from hno.symm.trans he]
          rw [← hv, hno, Nat.sub_self]
          rfl
        · rw [if_pos (by omega)]; rfl
    · refine Zw_aload_0 dX6_takeNumber_16 ?_
      refine Zw_getr 40 lf_X6_9 dX6_takeNumber_17 (by first | decide | assumption | omega) (by first | rfl | assumption) (by rfl) ?_
      refine Zw_aload_0 dX6_takeNumber_20 ?_
      refine Zw_getv (nI i) lf_X6_22 dX6_takeNumber_21 (by first | decide | assumption | omega) (by first | rfl | assumption) (by rfl) h5 ?_
      refine Zw_ialdnv (i) (μ0 40 i) dX6_takeNumber_24 (by first | decide | assumption | omega) (by first | rfl | assumption) rfl (by omega) (by decide) (by rw [hO.1 40 (by simp)]) ?_
      refine Zw_S1 (k := 0) lm_X6_92 dX6_takeNumber_25 (by decide) (Nat.le_of_ble_eq_true rfl) ?_
      refine s_x_isDigit (fun d1 d2 => ?_) (fun d1 => ?_)
      · refine Zw_if_eq 68 dX6_takeNumber_28 (by decide) (fun c => absurd c (by decide)) (fun _ => ?_)
        refine Zw_aload_0 dX6_takeNumber_31 ?_
        refine Zw_aload_0 dX6_takeNumber_32 ?_
        refine Zw_getv (v) lf_X6_53 dX6_takeNumber_33 (by first | decide | assumption | omega) (by first | rfl | assumption) (by rfl) h3 ?_
        refine Zw_bipush (v := 10) dX6_takeNumber_36 (by decide) ?_
        refine Zw_imul dX6_takeNumber_38 ?_
        refine Zw_aload_0 dX6_takeNumber_39 ?_
        refine Zw_getr 40 lf_X6_9 dX6_takeNumber_40 (by first | decide | assumption | omega) (by first | rfl | assumption) (by rfl) ?_
        refine Zw_aload_0 dX6_takeNumber_43 ?_
        refine Zw_getv (nI i) lf_X6_22 dX6_takeNumber_44 (by first | decide | assumption | omega) (by first | rfl | assumption) (by rfl) h5 ?_
        refine Zw_ialdnv (i) (μ0 40 i) dX6_takeNumber_47 (by first | decide | assumption | omega) (by first | rfl | assumption) rfl (by omega) (by decide) (by rw [hO.1 40 (by simp)]) ?_
        refine Zw_iadd dX6_takeNumber_48 ?_
        refine Zw_bipush (v := 48) dX6_takeNumber_49 (by decide) ?_
        refine Zw_isub dX6_takeNumber_51 ?_
        refine Zw_put lp_X6_53 dX6_takeNumber_52 (by first | decide | assumption | omega) (by first | rfl | assumption) (by rfl) (by first | rfl | assumption) (by first | rfl | assumption) ?_
        refine Zw_aload_0 dX6_takeNumber_55 ?_
        refine Zw_dup dX6_takeNumber_56 rfl ?_
        refine Zw_getv (nI i) lf_X6_22 dX6_takeNumber_57 (by first | decide | assumption | omega) (by first | rfl | assumption) (by rfl) h5 ?_
        refine Zw_iconst (v := 1) dX6_takeNumber_60 (by decide) ?_
        refine Zw_nadd (i) (1) dX6_takeNumber_61 rfl rfl ?_
        refine Zw_put lp_X6_22 dX6_takeNumber_62 (by first | decide | assumption | omega) (by first | rfl | assumption) (by rfl) (by first | rfl | assumption) (by first | rfl | assumption) ?_
        refine Zw_goto 5 dX6_takeNumber_65 (by decide) ?_
        have hd : k_dig (μ0 40 i) = true := decide_eq_true ⟨d1, d2⟩
        have hge := k_end_ge (p := k_dig) (b := μ0 40) (n := n) (i := i + 1)
        have hgo := k_end_go c13 hd
        refine l_num hn h m (i + 1) _ _ (by omega) (by omega) (by omega) (tOff.up (tOff.up hO (by omega)) (by omega)) h1 rfl h4 rfl (hgo.symm.trans he) ?_
        rw [hgo, show k_end k_dig (μ0 40) n (i + 1) - i = (k_end k_dig (μ0 40) n (i + 1) - (i + 1)) + 1 by omega] at hv
        exact hv
      · refine Zw_if_eq 68 dX6_takeNumber_28 (by decide) (fun _ => ?_) (fun c => absurd c (by decide))
        refine Zw_aload_0 dX6_takeNumber_68 ?_
        refine Zw_aload_0 dX6_takeNumber_69 ?_
        refine Zw_getv (nI i) lf_X6_22 dX6_takeNumber_70 (by first | decide | assumption | omega) (by first | rfl | assumption) (by rfl) h5 ?_
        refine Zw_aload_0 dX6_takeNumber_73 ?_
        refine Zw_getv (nI p) lf_X6_36 dX6_takeNumber_74 (by first | decide | assumption | omega) (by first | rfl | assumption) (by rfl) h4 ?_
        refine Zw_nsub (i) (p) dX6_takeNumber_77 rfl rfl (by omega) ?_
        refine Zw_iconst (v := 4) dX6_takeNumber_78 (by decide) ?_
        refine Zw_nicmp_le ((i - p)) (4) 87 dX6_takeNumber_79 (by decide) rfl rfl (by omega) (by omega) (fun c79 => ?_) (fun c79 => ?_)
        · refine Zw_bipush (v := 16) dX6_takeNumber_87 (by decide) ?_
          refine Zw_put lp_X6_33 dX6_takeNumber_89 (by first | decide | assumption | omega) (by first | rfl | assumption) (by rfl) (by first | rfl | assumption) (by first | rfl | assumption) ?_
          refine Zw_return dX6_takeNumber_92 ?_
          have hno : k_end k_dig (μ0 40) n i = i := k_end_no (fun q => d1 (of_decide_eq_true q.2))
          refine h i v _ (tOff.up hO (by omega)) (hno.symm.trans he) ?_ h4 h5 h3 ?_
          · rw [show i = k_end k_dig (μ0 40) n p from hno.symm.trans he]
            rw [← hv, hno, Nat.sub_self]
            rfl
          · rw [if_neg (by omega)]; rfl
        · refine Zw_bipush (v := 19) dX6_takeNumber_82 (by decide) ?_
          refine Zw_goto 89 dX6_takeNumber_84 (by decide) ?_
          refine Zw_put lp_X6_33 dX6_takeNumber_89 (by first | decide | assumption | omega) (by first | rfl | assumption) (by rfl) (by first | rfl | assumption) (by first | rfl | assumption) ?_
          refine Zw_return dX6_takeNumber_92 ?_
          have hno : k_end k_dig (μ0 40) n i = i := k_end_no (fun q => d1 (of_decide_eq_true q.2))
          refine h i v _ (tOff.up hO (by omega)) (hno.symm.trans he) ?_ h4 h5 h3 ?_
          · rw [show i = k_end k_dig (μ0 40) n p from hno.symm.trans he]
            rw [← hv, hno, Nat.sub_self]
            rfl
          · rw [if_pos (by omega)]; rfl
set_option maxRecDepth 20000 in
theorem s_takeNumber {n p : Nat} {Q : zQ} {μ : zMu} {τ : Int64} (hn : n ≤ 160) (hp : p ≤ n) (h1 : μ 39 1 = nI n) (h5 : μ 39 5 = nI p) (h4 : μ 39 4 = nI p) (h : ∀ e v, ∀ μ2, tOff μ μ2 → e = k_end k_dig (μ 40) n p → v = k_nv (μ 40) (e - p) p 0 → μ2 39 4 = nI p → μ2 39 5 = nI e → μ2 39 3 = v → μ2 39 2 = nI (if 4 < e - p then 19 else 16) → Q none μ2 τ) : Zc 1 yX6_takeNumber cX6_takeNumber 1 none [.ref 39] μ τ Q := by
  refine Zc.mk 0 [.ref 39] rfl (by decide) (Nat.le_of_ble_eq_true rfl) ?_
  refine Zw_aload_0 dX6_takeNumber_0 ?_
  refine Zw_iconst (v := 0) dX6_takeNumber_1 (by decide) ?_
  refine Zw_put lp_X6_53 dX6_takeNumber_2 (by first | decide | assumption | omega) (by first | rfl | assumption) (by rfl) (by first | rfl | assumption) (by first | rfl | assumption) ?_
  exact l_num hn h (n + 1) p _ _ (by omega) hp (Nat.le_refl p) (tOff.up (tOff.refl μ) (by omega)) h1 h5 h4 rfl rfl rfl
theorem k_ix_t : ∀ v, v < 256 → (k_sgn (nI v) = 19 ∧ k_ix ((nI v).toUInt32 % 65536).toInt32.toInt8.toInt32 = -1) ∨ ∃ r, r < 8 ∧ k_ix ((nI v).toUInt32 % 65536).toInt32.toInt8.toInt32 = nI r ∧ (zTab 3).getD r 0 = nI (k_sgn (nI v)) := by decide +kernel
theorem k_ch : ∀ v, v < 256 → ¬ ((nI v).toUInt32 % 65536).toInt32 < 0 ∧ ¬ 255 < ((nI v).toUInt32 % 65536).toInt32 := by decide +kernel
set_option maxRecDepth 20000 in
theorem s_takeSign {n p : Nat} {Q : zQ} {μ : zMu} {τ : Int64} (hn : n ≤ 160) (hp : p < n) (hb : k_by (μ 40) n) (h5 : μ 39 5 = nI p) (h4 : μ 39 4 = nI p) (h : ∀ μ2, tOff μ μ2 → μ2 39 4 = nI p → μ2 39 5 = nI (p + 1) → μ2 39 2 = nI (k_sgn (μ 40 p)) → Q none μ2 τ) : Zc 8 yX6_takeSign cX6_takeSign 2 none [.ref 39] μ τ Q := by
  refine Zc.mk 1 [.ref 39, .null] rfl (by decide) (Nat.le_of_ble_eq_true rfl) ?_
  obtain ⟨v, hv6, hv⟩ := hb p hp
  have hx := k_ix_t v hv6
  refine Zw_ldcS1 dX6_takeSign_0 ?_
  refine Zw_aload_0 dX6_takeSign_2 ?_
  refine Zw_getr 40 lf_X6_9 dX6_takeSign_3 (by first | decide | assumption | omega) (by first | rfl | assumption) (by rfl) ?_
  refine Zw_aload_0 dX6_takeSign_6 ?_
  refine Zw_getv (nI p) lf_X6_22 dX6_takeSign_7 (by first | decide | assumption | omega) (by first | rfl | assumption) (by rfl) h5 ?_
  refine Zw_ialdnv (p) (nI v) dX6_takeSign_10 (by first | decide | assumption | omega) (by first | rfl | assumption) rfl (by omega) (by decide) hv ?_
  refine Zw_i2c dX6_takeSign_11 ?_
  refine Zw_VS1 (i := 1) (k := 7) (by decide) lm_X6_114 dX6_takeSign_12 (by decide) rfl (Nat.le_of_ble_eq_true rfl) ?_
  refine s_indexOf (k_ch v hv6).1 (k_ch v hv6).2 ?_
  refine Zw_istore_1 dX6_takeSign_15 rfl ?_
  refine Zw_aload_0 dX6_takeSign_16 ?_
  refine Zw_iload_1 dX6_takeSign_17 ?_
  refine Zw_getsN (t := 3) (by decide) (by decide +kernel) dX6_takeSign_18 ?_
  refine Zw_tlen (t := 3) dX6_takeSign_21 (by decide) rfl ?_
  refine Zw_N2 (k := 0) lm_X6_121 dX6_takeSign_22 (by decide) (Nat.le_of_ble_eq_true rfl) ?_
  refine s_within 8 (by decide) (fun b1 => ?_) (fun b1 => ?_)
  · refine Zw_if_eq 36 dX6_takeSign_25 (by decide) (fun c => absurd c (by decide)) (fun _ => ?_)
    refine Zw_getsN (t := 3) (by decide) (by decide +kernel) dX6_takeSign_28 ?_
    rcases hx with hx | ⟨r, hr, hx1, hx2⟩
    · rw [hx.2] at b1; exact absurd b1 (by unfold vp_in; decide)
    refine Zw_iload_1 dX6_takeSign_31 ?_
    rw [hx1]
    have hin : vp_in (nI r) (zTab 3).length := vp_in_nI (N := 8) hr (by decide)
    refine Zw_tald (t := 3) dX6_takeSign_32 (by decide) (by first | assumption | exact vp_in_nI (by omega) (by omega) | exact vp_in_nI (by simp; omega) (by decide) | (unfold vp_in; decide)) (by first | rfl | assumption) ?_
    refine Zw_goto 38 dX6_takeSign_33 (by decide) ?_
    refine Zw_put lp_X6_33 dX6_takeSign_38 (by first | decide | assumption | omega) (by first | rfl | assumption) (by rfl) (by first | rfl | assumption) (by first | rfl | assumption) ?_
    refine Zw_aload_0 dX6_takeSign_41 ?_
    refine Zw_dup dX6_takeSign_42 rfl ?_
    refine Zw_getv (nI p) lf_X6_22 dX6_takeSign_43 (by first | decide | assumption | omega) (by first | rfl | assumption) (by rfl) h5 ?_
    refine Zw_iconst (v := 1) dX6_takeSign_46 (by decide) ?_
    refine Zw_nadd (p) (1) dX6_takeSign_47 rfl rfl ?_
    refine Zw_put lp_X6_22 dX6_takeSign_48 (by first | decide | assumption | omega) (by first | rfl | assumption) (by rfl) (by first | rfl | assumption) (by first | rfl | assumption) ?_
    refine Zw_return dX6_takeSign_51 ?_
    refine h _ (tOff.up (tOff.up (tOff.refl μ) (by omega)) (by omega)) h4 rfl ?_
    show (zTab 3).getD (nI r).toNatClampNeg 0 = _
    rw [nI_clamp (by omega), hv]; exact hx2
  · refine Zw_if_eq 36 dX6_takeSign_25 (by decide) (fun _ => ?_) (fun c => absurd c (by decide))
    refine Zw_bipush (v := 19) dX6_takeSign_36 (by decide) ?_
    refine Zw_put lp_X6_33 dX6_takeSign_38 (by first | decide | assumption | omega) (by first | rfl | assumption) (by rfl) (by first | rfl | assumption) (by first | rfl | assumption) ?_
    refine Zw_aload_0 dX6_takeSign_41 ?_
    refine Zw_dup dX6_takeSign_42 rfl ?_
    refine Zw_getv (nI p) lf_X6_22 dX6_takeSign_43 (by first | decide | assumption | omega) (by first | rfl | assumption) (by rfl) h5 ?_
    refine Zw_iconst (v := 1) dX6_takeSign_46 (by decide) ?_
    refine Zw_nadd (p) (1) dX6_takeSign_47 rfl rfl ?_
    refine Zw_put lp_X6_22 dX6_takeSign_48 (by first | decide | assumption | omega) (by first | rfl | assumption) (by rfl) (by first | rfl | assumption) (by first | rfl | assumption) ?_
    refine Zw_return dX6_takeSign_51 ?_
    refine h _ (tOff.up (tOff.up (tOff.refl μ) (by omega)) (by omega)) h4 rfl ?_
    rcases hx with hx | ⟨r, hr, hx1, hx2⟩
    · show (19 : Int32) = _
      rw [hv, hx.1]; rfl
    · exact absurd (hx1 ▸ vp_in_nI (N := 8) hr (by decide)) b1
set_option maxRecDepth 20000 in
theorem l_isw {Q : zQ} {μ : zMu} {τ : Int64} {w ln p : Nat} {b : Nat → Int32} {R : Bool} (hb : μ 40 = b) (hw : w < 12) (hln : ln ≤ 6) (hp : p + ln ≤ 160) (h4 : μ 39 4 = nI p) (h1 : R = true → Q (some (.int 1)) μ τ) (h0 : R = false → Q (some (.int 0)) μ τ) : ∀ m i, 6 - i < m → i ≤ 6 → k_isl b p ln w (6 - i) i = R → Zw 6 RX6 cX6_isWord 5 (some .boolean) Q 20 [.ref 39, .int (nI w), .int (nI ln), .int (nI i), .null] [] μ τ
  | 0, i, hm, _, _ => absurd hm (by omega)
  | m + 1, i, hm, hi, hR => by
    rcases Nat.lt_or_ge i 6 with hlt | hge
    · refine Zw_iload_3 dX6_isWord_20 ?_
      refine Zw_bipush (v := 6) dX6_isWord_21 (by decide) ?_
      refine Zw_icmp_ge 78 dX6_isWord_23 (by decide) (fun c23 => absurd c23 (fun e => absurd ((zle (N := 6) rfl (by decide) (by omega)).mp e) (by omega))) (fun c23 => ?_)
      refine Zw_ldcS0 dX6_isWord_26 ?_
      refine Zw_iload_1 dX6_isWord_28 ?_
      refine Zw_bipush (v := 6) dX6_isWord_29 (by decide) ?_
      refine Zw_nmul (w) (6) dX6_isWord_31 rfl rfl ?_
      refine Zw_iload_3 dX6_isWord_32 ?_
      refine Zw_nadd ((w * 6)) (i) dX6_isWord_33 rfl rfl ?_
      refine Zw_VS1 (i := 0) (k := 5) (by decide) lm_X6_106 dX6_isWord_34 (by decide) rfl (Nat.le_of_ble_eq_true rfl) ?_
      refine s_charAt (by omega) ?_
      refine Zw_istore_4 dX6_isWord_37 rfl ?_
      refine Zw_iload_3 dX6_isWord_39 ?_
      refine Zw_iload_2 dX6_isWord_40 ?_
      refine Zw_nicmp_ge (i) (ln) 63 dX6_isWord_41 (by decide) rfl rfl (by omega) (by omega) (fun c41 => ?_) (fun c41 => ?_)
      · refine Zw_iload_4 dX6_isWord_63 ?_
        refine Zw_bipush (v := 32) dX6_isWord_65 (by decide) ?_
        refine Zw_icmp_eq 72 dX6_isWord_67 (by decide) (fun c67 => ?_) (fun c67 => ?_)
        · refine Zw_iinc_3 dX6_isWord_72 rfl (zincn _) ?_
          refine Zw_goto 20 dX6_isWord_75 (by decide) ?_
          refine Zw_drop (L' := [.ref 39, .int (nI w), .int (nI ln), .int (nI (i + 1)), .null]) ⟨Or.inr rfl, Or.inr rfl, Or.inr rfl, Or.inr rfl, Or.inl rfl, trivial⟩ (Nat.le_of_ble_eq_true rfl) ?_
          rw [show 6 - i = (6 - (i + 1)) + 1 by omega] at hR
          rw [k_isl_s, if_pos (show (if i < ln then b (p + i) = kW (w * 6 + i) else kW (w * 6 + i) = 32) by rw [if_neg (by omega)]; exact c67)] at hR
          exact l_isw hb hw hln hp h4 h1 h0 m (i + 1) (by omega) (by omega) hR
        · refine Zw_iconst (v := 0) dX6_isWord_70 (by decide) ?_
          refine Zw_ireturn dX6_isWord_71 (by first | rfl | assumption) ?_
          rw [show 6 - i = (6 - (i + 1)) + 1 by omega] at hR
          rw [k_isl_s, if_neg (show ¬ (if i < ln then b (p + i) = kW (w * 6 + i) else kW (w * 6 + i) = 32) by rw [if_neg (by omega)]; exact c67)] at hR
          exact h0 hR.symm
      · refine Zw_aload_0 dX6_isWord_44 ?_
        refine Zw_getr 40 lf_X6_9 dX6_isWord_45 (by first | decide | assumption | omega) (by first | rfl | assumption) (by rfl) ?_
        refine Zw_aload_0 dX6_isWord_48 ?_
        refine Zw_getv (nI p) lf_X6_36 dX6_isWord_49 (by first | decide | assumption | omega) (by first | rfl | assumption) (by rfl) h4 ?_
        refine Zw_iload_3 dX6_isWord_52 ?_
        refine Zw_nadd (p) (i) dX6_isWord_53 rfl rfl ?_
        refine Zw_ialdnv ((p + i)) (b (p + i)) dX6_isWord_54 (by first | decide | assumption | omega) (by first | rfl | assumption) rfl (by omega) (by decide) (by rw [hb]) ?_
        refine Zw_iload_4 dX6_isWord_55 ?_
        refine Zw_icmp_eq 72 dX6_isWord_57 (by decide) (fun c57 => ?_) (fun c57 => ?_)
        · refine Zw_iinc_3 dX6_isWord_72 rfl (zincn _) ?_
          refine Zw_goto 20 dX6_isWord_75 (by decide) ?_
          refine Zw_drop (L' := [.ref 39, .int (nI w), .int (nI ln), .int (nI (i + 1)), .null]) ⟨Or.inr rfl, Or.inr rfl, Or.inr rfl, Or.inr rfl, Or.inl rfl, trivial⟩ (Nat.le_of_ble_eq_true rfl) ?_
          rw [show 6 - i = (6 - (i + 1)) + 1 by omega] at hR
          rw [k_isl_s, if_pos (show (if i < ln then b (p + i) = kW (w * 6 + i) else kW (w * 6 + i) = 32) by rw [if_pos c41]; exact c57)] at hR
          exact l_isw hb hw hln hp h4 h1 h0 m (i + 1) (by omega) (by omega) hR
        · refine Zw_goto 70 dX6_isWord_60 (by decide) ?_
          refine Zw_iconst (v := 0) dX6_isWord_70 (by decide) ?_
          refine Zw_ireturn dX6_isWord_71 (by first | rfl | assumption) ?_
          rw [show 6 - i = (6 - (i + 1)) + 1 by omega] at hR
          rw [k_isl_s, if_neg (show ¬ (if i < ln then b (p + i) = kW (w * 6 + i) else kW (w * 6 + i) = 32) by rw [if_pos c41]; exact c57)] at hR
          exact h0 hR.symm
    · rw [show 6 - i = 0 by omega] at hR
      refine Zw_iload_3 dX6_isWord_20 ?_
      refine Zw_bipush (v := 6) dX6_isWord_21 (by decide) ?_
      refine Zw_icmp_ge 78 dX6_isWord_23 (by decide) (fun c23 => ?_) (fun c23 => absurd c23 (fun e => e ((zle (N := 6) rfl (by decide) (by omega)).mpr hge)))
      refine Zw_iconst (v := 1) dX6_isWord_78 (by decide) ?_
      refine Zw_ireturn dX6_isWord_79 (by first | rfl | assumption) ?_
      exact h1 hR.symm
set_option maxRecDepth 20000 in
theorem s_isWord {w p e n : Nat} {Q : zQ} {μ : zMu} {τ : Int64} (hw : w < 12) (hpe : p ≤ e) (he : e ≤ n) (hn : n ≤ 160) (h4 : μ 39 4 = nI p) (h5 : μ 39 5 = nI e) (h1 : k_isw (μ 40) p e w = true → Q (some (.int 1)) μ τ) (h0 : k_isw (μ 40) p e w = false → Q (some (.int 0)) μ τ) : Zc 6 yX6_isWord cX6_isWord 5 (some .boolean) [.ref 39, .int (nI w)] μ τ Q := by
  refine Zc.mk 3 [.ref 39, .int (nI w), .null, .null, .null] rfl (by decide) (Nat.le_of_ble_eq_true rfl) ?_
  refine Zw_aload_0 dX6_isWord_0 ?_
  refine Zw_getv (nI e) lf_X6_22 dX6_isWord_1 (by first | decide | assumption | omega) (by first | rfl | assumption) (by rfl) h5 ?_
  refine Zw_aload_0 dX6_isWord_4 ?_
  refine Zw_getv (nI p) lf_X6_36 dX6_isWord_5 (by first | decide | assumption | omega) (by first | rfl | assumption) (by rfl) h4 ?_
  refine Zw_nsub (e) (p) dX6_isWord_8 rfl rfl (by omega) ?_
  refine Zw_istore_2 dX6_isWord_9 rfl ?_
  refine Zw_iload_2 dX6_isWord_10 ?_
  refine Zw_bipush (v := 6) dX6_isWord_11 (by decide) ?_
  refine Zw_nicmp_le ((e - p)) (6) 18 dX6_isWord_13 (by decide) rfl rfl (by omega) (by omega) (fun c13 => ?_) (fun c13 => ?_)
  · refine Zw_iconst (v := 0) dX6_isWord_18 (by decide) ?_
    refine Zw_istore_3 dX6_isWord_19 rfl ?_
    have hk : k_isw (μ 40) p e w = k_isl (μ 40) p (e - p) w 6 0 := by unfold k_isw; rw [if_neg (by omega)]
    rw [hk] at h1 h0
    refine Zw_drop (L' := [.ref 39, .int (nI w), .int (nI (e - p)), .int (nI 0), .null]) ⟨Or.inr rfl, Or.inr rfl, Or.inr rfl, Or.inr rfl, Or.inl rfl, trivial⟩ (Nat.le_of_ble_eq_true rfl) ?_
    exact l_isw rfl hw (by omega) (by omega) h4 h1 h0 7 0 (by omega) (by omega) rfl
  · refine Zw_iconst (v := 0) dX6_isWord_16 (by decide) ?_
    refine Zw_ireturn dX6_isWord_17 (by first | rfl | assumption) ?_
    exact h0 (by unfold k_isw; rw [if_pos (by omega)])
def tW (r : Nat) (μ : zMu) : Prop := μ 39 2 = nI (k_wt r) ∧ (6 ≤ r → r < 12 → μ 39 3 = nI (r - 6))
theorem nI_sub6 {w : Nat} (h : 6 ≤ w) : nI w - 6 = nI (w - 6) := by
  obtain ⟨v, rfl⟩ : ∃ v, w = v + 6 := ⟨w - 6, by omega⟩
  rw [show v + 6 - 6 = v by omega, show nI (v + 6) = nI v + 6 from (nI_add v 6).symm]
  simp
theorem k_wt_m : ∀ w, w < 6 → 3 ≤ w → nI (1 + w) - 3 = nI (k_wt w) := by decide
theorem k_wt_p : ∀ w, w < 3 → nI (13 + w) = nI (k_wt w) := by decide
set_option maxRecDepth 20000 in
theorem l_word {Q : zQ} {μ0 : zMu} {τ : Int64} {p e n R : Nat} (hpe : p ≤ e) (hen : e ≤ n) (hn : n ≤ 160) (h : ∀ μ2, tOff μ0 μ2 → μ2 39 4 = nI p → μ2 39 5 = nI e → tW R μ2 → Q none μ2 τ) : ∀ m w r μ, 12 - w < m → w ≤ 12 → tOff μ0 μ → μ 39 4 = nI p → μ 39 5 = nI e → tW r μ → k_wi (μ0 40) p e (12 - w) w r = R → Zw 7 RX6 cX6_takeWord 2 none Q 47 [.ref 39, .int (nI w)] [] μ τ
  | 0, w, _, _, hm, _, _, _, _, _, _ => absurd hm (by omega)
  | m + 1, w, r, μ, hm, hw, hO, h4, h5, ht, hR => by
    rcases Nat.lt_or_ge w 12 with hlt | hge
    · refine Zw_iload_1 dX6_takeWord_47 ?_
      refine Zw_bipush (v := 12) dX6_takeWord_48 (by decide) ?_
      refine Zw_icmp_ge 111 dX6_takeWord_50 (by decide) (fun c50 => absurd c50 (fun e => absurd ((zle (N := 12) rfl (by decide) (by omega)).mp e) (by omega))) (fun c50 => ?_)
      refine Zw_aload_0 dX6_takeWord_53 ?_
      refine Zw_iload_1 dX6_takeWord_54 ?_
      refine Zw_V1 (k := 6) lm_X6_101 dX6_takeWord_55 (by decide) (by first | decide | assumption | omega) (by first | rfl | assumption) (by rfl) (Nat.le_of_ble_eq_true rfl) ?_
      refine s_isWord hlt hpe hen hn h4 h5 (fun q1 => ?_) (fun q1 => ?_)
      all_goals rw [hO.1 40 (by simp)] at q1
      · refine Zw_if_eq 105 dX6_takeWord_58 (by decide) (fun c => absurd c (by decide)) (fun _ => ?_)
        refine Zw_aload_0 dX6_takeWord_61 ?_
        refine Zw_iload_1 dX6_takeWord_62 ?_
        refine Zw_bipush (v := 6) dX6_takeWord_63 (by decide) ?_
        refine Zw_isub dX6_takeWord_65 ?_
        refine Zw_put lp_X6_53 dX6_takeWord_66 (by first | decide | assumption | omega) (by first | rfl | assumption) (by rfl) (by first | rfl | assumption) (by first | rfl | assumption) ?_
        refine Zw_iload_1 dX6_takeWord_69 ?_
        refine Zw_bipush (v := 6) dX6_takeWord_70 (by decide) ?_
        refine Zw_nicmp_lt (w) (6) 84 dX6_takeWord_72 (by decide) rfl rfl (by omega) (by omega) (fun c72 => ?_) (fun c72 => ?_)
        · refine Zw_aload_0 dX6_takeWord_84 ?_
          refine Zw_iload_1 dX6_takeWord_85 ?_
          refine Zw_iconst (v := 3) dX6_takeWord_86 (by decide) ?_
          refine Zw_nicmp_lt (w) (3) 98 dX6_takeWord_87 (by decide) rfl rfl (by omega) (by omega) (fun c87 => ?_) (fun c87 => ?_)
          · refine Zw_bipush (v := 13) dX6_takeWord_98 (by decide) ?_
            refine Zw_iload_1 dX6_takeWord_100 ?_
            refine Zw_nadd (13) (w) dX6_takeWord_101 rfl rfl ?_
            refine Zw_put lp_X6_33 dX6_takeWord_102 (by first | decide | assumption | omega) (by first | rfl | assumption) (by rfl) (by first | rfl | assumption) (by first | rfl | assumption) ?_
            refine Zw_iinc_1 dX6_takeWord_105 rfl (zincn _) ?_
            refine Zw_goto 47 dX6_takeWord_108 (by decide) ?_
            refine Zw_drop (L' := [.ref 39, .int (nI (w + 1))]) ⟨Or.inr rfl, Or.inr rfl, trivial⟩ (Nat.le_of_ble_eq_true rfl) ?_
            rw [show 12 - w = (12 - (w + 1)) + 1 by omega, k_wi_s] at hR
            rw [if_pos q1] at hR
            exact l_word hpe hen hn h m (w + 1) w _ (by omega) (by omega) (tOff.up (tOff.up hO (by omega)) (by omega)) h4 h5 ⟨k_wt_p w (by omega), fun q _ => absurd q (by omega)⟩ hR
          · refine Zw_iconst (v := 1) dX6_takeWord_90 (by decide) ?_
            refine Zw_iload_1 dX6_takeWord_91 ?_
            refine Zw_nadd (1) (w) dX6_takeWord_92 rfl rfl ?_
            refine Zw_iconst (v := 3) dX6_takeWord_93 (by decide) ?_
            refine Zw_isub dX6_takeWord_94 ?_
            refine Zw_goto 102 dX6_takeWord_95 (by decide) ?_
            refine Zw_put lp_X6_33 dX6_takeWord_102 (by first | decide | assumption | omega) (by first | rfl | assumption) (by rfl) (by first | rfl | assumption) (by first | rfl | assumption) ?_
            refine Zw_iinc_1 dX6_takeWord_105 rfl (zincn _) ?_
            refine Zw_goto 47 dX6_takeWord_108 (by decide) ?_
            refine Zw_drop (L' := [.ref 39, .int (nI (w + 1))]) ⟨Or.inr rfl, Or.inr rfl, trivial⟩ (Nat.le_of_ble_eq_true rfl) ?_
            rw [show 12 - w = (12 - (w + 1)) + 1 by omega, k_wi_s] at hR
            rw [if_pos q1] at hR
            exact l_word hpe hen hn h m (w + 1) w _ (by omega) (by omega) (tOff.up (tOff.up hO (by omega)) (by omega)) h4 h5 ⟨k_wt_m w (by omega) (by omega), fun q _ => absurd q (by omega)⟩ hR
        · refine Zw_aload_0 dX6_takeWord_75 ?_
          refine Zw_bipush (v := 17) dX6_takeWord_76 (by decide) ?_
          refine Zw_put lp_X6_33 dX6_takeWord_78 (by first | decide | assumption | omega) (by first | rfl | assumption) (by rfl) (by first | rfl | assumption) (by first | rfl | assumption) ?_
          refine Zw_goto 105 dX6_takeWord_81 (by decide) ?_
          refine Zw_iinc_1 dX6_takeWord_105 rfl (zincn _) ?_
          refine Zw_goto 47 dX6_takeWord_108 (by decide) ?_
          refine Zw_drop (L' := [.ref 39, .int (nI (w + 1))]) ⟨Or.inr rfl, Or.inr rfl, trivial⟩ (Nat.le_of_ble_eq_true rfl) ?_
          rw [show 12 - w = (12 - (w + 1)) + 1 by omega, k_wi_s] at hR
          rw [if_pos q1] at hR
          exact l_word hpe hen hn h m (w + 1) w _ (by omega) (by omega) (tOff.up (tOff.up hO (by omega)) (by omega)) h4 h5 ⟨by rw [k_wt, if_neg (by omega), if_neg (by omega), if_pos (by omega)]; rfl, fun _ _ => nI_sub6 (by omega)⟩ hR
      · refine Zw_if_eq 105 dX6_takeWord_58 (by decide) (fun _ => ?_) (fun c => absurd c (by decide))
        refine Zw_iinc_1 dX6_takeWord_105 rfl (zincn _) ?_
        refine Zw_goto 47 dX6_takeWord_108 (by decide) ?_
        refine Zw_drop (L' := [.ref 39, .int (nI (w + 1))]) ⟨Or.inr rfl, Or.inr rfl, trivial⟩ (Nat.le_of_ble_eq_true rfl) ?_
        rw [show 12 - w = (12 - (w + 1)) + 1 by omega, k_wi_s] at hR
        rw [if_neg (by rw [q1]; decide)] at hR
        exact l_word hpe hen hn h m (w + 1) r μ (by omega) (by omega) hO h4 h5 ht hR
    · rw [show 12 - w = 0 by omega] at hR
      subst hR
      refine Zw_iload_1 dX6_takeWord_47 ?_
      refine Zw_bipush (v := 12) dX6_takeWord_48 (by decide) ?_
      refine Zw_icmp_ge 111 dX6_takeWord_50 (by decide) (fun c50 => ?_) (fun c50 => absurd c50 (fun e => e ((zle (N := 12) rfl (by decide) (by omega)).mpr hge)))
      refine Zw_return dX6_takeWord_111 ?_
      exact h μ hO h4 h5 ht
set_option maxRecDepth 20000 in
theorem l_wd {Q : zQ} {μ0 : zMu} {τ : Int64} {n p : Nat} (hn : n ≤ 160) (h : ∀ e, ∀ μ2, tOff μ0 μ2 → e = k_end k_let (μ0 40) n p → μ2 39 4 = nI p → μ2 39 5 = nI e → tW (k_word (μ0 40) p e) μ2 → Q none μ2 τ) : ∀ m i μ, n - i < m → i ≤ n → p ≤ i → tOff μ0 μ → μ 39 1 = nI n → μ 39 5 = nI i → μ 39 4 = nI p → k_end k_let (μ0 40) n i = k_end k_let (μ0 40) n p → Zw 7 RX6 cX6_takeWord 2 none Q 0 [.ref 39, .null] [] μ τ
  | 0, i, _, hm, _, _, _, _, _, _, _ => absurd hm (by omega)
  | m + 1, i, μ, hm, hi, hpi, hO, h1, h5, h4, he => by
    refine Zw_aload_0 dX6_takeWord_0 ?_
    refine Zw_getv (nI i) lf_X6_22 dX6_takeWord_1 (by first | decide | assumption | omega) (by first | rfl | assumption) (by rfl) h5 ?_
    refine Zw_aload_0 dX6_takeWord_4 ?_
    refine Zw_getv (nI n) lf_X6_18 dX6_takeWord_5 (by first | decide | assumption | omega) (by first | rfl | assumption) (by rfl) h1 ?_
    refine Zw_nicmp_ge (i) (n) 39 dX6_takeWord_8 (by decide) rfl rfl (by omega) (by omega) (fun c8 => ?_) (fun c8 => ?_)
    · have hno : k_end k_let (μ0 40) n i = i := k_end_no (fun q => absurd q.1 (by omega))
      refine Zw_aload_0 dX6_takeWord_39 ?_
      refine Zw_bipush (v := 19) dX6_takeWord_40 (by decide) ?_
      refine Zw_put lp_X6_33 dX6_takeWord_42 (by first | decide | assumption | omega) (by first | rfl | assumption) (by rfl) (by first | rfl | assumption) (by first | rfl | assumption) ?_
      refine Zw_iconst (v := 0) dX6_takeWord_45 (by decide) ?_
      refine Zw_istore_1 dX6_takeWord_46 rfl ?_
      have hei : i = k_end k_let (μ0 40) n p := hno.symm.trans he
      refine Zw_drop (L' := [.ref 39, .int (nI 0)]) ⟨Or.inr rfl, Or.inr rfl, trivial⟩ (Nat.le_of_ble_eq_true rfl) ?_
      refine l_word (p := p) (e := i) (n := n) (R := k_word (μ0 40) p i) hpi hi hn (fun μ2 hO2 f4 f5 ft => ?_) 13 0 12 _ (by omega) (by omega) (tOff.up hO (by omega)) h4 h5 ⟨rfl, fun _ q => absurd q (by omega)⟩ rfl
      exact h i μ2 hO2 hei f4 f5 ft
    · refine Zw_aload_0 dX6_takeWord_11 ?_
      refine Zw_getr 40 lf_X6_9 dX6_takeWord_12 (by first | decide | assumption | omega) (by first | rfl | assumption) (by rfl) ?_
      refine Zw_aload_0 dX6_takeWord_15 ?_
      refine Zw_getv (nI i) lf_X6_22 dX6_takeWord_16 (by first | decide | assumption | omega) (by first | rfl | assumption) (by rfl) h5 ?_
      refine Zw_ialdnv (i) (μ0 40 i) dX6_takeWord_19 (by first | decide | assumption | omega) (by first | rfl | assumption) rfl (by omega) (by decide) (by rw [hO.1 40 (by simp)]) ?_
      refine Zw_S1 (k := 0) lm_X6_86 dX6_takeWord_20 (by decide) (Nat.le_of_ble_eq_true rfl) ?_
      refine s_x_isLetter (fun d1 d2 => ?_) (fun d1 => ?_)
      · refine Zw_if_eq 39 dX6_takeWord_23 (by decide) (fun c => absurd c (by decide)) (fun _ => ?_)
        refine Zw_aload_0 dX6_takeWord_26 ?_
        refine Zw_dup dX6_takeWord_27 rfl ?_
        refine Zw_getv (nI i) lf_X6_22 dX6_takeWord_28 (by first | decide | assumption | omega) (by first | rfl | assumption) (by rfl) h5 ?_
        refine Zw_iconst (v := 1) dX6_takeWord_31 (by decide) ?_
        refine Zw_nadd (i) (1) dX6_takeWord_32 rfl rfl ?_
        refine Zw_put lp_X6_22 dX6_takeWord_33 (by first | decide | assumption | omega) (by first | rfl | assumption) (by rfl) (by first | rfl | assumption) (by first | rfl | assumption) ?_
        refine Zw_goto 0 dX6_takeWord_36 (by decide) ?_
        have hd : k_let (μ0 40 i) = true := decide_eq_true ⟨d1, d2⟩
        have hgo := k_end_go c8 hd
        exact l_wd hn h m (i + 1) _ (by omega) (by omega) (by omega) (tOff.up hO (by omega)) h1 rfl h4 (hgo.symm.trans he)
      · refine Zw_if_eq 39 dX6_takeWord_23 (by decide) (fun _ => ?_) (fun c => absurd c (by decide))
        have hno : k_end k_let (μ0 40) n i = i := k_end_no (fun q => d1 (of_decide_eq_true q.2))
        refine Zw_aload_0 dX6_takeWord_39 ?_
        refine Zw_bipush (v := 19) dX6_takeWord_40 (by decide) ?_
        refine Zw_put lp_X6_33 dX6_takeWord_42 (by first | decide | assumption | omega) (by first | rfl | assumption) (by rfl) (by first | rfl | assumption) (by first | rfl | assumption) ?_
        refine Zw_iconst (v := 0) dX6_takeWord_45 (by decide) ?_
        refine Zw_istore_1 dX6_takeWord_46 rfl ?_
        have hei : i = k_end k_let (μ0 40) n p := hno.symm.trans he
        refine Zw_drop (L' := [.ref 39, .int (nI 0)]) ⟨Or.inr rfl, Or.inr rfl, trivial⟩ (Nat.le_of_ble_eq_true rfl) ?_
        refine l_word (p := p) (e := i) (n := n) (R := k_word (μ0 40) p i) hpi hi hn (fun μ2 hO2 f4 f5 ft => ?_) 13 0 12 _ (by omega) (by omega) (tOff.up hO (by omega)) h4 h5 ⟨rfl, fun _ q => absurd q (by omega)⟩ rfl
        exact h i μ2 hO2 hei f4 f5 ft
set_option maxRecDepth 20000 in
theorem s_takeWord {n p : Nat} {Q : zQ} {μ : zMu} {τ : Int64} (hn : n ≤ 160) (hp : p ≤ n) (h1 : μ 39 1 = nI n) (h5 : μ 39 5 = nI p) (h4 : μ 39 4 = nI p) (h : ∀ e, ∀ μ2, tOff μ μ2 → e = k_end k_let (μ 40) n p → μ2 39 4 = nI p → μ2 39 5 = nI e → tW (k_word (μ 40) p e) μ2 → Q none μ2 τ) : Zc 7 yX6_takeWord cX6_takeWord 2 none [.ref 39] μ τ Q := by
  refine Zc.mk 1 [.ref 39, .null] rfl (by decide) (Nat.le_of_ble_eq_true rfl) ?_
  exact l_wd hn h (n + 1) p _ (by omega) hp (Nat.le_refl p) (tOff.refl μ) h1 h5 h4 rfl
theorem k_wt_nm {r : Nat} (h : k_wt r = 16 ∨ k_wt r = 17) : 6 ≤ r ∧ r < 12 := by
  unfold k_wt at h
  split at h
  · omega
  · split at h
    · omega
    · split at h <;> omega
theorem k_sgn_nm (x : Int32) : ¬ (k_sgn x = 16 ∨ k_sgn x = 17) := by
  unfold k_sgn
  repeat (split; · omega)
  omega
set_option maxRecDepth 20000 in
theorem l_adv {Q : zQ} {μ0 : zMu} {τ : Int64} {n i0 : Nat} (hn : n ≤ 160) (hb : k_by (μ0 40) n) (h : ∀ μ2, tOff μ0 μ2 → μ2 39 4 = nI (k_pl (μ0 40) n i0) → μ2 39 5 = nI (k_nx (μ0 40) n i0) → μ2 39 2 = nI (k_tok (μ0 40) n i0) → (k_tok (μ0 40) n i0 = 16 ∨ k_tok (μ0 40) n i0 = 17 → μ2 39 3 = k_val (μ0 40) n i0) → Q none μ2 τ) : ∀ m i μ, n - i < m → i ≤ n → tOff μ0 μ → μ 39 1 = nI n → μ 39 5 = nI i → k_end k_spc (μ0 40) n i = k_end k_spc (μ0 40) n i0 → Zw 9 RX6 cX6_advance 1 none Q 0 [.ref 39] [] μ τ
  | 0, i, _, hm, _, _, _, _, _ => absurd hm (by omega)
  | m + 1, i, μ, hm, hi, hO, h1, h5, he => by
    refine Zw_aload_0 dX6_advance_0 ?_
    refine Zw_getv (nI i) lf_X6_22 dX6_advance_1 (by first | decide | assumption | omega) (by first | rfl | assumption) (by rfl) h5 ?_
    refine Zw_aload_0 dX6_advance_4 ?_
    refine Zw_getv (nI n) lf_X6_18 dX6_advance_5 (by first | decide | assumption | omega) (by first | rfl | assumption) (by rfl) h1 ?_
    refine Zw_nicmp_ge (i) (n) 52 dX6_advance_8 (by decide) rfl rfl (by omega) (by omega) (fun c8 => ?_) (fun c8 => ?_)
    · have hno : k_end k_spc (μ0 40) n i = i := k_end_no (fun q => absurd q.1 (by omega))
      have hpl : k_pl (μ0 40) n i0 = i := he.symm.trans hno
      have hb1 : (zup μ 39 4 (nI i)) 40 = μ0 40 := hO.1 40 (by simp)
      refine Zw_aload_0 dX6_advance_52 ?_
      refine Zw_aload_0 dX6_advance_53 ?_
      refine Zw_getv (nI i) lf_X6_22 dX6_advance_54 (by first | decide | assumption | omega) (by first | rfl | assumption) (by rfl) h5 ?_
      refine Zw_put lp_X6_36 dX6_advance_57 (by first | decide | assumption | omega) (by first | rfl | assumption) (by rfl) (by first | rfl | assumption) (by first | rfl | assumption) ?_
      refine Zw_aload_0 dX6_advance_60 ?_
      refine Zw_getv (nI i) lf_X6_22 dX6_advance_61 (by first | decide | assumption | omega) (by first | rfl | assumption) (by rfl) h5 ?_
      refine Zw_aload_0 dX6_advance_64 ?_
      refine Zw_getv (nI n) lf_X6_18 dX6_advance_65 (by first | decide | assumption | omega) (by first | rfl | assumption) (by rfl) h1 ?_
      refine Zw_nicmp_lt (i) (n) 80 dX6_advance_68 (by decide) rfl rfl (by omega) (by omega) (fun c68 => ?_) (fun c68 => ?_)
      · refine Zw_aload_0 dX6_advance_80 ?_
        refine Zw_getr 40 lf_X6_9 dX6_advance_81 (by first | decide | assumption | omega) (by first | rfl | assumption) (by rfl) ?_
        refine Zw_aload_0 dX6_advance_84 ?_
        refine Zw_getv (nI i) lf_X6_22 dX6_advance_85 (by first | decide | assumption | omega) (by first | rfl | assumption) (by rfl) h5 ?_
        refine Zw_ialdnv (i) (μ0 40 i) dX6_advance_88 (by first | decide | assumption | omega) (by first | rfl | assumption) rfl (by omega) (by decide) (by first | exact congrFun (hO.1 40 (by simp)) i) ?_
        refine Zw_S1 (k := 0) lm_X6_86 dX6_advance_89 (by decide) (Nat.le_of_ble_eq_true rfl) ?_
        refine s_x_isLetter (fun d1 d2 => ?_) (fun d1 => ?_)
        · refine Zw_if_eq 102 dX6_advance_92 (by decide) (fun c => absurd c (by decide)) (fun _ => ?_)
          refine Zw_aload_0 dX6_advance_95 ?_
          refine Zw_V0 (k := 7) lm_X6_89 dX6_advance_96 (by decide) (by first | decide | assumption | omega) (by first | rfl | assumption) (by rfl) (Nat.le_of_ble_eq_true rfl) ?_
          refine s_takeWord (p := i) hn hi h1 h5 rfl (fun e μ2 hO2 e1 f4 f5 ft => ?_)
          refine Zw_goto 128 dX6_advance_99 (by decide) ?_
          refine Zw_return dX6_advance_128 ?_
          have hl : k_let (μ0 40 i) = true := decide_eq_true ⟨d1, d2⟩
          rw [hb1] at e1 ft
          have htk : k_tok (μ0 40) n i0 = k_wt (k_word (μ0 40) i e) := by rw [k_tok, hpl, k_tokP, if_neg (by omega), if_pos hl, e1]
          refine h μ2 ((tOff.up hO (by omega)).tr hO2) (by rw [hpl]; exact f4) ?_ (by rw [htk]; exact ft.1) ?_
          · rw [f5, k_nx, hpl, k_nxP, if_neg (by omega), if_pos hl, e1]
          · intro q
            rw [htk] at q
            have hr := k_wt_nm q
            rw [ft.2 hr.1 hr.2, k_val, hpl, k_valP, if_pos hl, e1]
        · refine Zw_if_eq 102 dX6_advance_92 (by decide) (fun _ => ?_) (fun c => absurd c (by decide))
          refine Zw_aload_0 dX6_advance_102 ?_
          refine Zw_getr 40 lf_X6_9 dX6_advance_103 (by first | decide | assumption | omega) (by first | rfl | assumption) (by rfl) ?_
          refine Zw_aload_0 dX6_advance_106 ?_
          refine Zw_getv (nI i) lf_X6_22 dX6_advance_107 (by first | decide | assumption | omega) (by first | rfl | assumption) (by rfl) h5 ?_
          refine Zw_ialdnv (i) (μ0 40 i) dX6_advance_110 (by first | decide | assumption | omega) (by first | rfl | assumption) rfl (by omega) (by decide) (by first | exact congrFun (hO.1 40 (by simp)) i) ?_
          refine Zw_S1 (k := 0) lm_X6_92 dX6_advance_111 (by decide) (Nat.le_of_ble_eq_true rfl) ?_
          refine s_x_isDigit (fun g1 g2 => ?_) (fun g1 => ?_)
          · refine Zw_if_eq 124 dX6_advance_114 (by decide) (fun c => absurd c (by decide)) (fun _ => ?_)
            refine Zw_aload_0 dX6_advance_117 ?_
            refine Zw_V0 (k := 1) lm_X6_95 dX6_advance_118 (by decide) (by first | decide | assumption | omega) (by first | rfl | assumption) (by rfl) (Nat.le_of_ble_eq_true rfl) ?_
            refine s_takeNumber (p := i) hn hi h1 h5 rfl (fun e v μ2 hO2 e1 v1 f4 f5 f3 f2 => ?_)
            refine Zw_goto 128 dX6_advance_121 (by decide) ?_
            refine Zw_return dX6_advance_128 ?_
            have hl : ¬ k_let (μ0 40 i) = true := fun q => d1 (of_decide_eq_true q)
            have hg : k_dig (μ0 40 i) = true := decide_eq_true ⟨g1, g2⟩
            rw [hb1] at e1 v1
            have htk : k_tok (μ0 40) n i0 = if 4 < e - i then 19 else 16 := by rw [k_tok, hpl, k_tokP, if_neg (by omega), if_neg hl, if_pos hg, e1]
            refine h μ2 ((tOff.up hO (by omega)).tr hO2) (by rw [hpl]; exact f4) ?_ (by rw [htk]; exact f2) ?_
            · rw [f5, k_nx, hpl, k_nxP, if_neg (by omega), if_neg hl, if_pos hg, e1]
            · intro q
              rw [f3, v1, k_val, hpl, k_valP, if_neg hl, e1]
          · refine Zw_if_eq 124 dX6_advance_114 (by decide) (fun _ => ?_) (fun c => absurd c (by decide))
            refine Zw_aload_0 dX6_advance_124 ?_
            refine Zw_V0 (k := 8) lm_X6_98 dX6_advance_125 (by decide) (by first | decide | assumption | omega) (by first | rfl | assumption) (by rfl) (Nat.le_of_ble_eq_true rfl) ?_
            refine s_takeSign (n := n) (p := i) hn (by omega) (by rw [hb1]; exact hb) h5 rfl (fun μ2 hO2 f4 f5 f2 => ?_)
            refine Zw_return dX6_advance_128 ?_
            have hl : ¬ k_let (μ0 40 i) = true := fun q => d1 (of_decide_eq_true q)
            have hg : ¬ k_dig (μ0 40 i) = true := fun q => g1 (of_decide_eq_true q)
            rw [hb1] at f2
            have htk : k_tok (μ0 40) n i0 = k_sgn (μ0 40 i) := by rw [k_tok, hpl, k_tokP, if_neg (by omega), if_neg hl, if_neg hg]
            refine h μ2 ((tOff.up hO (by omega)).tr hO2) (by rw [hpl]; exact f4) ?_ (by rw [htk]; exact f2) ?_
            · rw [f5, k_nx, hpl, k_nxP, if_neg (by omega), if_neg hl, if_neg hg]
            · intro q
              rw [htk] at q
              exact absurd q (k_sgn_nm _)
      · refine Zw_aload_0 dX6_advance_71 ?_
        refine Zw_bipush (v := 18) dX6_advance_72 (by decide) ?_
        refine Zw_put lp_X6_33 dX6_advance_74 (by first | decide | assumption | omega) (by first | rfl | assumption) (by rfl) (by first | rfl | assumption) (by first | rfl | assumption) ?_
        refine Zw_goto 128 dX6_advance_77 (by decide) ?_
        refine Zw_return dX6_advance_128 ?_
        refine h _ (tOff.up (tOff.up hO (by omega)) (by omega)) ?_ ?_ ?_ ?_
        · rw [hpl]; rfl
        · show μ 39 5 = _
          rw [h5, k_nx, hpl, k_nxP, if_pos (by omega)]
        · rw [k_tok, hpl, k_tokP, if_pos (by omega)]; rfl
        · intro q; rw [k_tok, hpl, k_tokP, if_pos (by omega)] at q; omega
    · refine Zw_aload_0 dX6_advance_11 ?_
      refine Zw_getr 40 lf_X6_9 dX6_advance_12 (by first | decide | assumption | omega) (by first | rfl | assumption) (by rfl) ?_
      refine Zw_aload_0 dX6_advance_15 ?_
      refine Zw_getv (nI i) lf_X6_22 dX6_advance_16 (by first | decide | assumption | omega) (by first | rfl | assumption) (by rfl) h5 ?_
      refine Zw_ialdnv (i) (μ0 40 i) dX6_advance_19 (by first | decide | assumption | omega) (by first | rfl | assumption) rfl (by omega) (by decide) (by first | exact congrFun (hO.1 40 (by simp)) i) ?_
      refine Zw_bipush (v := 32) dX6_advance_20 (by decide) ?_
      refine Zw_icmp_eq 39 dX6_advance_22 (by decide) (fun c22 => ?_) (fun c22 => ?_)
      · refine Zw_aload_0 dX6_advance_39 ?_
        refine Zw_dup dX6_advance_40 rfl ?_
        refine Zw_getv (nI i) lf_X6_22 dX6_advance_41 (by first | decide | assumption | omega) (by first | rfl | assumption) (by rfl) h5 ?_
        refine Zw_iconst (v := 1) dX6_advance_44 (by decide) ?_
        refine Zw_nadd (i) (1) dX6_advance_45 rfl rfl ?_
        refine Zw_put lp_X6_22 dX6_advance_46 (by first | decide | assumption | omega) (by first | rfl | assumption) (by rfl) (by first | rfl | assumption) (by first | rfl | assumption) ?_
        refine Zw_goto 0 dX6_advance_49 (by decide) ?_
        have hd : k_spc (μ0 40 i) = true := decide_eq_true (Or.inl c22)
        have hgo := k_end_go c8 hd
        exact l_adv hn hb h m (i + 1) _ (by omega) (by omega) (tOff.up hO (by omega)) h1 rfl (hgo.symm.trans he)
      · refine Zw_aload_0 dX6_advance_25 ?_
        refine Zw_getr 40 lf_X6_9 dX6_advance_26 (by first | decide | assumption | omega) (by first | rfl | assumption) (by rfl) ?_
        refine Zw_aload_0 dX6_advance_29 ?_
        refine Zw_getv (nI i) lf_X6_22 dX6_advance_30 (by first | decide | assumption | omega) (by first | rfl | assumption) (by rfl) h5 ?_
        refine Zw_ialdnv (i) (μ0 40 i) dX6_advance_33 (by first | decide | assumption | omega) (by first | rfl | assumption) rfl (by omega) (by decide) (by first | exact congrFun (hO.1 40 (by simp)) i) ?_
        refine Zw_bipush (v := 10) dX6_advance_34 (by decide) ?_
        refine Zw_icmp_ne 52 dX6_advance_36 (by decide) (fun c36 => ?_) (fun c36 => ?_)
        · have hno : k_end k_spc (μ0 40) n i = i := k_end_no (fun q => (of_decide_eq_true q.2).elim c22 c36)
          have hpl : k_pl (μ0 40) n i0 = i := he.symm.trans hno
          have hb1 : (zup μ 39 4 (nI i)) 40 = μ0 40 := hO.1 40 (by simp)
          refine Zw_aload_0 dX6_advance_52 ?_
          refine Zw_aload_0 dX6_advance_53 ?_
          refine Zw_getv (nI i) lf_X6_22 dX6_advance_54 (by first | decide | assumption | omega) (by first | rfl | assumption) (by rfl) h5 ?_
          refine Zw_put lp_X6_36 dX6_advance_57 (by first | decide | assumption | omega) (by first | rfl | assumption) (by rfl) (by first | rfl | assumption) (by first | rfl | assumption) ?_
          refine Zw_aload_0 dX6_advance_60 ?_
          refine Zw_getv (nI i) lf_X6_22 dX6_advance_61 (by first | decide | assumption | omega) (by first | rfl | assumption) (by rfl) h5 ?_
          refine Zw_aload_0 dX6_advance_64 ?_
          refine Zw_getv (nI n) lf_X6_18 dX6_advance_65 (by first | decide | assumption | omega) (by first | rfl | assumption) (by rfl) h1 ?_
          refine Zw_nicmp_lt (i) (n) 80 dX6_advance_68 (by decide) rfl rfl (by omega) (by omega) (fun c68 => ?_) (fun c68 => ?_)
          · refine Zw_aload_0 dX6_advance_80 ?_
            refine Zw_getr 40 lf_X6_9 dX6_advance_81 (by first | decide | assumption | omega) (by first | rfl | assumption) (by rfl) ?_
            refine Zw_aload_0 dX6_advance_84 ?_
            refine Zw_getv (nI i) lf_X6_22 dX6_advance_85 (by first | decide | assumption | omega) (by first | rfl | assumption) (by rfl) h5 ?_
            refine Zw_ialdnv (i) (μ0 40 i) dX6_advance_88 (by first | decide | assumption | omega) (by first | rfl | assumption) rfl (by omega) (by decide) (by first | exact congrFun (hO.1 40 (by simp)) i) ?_
            refine Zw_S1 (k := 0) lm_X6_86 dX6_advance_89 (by decide) (Nat.le_of_ble_eq_true rfl) ?_
            refine s_x_isLetter (fun d1 d2 => ?_) (fun d1 => ?_)
            · refine Zw_if_eq 102 dX6_advance_92 (by decide) (fun c => absurd c (by decide)) (fun _ => ?_)
              refine Zw_aload_0 dX6_advance_95 ?_
              refine Zw_V0 (k := 7) lm_X6_89 dX6_advance_96 (by decide) (by first | decide | assumption | omega) (by first | rfl | assumption) (by rfl) (Nat.le_of_ble_eq_true rfl) ?_
              refine s_takeWord (p := i) hn hi h1 h5 rfl (fun e μ2 hO2 e1 f4 f5 ft => ?_)
              refine Zw_goto 128 dX6_advance_99 (by decide) ?_
              refine Zw_return dX6_advance_128 ?_
              have hl : k_let (μ0 40 i) = true := decide_eq_true ⟨d1, d2⟩
              rw [hb1] at e1 ft
              have htk : k_tok (μ0 40) n i0 = k_wt (k_word (μ0 40) i e) := by rw [k_tok, hpl, k_tokP, if_neg (by omega), if_pos hl, e1]
              refine h μ2 ((tOff.up hO (by omega)).tr hO2) (by rw [hpl]; exact f4) ?_ (by rw [htk]; exact ft.1) ?_
              · rw [f5, k_nx, hpl, k_nxP, if_neg (by omega), if_pos hl, e1]
              · intro q
                rw [htk] at q
                have hr := k_wt_nm q
                rw [ft.2 hr.1 hr.2, k_val, hpl, k_valP, if_pos hl, e1]
            · refine Zw_if_eq 102 dX6_advance_92 (by decide) (fun _ => ?_) (fun c => absurd c (by decide))
              refine Zw_aload_0 dX6_advance_102 ?_
              refine Zw_getr 40 lf_X6_9 dX6_advance_103 (by first | decide | assumption | omega) (by first | rfl | assumption) (by rfl) ?_
              refine Zw_aload_0 dX6_advance_106 ?_
              refine Zw_getv (nI i) lf_X6_22 dX6_advance_107 (by first | decide | assumption | omega) (by first | rfl | assumption) (by rfl) h5 ?_
              refine Zw_ialdnv (i) (μ0 40 i) dX6_advance_110 (by first | decide | assumption | omega) (by first | rfl | assumption) rfl (by omega) (by decide) (by first | exact congrFun (hO.1 40 (by simp)) i) ?_
              refine Zw_S1 (k := 0) lm_X6_92 dX6_advance_111 (by decide) (Nat.le_of_ble_eq_true rfl) ?_
              refine s_x_isDigit (fun g1 g2 => ?_) (fun g1 => ?_)
              · refine Zw_if_eq 124 dX6_advance_114 (by decide) (fun c => absurd c (by decide)) (fun _ => ?_)
                refine Zw_aload_0 dX6_advance_117 ?_
                refine Zw_V0 (k := 1) lm_X6_95 dX6_advance_118 (by decide) (by first | decide | assumption | omega) (by first | rfl | assumption) (by rfl) (Nat.le_of_ble_eq_true rfl) ?_
                refine s_takeNumber (p := i) hn hi h1 h5 rfl (fun e v μ2 hO2 e1 v1 f4 f5 f3 f2 => ?_)
                refine Zw_goto 128 dX6_advance_121 (by decide) ?_
                refine Zw_return dX6_advance_128 ?_
                have hl : ¬ k_let (μ0 40 i) = true := fun q => d1 (of_decide_eq_true q)
                have hg : k_dig (μ0 40 i) = true := decide_eq_true ⟨g1, g2⟩
                rw [hb1] at e1 v1
                have htk : k_tok (μ0 40) n i0 = if 4 < e - i then 19 else 16 := by rw [k_tok, hpl, k_tokP, if_neg (by omega), if_neg hl, if_pos hg, e1]
                refine h μ2 ((tOff.up hO (by omega)).tr hO2) (by rw [hpl]; exact f4) ?_ (by rw [htk]; exact f2) ?_
                · rw [f5, k_nx, hpl, k_nxP, if_neg (by omega), if_neg hl, if_pos hg, e1]
                · intro q
                  rw [f3, v1, k_val, hpl, k_valP, if_neg hl, e1]
              · refine Zw_if_eq 124 dX6_advance_114 (by decide) (fun _ => ?_) (fun c => absurd c (by decide))
                refine Zw_aload_0 dX6_advance_124 ?_
                refine Zw_V0 (k := 8) lm_X6_98 dX6_advance_125 (by decide) (by first | decide | assumption | omega) (by first | rfl | assumption) (by rfl) (Nat.le_of_ble_eq_true rfl) ?_
                refine s_takeSign (n := n) (p := i) hn (by omega) (by rw [hb1]; exact hb) h5 rfl (fun μ2 hO2 f4 f5 f2 => ?_)
                refine Zw_return dX6_advance_128 ?_
                have hl : ¬ k_let (μ0 40 i) = true := fun q => d1 (of_decide_eq_true q)
                have hg : ¬ k_dig (μ0 40 i) = true := fun q => g1 (of_decide_eq_true q)
                rw [hb1] at f2
                have htk : k_tok (μ0 40) n i0 = k_sgn (μ0 40 i) := by rw [k_tok, hpl, k_tokP, if_neg (by omega), if_neg hl, if_neg hg]
                refine h μ2 ((tOff.up hO (by omega)).tr hO2) (by rw [hpl]; exact f4) ?_ (by rw [htk]; exact f2) ?_
                · rw [f5, k_nx, hpl, k_nxP, if_neg (by omega), if_neg hl, if_neg hg]
                · intro q
                  rw [htk] at q
                  exact absurd q (k_sgn_nm _)
          · refine Zw_aload_0 dX6_advance_71 ?_
            refine Zw_bipush (v := 18) dX6_advance_72 (by decide) ?_
            refine Zw_put lp_X6_33 dX6_advance_74 (by first | decide | assumption | omega) (by first | rfl | assumption) (by rfl) (by first | rfl | assumption) (by first | rfl | assumption) ?_
            refine Zw_goto 128 dX6_advance_77 (by decide) ?_
            refine Zw_return dX6_advance_128 ?_
            refine h _ (tOff.up (tOff.up hO (by omega)) (by omega)) ?_ ?_ ?_ ?_
            · rw [hpl]; rfl
            · show μ 39 5 = _
              rw [h5, k_nx, hpl, k_nxP, if_pos (by omega)]
            · rw [k_tok, hpl, k_tokP, if_pos (by omega)]; rfl
            · intro q; rw [k_tok, hpl, k_tokP, if_pos (by omega)] at q; omega
        · refine Zw_aload_0 dX6_advance_39 ?_
          refine Zw_dup dX6_advance_40 rfl ?_
          refine Zw_getv (nI i) lf_X6_22 dX6_advance_41 (by first | decide | assumption | omega) (by first | rfl | assumption) (by rfl) h5 ?_
          refine Zw_iconst (v := 1) dX6_advance_44 (by decide) ?_
          refine Zw_nadd (i) (1) dX6_advance_45 rfl rfl ?_
          refine Zw_put lp_X6_22 dX6_advance_46 (by first | decide | assumption | omega) (by first | rfl | assumption) (by rfl) (by first | rfl | assumption) (by first | rfl | assumption) ?_
          refine Zw_goto 0 dX6_advance_49 (by decide) ?_
          have hd : k_spc (μ0 40 i) = true := decide_eq_true (Or.inr c36)
          have hgo := k_end_go c8 hd
          exact l_adv hn hb h m (i + 1) _ (by omega) (by omega) (tOff.up hO (by omega)) h1 rfl (hgo.symm.trans he)
set_option maxRecDepth 20000 in
theorem s_advance {n i : Nat} {Q : zQ} {μ : zMu} {τ : Int64} (hn : n ≤ 160) (hb : k_by (μ 40) n) (hi : i ≤ n) (h1 : μ 39 1 = nI n) (h5 : μ 39 5 = nI i) (h : ∀ μ2, tOff μ μ2 → μ2 39 4 = nI (k_pl (μ 40) n i) → μ2 39 5 = nI (k_nx (μ 40) n i) → μ2 39 2 = nI (k_tok (μ 40) n i) → (k_tok (μ 40) n i = 16 ∨ k_tok (μ 40) n i = 17 → μ2 39 3 = k_val (μ 40) n i) → Q none μ2 τ): Zc 9 yX6_advance cX6_advance 1 none [.ref 39] μ τ Q := by
  refine Zc.mk 0 [.ref 39] rfl (by decide) (Nat.le_of_ble_eq_true rfl) ?_
  exact l_adv hn hb h (n + 1) i _ (by omega) hi (tOff.refl μ) h1 h5 rfl
