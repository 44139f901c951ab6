/-! pure words of a week -/
def q_env (p t w n y s : Int32) : Nat → Int32
  | 0 => p
  | 1 => t
  | 2 => w
  | 3 => n
  | 4 => y
  | _ => s
abbrev zSy : Type := Nat → (Nat → Int32) → Bool
def q_has (s : Int32) (p : Nat) : Bool := decide ((s >>> (nI p &&& 31)) &&& 1 ≠ 0)
def q_bit (p : Nat) : Int32 := 1 <<< (nI p &&& 31)
def q_orf (f : Nat → Int32) : Nat → Int32
  | 0 => 0
  | n + 1 => q_orf f n ||| f n
def q_go (sy : zSy) (ln : Nat → Int32) (ps wk : Int32) (p q : Nat) : Int32 := if q_has (ln p) q = true ∧ sy 0 (q_env (nI p) (nI q) wk 0 (q_bc (ln p)) ps) = true then q_bit q else 0
def q_next (sy : zSy) (ln : Nat → Int32) (ps wk : Int32) (p : Nat) : Int32 := if sy 1 (q_env (nI p) 0 wk 0 (q_bc (ln p)) ps) = true ∨ q_orf (q_go sy ln ps wk p) 8 = 0 then q_orf (q_go sy ln ps wk p) 8 ||| q_bit p else q_orf (q_go sy ln ps wk p) 8
def q_see (kd nu : Nat) (ps : Int32) (w p : Nat) (yes : Bool) : Bool := match kd with
  | 0 => yes
  | 1 => yes || decide (p = nu % 8)
  | 2 => yes && decide (p % 2 = 0)
  | 3 => decide (ps ≠ nI nu)
  | 4 => (yes && decide (p % 2 = 0)) || decide (w % 4 = 0)
  | _ => false
def q_sees (sy : zSy) (ln : Nat → Int32) (ps : Int32) (w kd nu p : Nat) : Bool := q_see kd nu ps w p (sy 2 (q_env (nI p) 0 (nI w) (nI nu) (q_bc (ln p)) ps))
def q_eyes (sy : zSy) (ln : Nat → Int32) (ps : Int32) (w kd nu : Nat) : Int32 := q_orf (fun p => if q_sees sy ln ps w kd nu p then q_bit p else 0) 8
def q_watch (sy : zSy) (ln : Nat → Int32) (ps : Int32) (w n : Nat) (K N A : Nat → Nat) : Int32 := q_orf (fun f => if q_sees sy ln ps w (K f) (N f) (A f) then q_bit (A f) else 0) n
def q_spread (mv : Nat → Int32) (s : Int32) : Int32 := q_orf (fun p => if q_has s p then mv p else 0) 8
theorem or_00 (x : Int32) : 0 ||| x = x := by
  apply Int32.toBitVec_inj.mp; simp
theorem or_0 (x : Int32) : x ||| 0 = x := by
  apply Int32.toBitVec_inj.mp; simp
/-! what a text says doesn't hang on what lay in the stack, nor on names that are none -/
theorem x_step_same {nm nm' : Nat → Int32} (hn : ∀ j, j < 6 → nm j = nm' j) {f g : Nat → Int32} {tp : Nat} (h : ∀ j, j < tp → f j = g j) (it : Int32) : (x_step nm (f, tp) it).2 = (x_step nm' (g, tp) it).2 ∧ ∀ j, j < (x_step nm (f, tp) it).2 → (x_step nm (f, tp) it).1 j = (x_step nm' (g, tp) it).1 j := by
  have hna : ∀ x, q_nameOf nm x = q_nameOf nm' x := by
    intro x
    unfold q_nameOf
    by_cases hx : 0 ≤ x ∧ x < 6
    · rw [if_pos hx, if_pos hx]
      apply hn
      have h1 := Int32.le_iff_toInt_le.mp hx.1
      have h2 := Int32.lt_iff_toInt_lt.mp hx.2
      have hin : vp_in x 6 := vp_in_iff.mpr ⟨by simpa using h1, by simpa using h2⟩
      obtain ⟨j, hj, rfl⟩ := vp_in_of hin (by decide)
      rw [nI_clamp (by omega)]
      exact hj
    · rw [if_neg hx, if_neg hx]
  unfold x_step
  simp only [hna]
  split
  · split
    · refine ⟨rfl, fun j hj => ?_⟩
      simp only [upd]
      split
      · rfl
      · exact h j (by simp only at hj; omega)
    · exact ⟨rfl, h⟩
  · split
    · split
      · rename_i h1
        refine ⟨rfl, fun j hj => ?_⟩
        simp only [upd]
        simp only at h1 hj
        rw [h (tp - 1) (by omega)]
        split
        · rfl
        · exact h j (by omega)
      · exact ⟨rfl, h⟩
    · split
      · rename_i h1
        refine ⟨rfl, fun j hj => ?_⟩
        simp only [upd]
        simp only at h1 hj
        rw [h (tp - 1) (by omega), h (tp - 1 - 1) (by omega)]
        split
        · rfl
        · exact h j (by omega)
      · exact ⟨rfl, h⟩
theorem x_run_same {nm nm' code : Nat → Int32} (hn : ∀ j, j < 6 → nm j = nm' j) : ∀ (c i : Nat) (s s' : (Nat → Int32) × Nat), s.2 = s'.2 → (∀ j, j < s.2 → s.1 j = s'.1 j) → (x_run nm code i c s).2 = (x_run nm' code i c s').2 ∧ ∀ j, j < (x_run nm code i c s).2 → (x_run nm code i c s).1 j = (x_run nm' code i c s').1 j
  | 0, _, _, _, h1, h2 => ⟨h1, h2⟩
  | c + 1, i, (f, tp), (g, tp'), h1, h2 => by
    simp only at h1
    subst h1
    have h3 := x_step_same hn h2 (code i)
    exact x_run_same hn c (i + 1) _ _ h3.1 h3.2
theorem x_say_same {nm nm' code f f' : Nat → Int32} {lo hi : Nat} (hn : ∀ j, j < 6 → nm j = nm' j) : x_say nm code lo hi f = x_say nm' code lo hi f' := by
  have h := x_run_same (code := code) hn (hi - lo) lo (f, 0) (f', 0) rfl (fun j hj => absurd hj (by simp))
  unfold x_say x_fin
  by_cases h1 : 1 ≤ (x_run nm code lo (hi - lo) (f, 0)).2
  · rw [← h.1, h.2 0 (by omega)]
  · rw [← h.1]; simp [h1]
def xs (μ : zMu) (t c : Nat) (env : Nat → Int32) : Bool := xsay μ t c env (fun _ => 0)
/-! the scratch of the class, and what doesn't hang on it -/
def zSC : List Nat := [19, 20, 43, 44, 45, 46, 47, 48, 49, 50, 51]
def x_rl (μ : zMu) (cnt t : Nat) : Prop := μ 17 3 = nI cnt ∧ cnt ≤ 6 ∧ μ 1 7 = nI t ∧ t < cnt ∧ x_tx μ t
theorem zSC_lt {k : Nat} (h : k < 19 ∨ (20 < k ∧ k < 43) ∨ 51 < k) : k ∉ zSC := by simp [zSC]; omega
theorem x_tx.off {μ μ' : zMu} {t : Nat} (ht : t < 6) (h : zOff zSC μ μ') (hx : x_tx μ t) : x_tx μ' t := by
  unfold x_tx at hx ⊢
  rw [h (23 + 3 * t) (zSC_lt (by omega)), h (21 + 3 * t) (zSC_lt (by omega))]
  exact hx
theorem x_rl.off {μ μ' : zMu} {cnt t : Nat} (h : zOff zSC μ μ') (hx : x_rl μ cnt t) : x_rl μ' cnt t := by
  obtain ⟨h1, h2, h3, h4, h5⟩ := hx
  exact ⟨by rw [h 17 (zSC_lt (by omega))]; exact h1, h2, by rw [h 1 (zSC_lt (by omega))]; exact h3, h4, h5.off (by omega) h⟩
theorem xsay_xs {μ μ1 : zMu} {t c : Nat} {env : Nat → Int32} (ht : t < 6) (h : zOff zSC μ μ1) (he : ∀ j, j < 6 → μ1 19 j = env j) : xsay μ1 t c (μ1 19) (μ1 20) = xs μ t c env := by
  unfold xsay xs xsay
  rw [h (22 + 3 * t) (zSC_lt (by omega)), h (23 + 3 * t) (zSC_lt (by omega))]
  exact x_say_same he
theorem xs_off {μ μ' : zMu} {t : Nat} (ht : t < 6) (h : zOff zSC μ μ') : xs μ' t = xs μ t := by
  funext c env
  unfold xs xsay
  rw [h (22 + 3 * t) (zSC_lt (by omega)), h (23 + 3 * t) (zSC_lt (by omega))]
theorem zOff.sc {S : List Nat} {μ μ' : zMu} (h : zOff S μ μ') (hs : ∀ k ∈ S, k ∈ zSC) : zOff zSC μ μ' := h.sub hs
def x_fd (μ : zMu) (n : Nat) : Prop := n ≤ 5 ∧ μ 1 2 = nI n ∧ ∀ f, f < n → ∃ kd nu a : Nat, μ (4 + f) 0 = nI kd ∧ kd < 6 ∧ μ (4 + f) 1 = nI nu ∧ nu < 10 ∧ μ (4 + f) 2 = nI a ∧ a < 8
theorem x_fd.off {μ μ' : zMu} {n : Nat} (h : zOff zSC μ μ') (hx : x_fd μ n) : x_fd μ' n := by
  refine ⟨hx.1, by rw [h 1 (zSC_lt (by omega))]; exact hx.2.1, fun f hf => ?_⟩
  have h5 := hx.1
  rw [h (4 + f) (zSC_lt (by omega))]
  exact hx.2.2 f hf
abbrev xK (μ : zMu) (f : Nat) : Nat := (μ (4 + f) 0).toNatClampNeg
abbrev xN (μ : zMu) (f : Nat) : Nat := (μ (4 + f) 1).toNatClampNeg
abbrev xA (μ : zMu) (f : Nat) : Nat := (μ (4 + f) 2).toNatClampNeg
set_option maxRecDepth 20000 in
theorem s_askOf {p : Nat} {wk nu : Int32} {Q : zQ} {μ : zMu} {τ : Int64} (hp : p < 8) (h : ∀ μ2, zOff [19] μ μ2 → (∀ j, j < 6 → μ2 19 j = q_env (nI p) 0 wk nu (q_bc (μ 2 p)) (μ 1 4) j) → Q none μ2 τ) : Zc 1 yX9_askOf cX9_askOf 4 none [.ref 42, .int (nI p), .int wk, .int nu] μ τ Q := by
  refine Zc.mk 0 [.ref 42, .int (nI p), .int wk, .int nu] rfl (by decide) (Nat.le_of_ble_eq_true rfl) ?_
  refine Zw_aload_0 dX9_askOf_0 ?_
  refine Zw_getr 17 lf_X9_19 dX9_askOf_1 (by first | decide | assumption | omega) (by first | rfl | assumption) (by rfl) ?_
  refine Zw_getr 19 lf_X9_53 dX9_askOf_4 (by first | decide | assumption | omega) (by first | rfl | assumption) (by rfl) ?_
  refine Zw_iconst (v := 0) dX9_askOf_7 (by decide) ?_
  refine Zw_iload_1 dX9_askOf_8 ?_
  refine Zw_iastn (0) dX9_askOf_9 (by first | decide | assumption | omega) (by first | rfl | assumption) rfl (by omega) (by decide) ?_
  refine Zw_aload_0 dX9_askOf_10 ?_
  refine Zw_getr 17 lf_X9_19 dX9_askOf_11 (by first | decide | assumption | omega) (by first | rfl | assumption) (by rfl) ?_
  refine Zw_getr 19 lf_X9_53 dX9_askOf_14 (by first | decide | assumption | omega) (by first | rfl | assumption) (by rfl) ?_
  refine Zw_iconst (v := 1) dX9_askOf_17 (by decide) ?_
  refine Zw_iconst (v := 0) dX9_askOf_18 (by decide) ?_
  refine Zw_iastn (1) dX9_askOf_19 (by first | decide | assumption | omega) (by first | rfl | assumption) rfl (by omega) (by decide) ?_
  refine Zw_aload_0 dX9_askOf_20 ?_
  refine Zw_getr 17 lf_X9_19 dX9_askOf_21 (by first | decide | assumption | omega) (by first | rfl | assumption) (by rfl) ?_
  refine Zw_getr 19 lf_X9_53 dX9_askOf_24 (by first | decide | assumption | omega) (by first | rfl | assumption) (by rfl) ?_
  refine Zw_iconst (v := 2) dX9_askOf_27 (by decide) ?_
  refine Zw_iload_2 dX9_askOf_28 ?_
  refine Zw_iastn (2) dX9_askOf_29 (by first | decide | assumption | omega) (by first | rfl | assumption) rfl (by omega) (by decide) ?_
  refine Zw_aload_0 dX9_askOf_30 ?_
  refine Zw_getr 17 lf_X9_19 dX9_askOf_31 (by first | decide | assumption | omega) (by first | rfl | assumption) (by rfl) ?_
  refine Zw_getr 19 lf_X9_53 dX9_askOf_34 (by first | decide | assumption | omega) (by first | rfl | assumption) (by rfl) ?_
  refine Zw_iconst (v := 3) dX9_askOf_37 (by decide) ?_
  refine Zw_iload_3 dX9_askOf_38 ?_
  refine Zw_iastn (3) dX9_askOf_39 (by first | decide | assumption | omega) (by first | rfl | assumption) rfl (by omega) (by decide) ?_
  refine Zw_aload_0 dX9_askOf_40 ?_
  refine Zw_getr 17 lf_X9_19 dX9_askOf_41 (by first | decide | assumption | omega) (by first | rfl | assumption) (by rfl) ?_
  refine Zw_getr 19 lf_X9_53 dX9_askOf_44 (by first | decide | assumption | omega) (by first | rfl | assumption) (by rfl) ?_
  refine Zw_iconst (v := 4) dX9_askOf_47 (by decide) ?_
  refine Zw_aload_0 dX9_askOf_48 ?_
  refine Zw_getr 1 lf_X9_15 dX9_askOf_49 (by first | decide | assumption | omega) (by first | rfl | assumption) (by rfl) ?_
  refine Zw_getr 2 lf_X9_50 dX9_askOf_52 (by first | decide | assumption | omega) (by first | rfl | assumption) (by rfl) ?_
  refine Zw_iload_1 dX9_askOf_55 ?_
  refine Zw_ialdnv (p) (μ 2 p) dX9_askOf_56 (by first | decide | assumption | omega) (by first | rfl | assumption) rfl (by omega) (by decide) (by simp [zup_at]) ?_
  refine Zw_S1 (k := 0) lm_X9_60 dX9_askOf_57 (by decide) (Nat.le_of_ble_eq_true rfl) ?_
  refine s_bitCount ?_
  refine Zw_iastn (4) dX9_askOf_60 (by first | decide | assumption | omega) (by first | rfl | assumption) rfl (by omega) (by decide) ?_
  refine Zw_aload_0 dX9_askOf_61 ?_
  refine Zw_getr 17 lf_X9_19 dX9_askOf_62 (by first | decide | assumption | omega) (by first | rfl | assumption) (by rfl) ?_
  refine Zw_getr 19 lf_X9_53 dX9_askOf_65 (by first | decide | assumption | omega) (by first | rfl | assumption) (by rfl) ?_
  refine Zw_iconst (v := 5) dX9_askOf_68 (by decide) ?_
  refine Zw_aload_0 dX9_askOf_69 ?_
  refine Zw_getr 1 lf_X9_15 dX9_askOf_70 (by first | decide | assumption | omega) (by first | rfl | assumption) (by rfl) ?_
  refine Zw_getv (μ 1 4) lf_X9_66 dX9_askOf_73 (by first | decide | assumption | omega) (by first | rfl | assumption) (by rfl) (by simp [zup_at]) ?_
  refine Zw_iastn (5) dX9_askOf_76 (by first | decide | assumption | omega) (by first | rfl | assumption) rfl (by omega) (by decide) ?_
  refine Zw_return dX9_askOf_77 ?_
  refine h _ ((((((zOff.rf.up (by simp)).up (by simp)).up (by simp)).up (by simp)).up (by simp)).up (by simp)) (fun j hj => ?_)
  simp only [zup_at]
  match j, hj with
  | 0, _ => simp [q_env]
  | 1, _ => simp [q_env]
  | 2, _ => simp [q_env]
  | 3, _ => simp [q_env]
  | 4, _ => simp [q_env]
  | 5, _ => simp [q_env]
  | n + 6, hj => exact absurd hj (by omega)
set_option maxRecDepth 20000 in
theorem l_next {Q : zQ} {μ0 : zMu} {τ : Int64} {p cnt t : Nat} {wk : Int32} (hp : p < 8) (hr : x_rl μ0 cnt t) (h : ∀ μ2, zOff [19, 20] μ0 μ2 → Q (some (.int (q_next (xs μ0 t) (μ0 2) (μ0 1 4) wk p))) μ2 τ) : ∀ m i set μ, 8 - i < m → i ≤ 8 → zOff [19, 20] μ0 μ → (∀ j, j < 6 → j ≠ 1 → μ 19 j = (q_env (nI p) 0 wk 0 (q_bc (μ0 2 p)) (μ0 1 4)) j) → set = q_orf (q_go (xs μ0 t) (μ0 2) (μ0 1 4) wk p) i → Zw 2 RX9 cX9_nextFrom 5 (some .int) Q 12 [.ref 42, .int (nI p), .int wk, .int set, .int (nI i)] [] μ τ
  | 0, i, _, _, hm, _, _, _, _ => absurd hm (by omega)
  | m + 1, i, set, μ, hm, hi, hO, hE, hV => by
    have hL : μ 2 = μ0 2 := hO 2 (by simp)
    have hR : μ 1 = μ0 1 := hO 1 (by simp)
    refine Zw_iload_4 dX9_nextFrom_12 ?_
    refine Zw_bipush (v := 8) dX9_nextFrom_14 (by decide) ?_
    refine Zw_nicmp_ge (i) (8) 78 dX9_nextFrom_16 (by decide) rfl rfl (by omega) (by omega) (fun c16 => ?_) (fun c16 => ?_)
    · refine Zw_aload_0 dX9_nextFrom_78 ?_
      refine Zw_getr 17 lf_X9_19 dX9_nextFrom_79 (by first | decide | assumption | omega) (by first | rfl | assumption) (by rfl) ?_
      refine Zw_getr 19 lf_X9_53 dX9_nextFrom_82 (by first | decide | assumption | omega) (by first | rfl | assumption) (by rfl) ?_
      refine Zw_iconst (v := 1) dX9_nextFrom_85 (by decide) ?_
      refine Zw_iconst (v := 0) dX9_nextFrom_86 (by decide) ?_
      refine Zw_iastn (1) dX9_nextFrom_87 (by first | decide | assumption | omega) (by first | rfl | assumption) rfl (by omega) (by decide) ?_
      have hO1 : zOff [19, 20] μ0 (zup μ 19 1 0) := hO.up (by simp)
      have hr1 := hr.off (hO1.sc (by decide))
      have hsy : xsay (zup μ 19 1 0) t 1 ((zup μ 19 1 0) 19) ((zup μ 19 1 0) 20) = xs μ0 t 1 (q_env (nI p) 0 wk 0 (q_bc (μ0 2 p)) (μ0 1 4)) := xsay_xs (by have := hr.2.1; have := hr.2.2.2.1; omega) (hO1.sc (by decide)) (fun j hj => by
        rw [zup_at]
        match j, hj with
        | 0, _ => simpa [q_env] using hE 0 (by omega) (by omega)
        | 1, _ => simp [q_env]
        | 2, _ => simpa [q_env] using hE 2 (by omega) (by omega)
        | 3, _ => simpa [q_env] using hE 3 (by omega) (by omega)
        | 4, _ => simpa [q_env] using hE 4 (by omega) (by omega)
        | 5, _ => simpa [q_env] using hE 5 (by omega) (by omega)
        | n + 6, hj => exact absurd hj (by omega))
      refine Zw_aload_0 dX9_nextFrom_88 ?_
      refine Zw_getr 17 lf_X9_19 dX9_nextFrom_89 (by first | decide | assumption | omega) (by first | rfl | assumption) (by rfl) ?_
      refine Zw_aload_0 dX9_nextFrom_92 ?_
      refine Zw_getr 1 lf_X9_15 dX9_nextFrom_93 (by first | decide | assumption | omega) (by first | rfl | assumption) (by rfl) ?_
      refine Zw_getv (nI t) lf_X9_27 dX9_nextFrom_96 (by first | decide | assumption | omega) (by first | rfl | assumption) (by rfl) (by rw [zup_ne (by decide), hR]; exact hr.2.2.1) ?_
      refine Zw_iconst (v := 1) dX9_nextFrom_99 (by decide) ?_
      refine Zw_V2 (k := 1) lm_X9_56 dX9_nextFrom_100 (by decide) (by first | decide | assumption | omega) (by first | rfl | assumption) (by rfl) (Nat.le_of_ble_eq_true rfl) ?_
      refine s_says1 cnt t hr1.1 hr1.2.1 hr1.2.2.2.1 hr1.2.2.2.2 (fun d1 f1 => ?_) (fun d0 f1 => ?_)
      · refine Zw_if_ne 110 dX9_nextFrom_103 (by decide) (fun _ => ?_) (fun c => absurd c (by decide))
        refine Zw_iload_3 dX9_nextFrom_110 ?_
        refine Zw_iconst (v := 1) dX9_nextFrom_111 (by decide) ?_
        refine Zw_iload_1 dX9_nextFrom_112 ?_
        refine Zw_ishl dX9_nextFrom_113 ?_
        refine Zw_ior dX9_nextFrom_114 ?_
        refine Zw_istore_3 dX9_nextFrom_115 rfl ?_
        refine Zw_iload_3 dX9_nextFrom_116 ?_
        refine Zw_ireturn dX9_nextFrom_117 (by first | rfl | assumption) ?_
        obtain rfl : i = 8 := by omega
        rw [hsy] at d1
        have hq := h (zar (zup μ 19 1 0) 20 f1) (hO1.ar (by simp))
        rw [q_next, if_pos (Or.inl d1), ← hV] at hq
        exact hq
      · refine Zw_if_ne 110 dX9_nextFrom_103 (by decide) (fun c => absurd c (by decide)) (fun _ => ?_)
        refine Zw_iload_3 dX9_nextFrom_106 ?_
        refine Zw_if_ne 116 dX9_nextFrom_107 (by decide) (fun c107 => ?_) (fun c107 => ?_)
        · refine Zw_iload_3 dX9_nextFrom_116 ?_
          refine Zw_ireturn dX9_nextFrom_117 (by first | rfl | assumption) ?_
          obtain rfl : i = 8 := by omega
          rw [hsy] at d0
          have hq := h (zar (zup μ 19 1 0) 20 f1) (hO1.ar (by simp))
          rw [q_next, if_neg (by rw [d0, ← hV]; simp [c107]), ← hV] at hq
          exact hq
        · refine Zw_iload_3 dX9_nextFrom_110 ?_
          refine Zw_iconst (v := 1) dX9_nextFrom_111 (by decide) ?_
          refine Zw_iload_1 dX9_nextFrom_112 ?_
          refine Zw_ishl dX9_nextFrom_113 ?_
          refine Zw_ior dX9_nextFrom_114 ?_
          refine Zw_istore_3 dX9_nextFrom_115 rfl ?_
          refine Zw_iload_3 dX9_nextFrom_116 ?_
          refine Zw_ireturn dX9_nextFrom_117 (by first | rfl | assumption) ?_
          obtain rfl : i = 8 := by omega
          rw [hsy] at d0
          have hq := h (zar (zup μ 19 1 0) 20 f1) (hO1.ar (by simp))
          rw [q_next, if_pos (Or.inr (by rw [← hV]; exact c107)), ← hV] at hq
          exact hq
    · refine Zw_aload_0 dX9_nextFrom_19 ?_
      refine Zw_getr 1 lf_X9_15 dX9_nextFrom_20 (by first | decide | assumption | omega) (by first | rfl | assumption) (by rfl) ?_
      refine Zw_getr 2 lf_X9_50 dX9_nextFrom_23 (by first | decide | assumption | omega) (by first | rfl | assumption) (by rfl) ?_
      refine Zw_iload_1 dX9_nextFrom_26 ?_
      refine Zw_ialdnv (p) (μ0 2 p) dX9_nextFrom_27 (by first | decide | assumption | omega) (by first | rfl | assumption) rfl (by omega) (by decide) (by rw [hL]) ?_
      refine Zw_iload_4 dX9_nextFrom_28 ?_
      refine Zw_ishr dX9_nextFrom_30 ?_
      refine Zw_iconst (v := 1) dX9_nextFrom_31 (by decide) ?_
      refine Zw_iand dX9_nextFrom_32 ?_
      refine Zw_if_eq 72 dX9_nextFrom_33 (by decide) (fun c33 => ?_) (fun c33 => ?_)
      · refine Zw_iinc_4 dX9_nextFrom_72 rfl (zincn _) ?_
        refine Zw_goto 12 dX9_nextFrom_75 (by decide) ?_
        exact l_next hp hr h m (i + 1) _ _ (by omega) (by omega) hO hE (by show _ = q_orf (q_go (xs μ0 t) (μ0 2) (μ0 1 4) wk p) i ||| _; rw [hV, show (q_go (xs μ0 t) (μ0 2) (μ0 1 4) wk p) i = 0 by simp [q_go, q_has, c33], or_0])
      · refine Zw_aload_0 dX9_nextFrom_36 ?_
        refine Zw_getr 17 lf_X9_19 dX9_nextFrom_37 (by first | decide | assumption | omega) (by first | rfl | assumption) (by rfl) ?_
        refine Zw_getr 19 lf_X9_53 dX9_nextFrom_40 (by first | decide | assumption | omega) (by first | rfl | assumption) (by rfl) ?_
        refine Zw_iconst (v := 1) dX9_nextFrom_43 (by decide) ?_
        refine Zw_iload_4 dX9_nextFrom_44 ?_
        refine Zw_iastn (1) dX9_nextFrom_46 (by first | decide | assumption | omega) (by first | rfl | assumption) rfl (by omega) (by decide) ?_
        have hO1 : zOff [19, 20] μ0 (zup μ 19 1 (nI i)) := hO.up (by simp)
        have hr1 := hr.off (hO1.sc (by decide))
        have hsy : xsay (zup μ 19 1 (nI i)) t 0 ((zup μ 19 1 (nI i)) 19) ((zup μ 19 1 (nI i)) 20) = xs μ0 t 0 (q_env (nI p) (nI i) wk 0 (q_bc (μ0 2 p)) (μ0 1 4)) := xsay_xs (by have := hr.2.1; have := hr.2.2.2.1; omega) (hO1.sc (by decide)) (fun j hj => by
          rw [zup_at]
          match j, hj with
          | 0, _ => simpa [q_env] using hE 0 (by omega) (by omega)
          | 1, _ => simp [q_env]
          | 2, _ => simpa [q_env] using hE 2 (by omega) (by omega)
          | 3, _ => simpa [q_env] using hE 3 (by omega) (by omega)
          | 4, _ => simpa [q_env] using hE 4 (by omega) (by omega)
          | 5, _ => simpa [q_env] using hE 5 (by omega) (by omega)
          | n + 6, hj => exact absurd hj (by omega))
        refine Zw_aload_0 dX9_nextFrom_47 ?_
        refine Zw_getr 17 lf_X9_19 dX9_nextFrom_48 (by first | decide | assumption | omega) (by first | rfl | assumption) (by rfl) ?_
        refine Zw_aload_0 dX9_nextFrom_51 ?_
        refine Zw_getr 1 lf_X9_15 dX9_nextFrom_52 (by first | decide | assumption | omega) (by first | rfl | assumption) (by rfl) ?_
        refine Zw_getv (nI t) lf_X9_27 dX9_nextFrom_55 (by first | decide | assumption | omega) (by first | rfl | assumption) (by rfl) (by rw [zup_ne (by decide), hR]; exact hr.2.2.1) ?_
        refine Zw_iconst (v := 0) dX9_nextFrom_58 (by decide) ?_
        refine Zw_V2 (k := 1) lm_X9_56 dX9_nextFrom_59 (by decide) (by first | decide | assumption | omega) (by first | rfl | assumption) (by rfl) (Nat.le_of_ble_eq_true rfl) ?_
        refine s_says0 cnt t hr1.1 hr1.2.1 hr1.2.2.2.1 hr1.2.2.2.2 (fun d1 f1 => ?_) (fun d0 f1 => ?_)
        · rw [hsy] at d1
          refine Zw_if_eq 72 dX9_nextFrom_62 (by decide) (fun c => absurd c (by decide)) (fun _ => ?_)
          refine Zw_iload_3 dX9_nextFrom_65 ?_
          refine Zw_iconst (v := 1) dX9_nextFrom_66 (by decide) ?_
          refine Zw_iload_4 dX9_nextFrom_67 ?_
          refine Zw_ishl dX9_nextFrom_69 ?_
          refine Zw_ior dX9_nextFrom_70 ?_
          refine Zw_istore_3 dX9_nextFrom_71 rfl ?_
          refine Zw_iinc_4 dX9_nextFrom_72 rfl (zincn _) ?_
          refine Zw_goto 12 dX9_nextFrom_75 (by decide) ?_
          exact l_next hp hr h m (i + 1) _ _ (by omega) (by omega) ((hO.up (by simp)).ar (by simp)) (fun j hj h1 => by rw [zar_ne (by decide), zup_at]; simp [h1]; exact hE j hj h1) (by show _ = q_orf (q_go (xs μ0 t) (μ0 2) (μ0 1 4) wk p) i ||| _; rw [hV, show (q_go (xs μ0 t) (μ0 2) (μ0 1 4) wk p) i = q_bit i by simp [q_go, q_has, c33, hsy, d1]]; rfl)
        · rw [hsy] at d0
          refine Zw_if_eq 72 dX9_nextFrom_62 (by decide) (fun _ => ?_) (fun c => absurd c (by decide))
          refine Zw_iinc_4 dX9_nextFrom_72 rfl (zincn _) ?_
          refine Zw_goto 12 dX9_nextFrom_75 (by decide) ?_
          exact l_next hp hr h m (i + 1) _ _ (by omega) (by omega) ((hO.up (by simp)).ar (by simp)) (fun j hj h1 => by rw [zar_ne (by decide), zup_at]; simp [h1]; exact hE j hj h1) (by show _ = q_orf (q_go (xs μ0 t) (μ0 2) (μ0 1 4) wk p) i ||| _; rw [hV, show (q_go (xs μ0 t) (μ0 2) (μ0 1 4) wk p) i = 0 by simp [q_go, hsy, d0], or_0])
set_option maxRecDepth 20000 in
theorem s_next {p cnt t : Nat} {wk : Int32} {Q : zQ} {μ : zMu} {τ : Int64} (hp : p < 8) (hr : x_rl μ cnt t) (h : ∀ μ2, zOff [19, 20] μ μ2 → Q (some (.int (q_next (xs μ t) (μ 2) (μ 1 4) wk p))) μ2 τ) : Zc 2 yX9_nextFrom cX9_nextFrom 5 (some .int) [.ref 42, .int (nI p), .int wk] μ τ Q := by
  refine Zc.mk 2 [.ref 42, .int (nI p), .int wk, .null, .null] rfl (by decide) (Nat.le_of_ble_eq_true rfl) ?_
  refine Zw_aload_0 dX9_nextFrom_0 ?_
  refine Zw_iload_1 dX9_nextFrom_1 ?_
  refine Zw_iload_2 dX9_nextFrom_2 ?_
  refine Zw_iconst (v := 0) dX9_nextFrom_3 (by decide) ?_
  refine Zw_V3 (k := 1) lm_X9_46 dX9_nextFrom_4 (by decide) (by first | decide | assumption | omega) (by first | rfl | assumption) (by rfl) (Nat.le_of_ble_eq_true rfl) ?_
  refine s_askOf hp (fun μ1 hO1 hE1 => ?_)
  refine Zw_iconst (v := 0) dX9_nextFrom_7 (by decide) ?_
  refine Zw_istore_3 dX9_nextFrom_8 rfl ?_
  refine Zw_iconst (v := 0) dX9_nextFrom_9 (by decide) ?_
  refine Zw_istore_4 dX9_nextFrom_10 rfl ?_
  exact l_next hp hr h 9 0 _ _ (by omega) (by omega) (hO1.sub (by simp)) (fun j hj _ => hE1 j hj) rfl
set_option maxRecDepth 20000 in
theorem l_layMoves {Q : zQ} {μ0 : zMu} {τ : Int64} {cnt t : Nat} {wk : Int32} (hr : x_rl μ0 cnt t) (h : ∀ μ2, zOff [19, 20, 43] μ0 μ2 → (∀ p, p < 8 → μ2 43 p = q_next (xs μ0 t) (μ0 2) (μ0 1 4) wk p) → Q none μ2 τ) : ∀ m i μ, 8 - i < m → i ≤ 8 → zOff [19, 20, 43] μ0 μ → (∀ p, p < i → μ 43 p = q_next (xs μ0 t) (μ0 2) (μ0 1 4) wk p) → Zw 3 RX9 cX9_layMoves 3 none Q 2 [.ref 42, .int wk, .int (nI i)] [] μ τ
  | 0, i, _, hm, _, _, _ => absurd hm (by omega)
  | m + 1, i, μ, hm, hi, hO, hV => by
    have hS := hO.sc (by decide)
    have e1 : xs μ t = xs μ0 t := xs_off (by have := hr.2.1; have := hr.2.2.2.1; omega) hS
    have e2 : μ 2 = μ0 2 := hO 2 (by simp)
    have e3 : μ 1 = μ0 1 := hO 1 (by simp)
    refine Zw_iload_2 dX9_layMoves_2 ?_
    refine Zw_bipush (v := 8) dX9_layMoves_3 (by decide) ?_
    refine Zw_nicmp_ge (i) (8) 26 dX9_layMoves_5 (by decide) rfl rfl (by omega) (by omega) (fun c5 => ?_) (fun c5 => ?_)
    · refine Zw_return dX9_layMoves_26 ?_
      exact h _ hO (fun p hp => hV p (by omega))
    · refine Zw_aload_0 dX9_layMoves_8 ?_
      refine Zw_getr 43 lf_X9_9 dX9_layMoves_9 (by first | decide | assumption | omega) (by first | rfl | assumption) (by rfl) ?_
      refine Zw_iload_2 dX9_layMoves_12 ?_
      refine Zw_aload_0 dX9_layMoves_13 ?_
      refine Zw_iload_2 dX9_layMoves_14 ?_
      refine Zw_iload_1 dX9_layMoves_15 ?_
      refine Zw_V2 (k := 2) lm_X9_23 dX9_layMoves_16 (by decide) (by first | decide | assumption | omega) (by first | rfl | assumption) (by rfl) (Nat.le_of_ble_eq_true rfl) ?_
      refine s_next c5 (hr.off hS) (fun μ1 hO1 => ?_)
      rw [e1, e2, e3]
      refine Zw_iastn (i) dX9_layMoves_19 (by first | decide | assumption | omega) (by first | rfl | assumption) rfl (by omega) (by decide) ?_
      refine Zw_iinc_2 dX9_layMoves_20 rfl (zincn _) ?_
      refine Zw_goto 2 dX9_layMoves_23 (by decide) ?_
      exact l_layMoves hr h m (i + 1) _ (by omega) (by omega) ((hO.tr (hO1.sub (by simp))).up (by simp)) (fun p hp => by rw [zup_at, hO1 43 (by simp)]; by_cases e : p = i <;> simp [e]; exact hV p (by omega))
set_option maxRecDepth 20000 in
theorem s_layMoves {cnt t : Nat} {wk : Int32} {Q : zQ} {μ : zMu} {τ : Int64} (hr : x_rl μ cnt t) (h : ∀ μ2, zOff [19, 20, 43] μ μ2 → (∀ p, p < 8 → μ2 43 p = q_next (xs μ t) (μ 2) (μ 1 4) wk p) → Q none μ2 τ) : Zc 3 yX9_layMoves cX9_layMoves 3 none [.ref 42, .int wk] μ τ Q := by
  refine Zc.mk 1 [.ref 42, .int wk, .null] rfl (by decide) (Nat.le_of_ble_eq_true rfl) ?_
  refine Zw_iconst (v := 0) dX9_layMoves_0 (by decide) ?_
  refine Zw_istore_2 dX9_layMoves_1 rfl ?_
  exact l_layMoves hr h 9 0 _ (by omega) (by omega) zOff.rf (fun p hp => absurd hp (by omega))
set_option maxRecDepth 20000 in
theorem s_layMovesOf {cnt t i w : Nat} {Q : zQ} {μ : zMu} {τ : Int64} (hr : x_rl μ cnt t) (hw : μ 1 3 = nI w) (hi : i < 2 ^ 31) (h1 : (i = 0 ∨ μ (21 + 3 * t) 3 ≠ 0) → ∀ μ2, zOff [19, 20, 43] μ μ2 → (∀ p, p < 8 → μ2 43 p = q_next (xs μ t) (μ 2) (μ 1 4) (nI (w + i)) p) → Q none μ2 τ) (h0 : i ≠ 0 → μ (21 + 3 * t) 3 = 0 → Q none μ τ) : Zc 4 yX9_layMovesOf cX9_layMovesOf 2 none [.ref 42, .int (nI i)] μ τ Q := by
  refine Zc.mk 0 [.ref 42, .int (nI i)] rfl (by decide) (Nat.le_of_ble_eq_true rfl) ?_
  refine Zw_iload_1 dX9_layMovesOf_0 ?_
  refine Zw_if_eq 21 dX9_layMovesOf_1 (by decide) (fun c1 => ?_) (fun c1 => ?_)
  · refine Zw_aload_0 dX9_layMovesOf_21 ?_
    refine Zw_aload_0 dX9_layMovesOf_22 ?_
    refine Zw_getr 1 lf_X9_15 dX9_layMovesOf_23 (by first | decide | assumption | omega) (by first | rfl | assumption) (by rfl) ?_
    refine Zw_getv (nI w) lf_X9_39 dX9_layMovesOf_26 (by first | decide | assumption | omega) (by first | rfl | assumption) (by rfl) hw ?_
    refine Zw_iload_1 dX9_layMovesOf_29 ?_
    refine Zw_nadd (w) (i) dX9_layMovesOf_30 rfl rfl ?_
    refine Zw_V1 (k := 3) lm_X9_42 dX9_layMovesOf_31 (by decide) (by first | decide | assumption | omega) (by first | rfl | assumption) (by rfl) (Nat.le_of_ble_eq_true rfl) ?_
    refine s_layMoves hr (fun μ1 hO1 hV1 => ?_)
    refine Zw_return dX9_layMovesOf_34 ?_
    exact h1 (Or.inl (by have := (nI_eq hi (by decide : 0 < 2 ^ 31)).mp c1; omega)) μ1 hO1 hV1
  · refine Zw_aload_0 dX9_layMovesOf_4 ?_
    refine Zw_getr 17 lf_X9_19 dX9_layMovesOf_5 (by first | decide | assumption | omega) (by first | rfl | assumption) (by rfl) ?_
    refine Zw_aload_0 dX9_layMovesOf_8 ?_
    refine Zw_getr 1 lf_X9_15 dX9_layMovesOf_9 (by first | decide | assumption | omega) (by first | rfl | assumption) (by rfl) ?_
    refine Zw_getv (nI t) lf_X9_27 dX9_layMovesOf_12 (by first | decide | assumption | omega) (by first | rfl | assumption) (by rfl) hr.2.2.1 ?_
    refine Zw_V1 (k := 1) lm_X9_33 dX9_layMovesOf_15 (by decide) (by first | decide | assumption | omega) (by first | rfl | assumption) (by rfl) (Nat.le_of_ble_eq_true rfl) ?_
    refine s_namesWeek cnt t hr.1 hr.2.1 hr.2.2.2.1 (fun d1 => ?_) (fun d1 => ?_)
    · refine Zw_if_eq 34 dX9_layMovesOf_18 (by decide) (fun c => absurd c (by decide)) (fun _ => ?_)
      refine Zw_aload_0 dX9_layMovesOf_21 ?_
      refine Zw_aload_0 dX9_layMovesOf_22 ?_
      refine Zw_getr 1 lf_X9_15 dX9_layMovesOf_23 (by first | decide | assumption | omega) (by first | rfl | assumption) (by rfl) ?_
      refine Zw_getv (nI w) lf_X9_39 dX9_layMovesOf_26 (by first | decide | assumption | omega) (by first | rfl | assumption) (by rfl) hw ?_
      refine Zw_iload_1 dX9_layMovesOf_29 ?_
      refine Zw_nadd (w) (i) dX9_layMovesOf_30 rfl rfl ?_
      refine Zw_V1 (k := 3) lm_X9_42 dX9_layMovesOf_31 (by decide) (by first | decide | assumption | omega) (by first | rfl | assumption) (by rfl) (Nat.le_of_ble_eq_true rfl) ?_
      refine s_layMoves hr (fun μ1 hO1 hV1 => ?_)
      refine Zw_return dX9_layMovesOf_34 ?_
      exact h1 (Or.inr d1) μ1 hO1 hV1
    · refine Zw_if_eq 34 dX9_layMovesOf_18 (by decide) (fun _ => ?_) (fun c => absurd c (by decide))
      refine Zw_return dX9_layMovesOf_34 ?_
      exact h0 (fun e => c1 (by rw [e]; rfl)) d1
set_option maxRecDepth 20000 in
theorem l_spread {Q : zQ} {μ : zMu} {τ : Int64} {s : Int32} (h : Q (some (.int (q_spread (μ 43) s))) μ τ) : ∀ m i on, 8 - i < m → i ≤ 8 → on = q_orf (fun p => if q_has s p then μ 43 p else 0) i → Zw 0 RX9 cX9_spreadOf 4 (some .int) Q 4 [.ref 42, .int s, .int on, .int (nI i)] [] μ τ
  | 0, i, _, hm, _, _ => absurd hm (by omega)
  | m + 1, i, on, hm, hi, hV => by
    refine Zw_iload_3 dX9_spreadOf_4 ?_
    refine Zw_bipush (v := 8) dX9_spreadOf_5 (by decide) ?_
    refine Zw_nicmp_ge (i) (8) 33 dX9_spreadOf_7 (by decide) rfl rfl (by omega) (by omega) (fun c7 => ?_) (fun c7 => ?_)
    · refine Zw_iload_2 dX9_spreadOf_33 ?_
      refine Zw_ireturn dX9_spreadOf_34 (by first | rfl | assumption) ?_
      obtain rfl : i = 8 := by omega
      subst hV
      exact h
    · refine Zw_iload_1 dX9_spreadOf_10 ?_
      refine Zw_iload_3 dX9_spreadOf_11 ?_
      refine Zw_ishr dX9_spreadOf_12 ?_
      refine Zw_iconst (v := 1) dX9_spreadOf_13 (by decide) ?_
      refine Zw_iand dX9_spreadOf_14 ?_
      refine Zw_if_eq 27 dX9_spreadOf_15 (by decide) (fun c15 => ?_) (fun c15 => ?_)
      · refine Zw_iinc_3 dX9_spreadOf_27 rfl (zincn _) ?_
        refine Zw_goto 4 dX9_spreadOf_30 (by decide) ?_
        exact l_spread h m (i + 1) _ (by omega) (by omega) (by show _ = q_orf _ i ||| _; rw [hV]; simp [q_has, c15])
      · refine Zw_iload_2 dX9_spreadOf_18 ?_
        refine Zw_aload_0 dX9_spreadOf_19 ?_
        refine Zw_getr 43 lf_X9_9 dX9_spreadOf_20 (by first | decide | assumption | omega) (by first | rfl | assumption) (by rfl) ?_
        refine Zw_iload_3 dX9_spreadOf_23 ?_
        refine Zw_ialdn (i) dX9_spreadOf_24 (by first | decide | assumption | omega) (by first | rfl | assumption) rfl (by omega) (by decide) ?_
        refine Zw_ior dX9_spreadOf_25 ?_
        refine Zw_istore_2 dX9_spreadOf_26 rfl ?_
        refine Zw_iinc_3 dX9_spreadOf_27 rfl (zincn _) ?_
        refine Zw_goto 4 dX9_spreadOf_30 (by decide) ?_
        exact l_spread h m (i + 1) _ (by omega) (by omega) (by show _ = q_orf _ i ||| _; rw [hV]; simp [q_has, c15])
set_option maxRecDepth 20000 in
theorem s_spread {s : Int32} {Q : zQ} {μ : zMu} {τ : Int64} (h : Q (some (.int (q_spread (μ 43) s))) μ τ) : Zc 0 yX9_spreadOf cX9_spreadOf 4 (some .int) [.ref 42, .int s] μ τ Q := by
  refine Zc.mk 2 [.ref 42, .int s, .null, .null] rfl (by decide) (Nat.le_of_ble_eq_true rfl) ?_
  refine Zw_iconst (v := 0) dX9_spreadOf_0 (by decide) ?_
  refine Zw_istore_2 dX9_spreadOf_1 rfl ?_
  refine Zw_iconst (v := 0) dX9_spreadOf_2 (by decide) ?_
  refine Zw_istore_3 dX9_spreadOf_3 rfl ?_
  exact l_spread h 9 0 _ (by omega) (by omega) rfl
