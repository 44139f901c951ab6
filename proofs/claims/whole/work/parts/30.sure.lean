/-! the search as the class does it, by lanes ln -/
def x_spf (sy : zSy) (ln : Nat → Int32) (ps : Int32) (w : Nat) : Nat → Nat := fun S => (q_spread (fun p => q_next sy ln ps (nI w) p) (nI S)).toNatClampNeg
def x_eye (sy : zSy) (ln : Nat → Int32) (ps : Int32) (w kd nu : Nat) : Nat := (q_eyes sy ln ps w kd nu).toNatClampNeg
def x_hr (sy : zSy) (ln : Nat → Int32) (ps : Int32) (w kd nu a n T : Nat) : Int32 × h_S := h_run (x_wy ln) (x_nx (x_spf sy ln ps w) (x_eye sy ln ps w kd nu)) n 1 0 (upd (fun _ => -1) (a * 256 + T) (nI (a * 256 + T)), [a * 256 + T], -1)
def x_few (sy : zSy) (ln : Nat → Int32) (ps : Int32) (w kd nu a n T : Nat) : Int32 := if T = 0 then 0 else (x_hr sy ln ps w kd nu a n T).1
theorem x_sp_of {μ : zMu} {sy : zSy} {ln : Nat → Int32} {ps : Int32} {w : Nat} (h : ∀ S, S < 256 → μ 45 S = q_spread (fun p => q_next sy ln ps (nI w) p) (nI S)) : x_sp μ (x_spf sy ln ps w) := fun S hS => by
  have h8 := r8_cl (r8_spread (mv := fun p => q_next sy ln ps (nI w) p) (fun p hp => r8_next sy ln ps (nI w) hp) (nI S))
  exact ⟨by rw [h S hS]; exact h8.1, h8.2⟩
theorem x_eye_of (sy : zSy) (ln : Nat → Int32) (ps : Int32) (w kd nu : Nat) : q_eyes sy ln ps w kd nu = nI (x_eye sy ln ps w kd nu) ∧ x_eye sy ln ps w kd nu < 256 := r8_cl (r8_eyes sy ln ps w kd nu)
/-- the numbers on the queue and in ahead are states -/
theorem h_enq_rng {s : h_S} {x bh : Nat} (hb : bh < 2048) (h : ∀ y, y < 2048 → h_rng (s.1 y)) : ∀ y, y < 2048 → h_rng ((h_enq s x bh).1 y) := by
  intro y hy
  unfold h_enq
  split
  · simp only [upd]
    split
    · exact Or.inr ⟨bh, hb, rfl⟩
    · exact h y hy
  · exact h y hy
theorem h_one_rng {wy : Nat → Nat → Bool} {nx : Nat → Nat → Nat} {x p : Nat} {s : h_S} (hx : x < 2048) (hp : p < 8) (h : ∀ y, y < 2048 → h_rng (s.1 y)) (hg : h_rng s.2.2) : (∀ y, y < 2048 → h_rng ((h_one wy nx x p s).1 y)) ∧ h_rng (h_one wy nx x p s).2.2 := by
  unfold h_one
  split
  · split
    · exact ⟨h_enq_rng hx h, Or.inr ⟨p * 256, by omega, rfl⟩⟩
    · refine ⟨h_enq_rng hx h, ?_⟩
      unfold h_enq
      split
      · exact hg
      · exact hg
  · exact ⟨h, hg⟩
theorem h_exp_rng {wy : Nat → Nat → Bool} {nx : Nat → Nat → Nat} {x : Nat} (hx : x < 2048) : ∀ m p (s : h_S), m + p ≤ 8 → (∀ y, y < 2048 → h_rng (s.1 y)) → h_rng s.2.2 → (∀ y, y < 2048 → h_rng ((h_exp wy nx x m p s).1 y)) ∧ h_rng (h_exp wy nx x m p s).2.2
  | 0, _, _, _, h, hg => ⟨h, hg⟩
  | m + 1, p, s, hm, h, hg => by
    rw [h_exp_s]
    split
    · have h2 := h_one_rng (wy := wy) (nx := nx) (p := p) hx (by omega) h hg
      exact h_exp_rng hx m (p + 1) _ (by omega) h2.1 h2.2
    · exact ⟨h, hg⟩
def h_ok (s : h_S) : Prop := (∀ y, y < 2048 → h_rng (s.1 y)) ∧ h_rng s.2.2 ∧ ∀ x ∈ s.2.1, x < 2048
theorem h_enq_ok {s : h_S} {x bh : Nat} (hx : x < 2048) (hb : bh < 2048) (h : h_ok s) : h_ok (h_enq s x bh) := by
  refine ⟨h_enq_rng hb h.1, ?_, ?_⟩
  · unfold h_enq; split <;> exact h.2.1
  · unfold h_enq
    split
    · intro y hy
      rcases List.mem_append.mp hy with hy | hy
      · exact h.2.2 y hy
      · simp at hy; subst hy; exact hx
    · exact h.2.2
theorem h_one_ok {wy : Nat → Nat → Bool} {nx : Nat → Nat → Nat} (hnx : ∀ S p, S < 256 → nx S p < 256) {x p : Nat} {s : h_S} (hx : x < 2048) (hp : p < 8) (h : h_ok s) : h_ok (h_one wy nx x p s) := by
  have hlt := hnx (x % 256) p (Nat.mod_lt _ (by omega))
  have h1 := h_enq_ok (s := s) (x := p * 256 + nx (x % 256) p) (bh := x) (by omega) hx h
  unfold h_one
  split
  · split
    · exact ⟨h1.1, Or.inr ⟨p * 256, by omega, rfl⟩, h1.2.2⟩
    · exact h1
  · exact h
theorem h_exp_ok {wy : Nat → Nat → Bool} {nx : Nat → Nat → Nat} (hnx : ∀ S p, S < 256 → nx S p < 256) {x : Nat} (hx : x < 2048) : ∀ m p (s : h_S), m + p ≤ 8 → h_ok s → h_ok (h_exp wy nx x m p s)
  | 0, _, _, _, h => h
  | m + 1, p, s, hm, h => by
    rw [h_exp_s]
    split
    · exact h_exp_ok hnx hx m (p + 1) _ (by omega) (h_one_ok hnx hx (by omega) h)
    · exact h
theorem h_getD {l : List Nat} {i : Nat} (h : ∀ x ∈ l, x < 2048) : l.getD i 0 < 2048 := by
  rw [List.getD_eq_getElem?_getD]
  cases hl : l[i]? with
  | none => decide
  | some x => exact h x (List.mem_of_getElem? hl)
theorem h_lvl_ok {wy : Nat → Nat → Bool} {nx : Nat → Nat → Nat} (hnx : ∀ S p, S < 256 → nx S p < 256) : ∀ m i (s : h_S), h_ok s → h_ok (h_lvl wy nx m i s)
  | 0, _, _, h => h
  | m + 1, i, s, h => by
    rw [h_lvl_s]
    have h1 := h_exp_ok (wy := wy) hnx (h_getD (i := i) h.2.2) 8 0 s (by omega) h
    split
    · exact h_lvl_ok hnx m (i + 1) _ h1
    · exact h1
theorem h_run_ok {wy : Nat → Nat → Bool} {nx : Nat → Nat → Nat} (hnx : ∀ S p, S < 256 → nx S p < 256) : ∀ m wk dn (s : h_S), h_ok s → h_ok (h_run wy nx m wk dn s).2
  | 0, _, _, _, h => h
  | m + 1, wk, dn, s, h => by
    rw [h_run_s]
    have h1 := h_lvl_ok (wy := wy) hnx (s.2.1.length - dn) dn s h
    split
    · exact h_run_ok hnx m (wk + 1) _ _ h1
    · exact h1
theorem h_run_val {wy : Nat → Nat → Bool} {nx : Nat → Nat → Nat} : ∀ m wk dn (s : h_S), (h_run wy nx m wk dn s).1 = -1 ∨ ∃ k, wk ≤ k ∧ k < wk + m ∧ (h_run wy nx m wk dn s).1 = nI k
  | 0, _, _, _ => Or.inl rfl
  | m + 1, wk, dn, s => by
    rw [h_run_s]
    split
    · rcases h_run_val (wy := wy) (nx := nx) m (wk + 1) s.2.1.length (h_lvl wy nx (s.2.1.length - dn) dn s) with e | ⟨k, h1, h2, h3⟩
      · exact Or.inl e
      · exact Or.inr ⟨k, by omega, by omega, h3⟩
    · exact Or.inr ⟨wk, Nat.le_refl _, by omega, rfl⟩
theorem x_nx_lt (sy : zSy) (ln : Nat → Int32) (ps : Int32) (w e : Nat) : ∀ S p, S < 256 → x_nx (x_spf sy ln ps w) e S p < 256 := fun S p _ => h_left_lt (r8_cl (r8_spread (mv := fun p => q_next sy ln ps (nI w) p) (fun p hp => r8_next sy ln ps (nI w) hp) (nI S))).2
theorem x_hr_ok {sy : zSy} {ln : Nat → Int32} {ps : Int32} {w kd nu a n T : Nat} (ha : a < 8) (hT : T < 256) : h_ok (x_hr sy ln ps w kd nu a n T).2 := by
  refine h_run_ok (x_nx_lt sy ln ps w _) n 1 0 _ ⟨fun y hy => ?_, Or.inl rfl, fun x hx => ?_⟩
  · simp only [upd]
    split
    · exact Or.inr ⟨a * 256 + T, by omega, rfl⟩
    · exact Or.inl rfl
  · simp at hx; subst hx; omega
/-- the WAY as the class tells it -/
def x_way (sy : zSy) (ln : Nat → Int32) (ps : Int32) (w kd nu a n T : Nat) : Int32 := if T = 0 then 0 else if (x_hr sy ln ps w kd nu a n T).1 = -1 ∨ 9 < (x_hr sy ln ps w kd nu a n T).1.toNatClampNeg then -1 else h_way (x_hr sy ln ps w kd nu a n T).2.1 (x_hr sy ln ps w kd nu a n T).1.toNatClampNeg (x_hr sy ln ps w kd nu a n T).2.2.2 1 0
theorem s_wayx {e m : Nat} {R : Int32 × h_S} {Q : zQ} {μ : zMu} {τ : Int64} (hx : x_h μ e R.2) (hok : h_ok R.2) (hv : R.1 = -1 ∨ ∃ k, 1 ≤ k ∧ k < 1 + m ∧ R.1 = nI k) (hm : m ≤ 40) (h : Q (some (.int (if R.1 = -1 ∨ 9 < R.1.toNatClampNeg then -1 else h_way R.2.1 R.1.toNatClampNeg R.2.2.2 1 0))) μ τ) : Zc 0 yX4_wayOf cX4_wayOf 6 (some .int) [.ref 44, .int R.1] μ τ Q := by
  rcases hv with e1 | ⟨k, h1, h2, h3⟩
  · rw [if_pos (Or.inl e1)] at h
    exact s_wayBig (Or.inl e1) h
  · rw [h3, nI_clamp (by omega)] at h
    by_cases h9 : 9 < k
    · rw [if_pos (Or.inr h9)] at h
      exact s_wayBig (Or.inr ⟨k, by omega, h9, h3⟩) h
    · rw [if_neg (fun e2 => e2.elim (fun e3 => absurd ((nI_toInt (n := k) (by omega)).symm.trans ((congrArg Int32.toInt e3).trans (show (-1 : Int32).toInt = -1 from rfl))) (by omega)) h9)] at h
      rw [h3]
      exact s_way hx (by omega) hok.1 hok.2.1 h
set_option maxRecDepth 20000 in
theorem s_X_sure {x m what : Int32} {cnt t n w T : Nat} {Q : zQ} {μ : zMu} {τ : Int64} (hx : x_ok μ cnt t n w) (hth : μ 1 6 = nI T) (hT : T < 256) (hbad : ¬ (vp_in x n ∧ vp_in m 41 ∧ vp_in what 2) → Q (some (.int (-2))) μ τ) (h0 : ∀ f kd nu a, f < n → x = nI f → μ (4 + f) 0 = nI kd → kd < 6 → μ (4 + f) 1 = nI nu → nu < 10 → μ (4 + f) 2 = nI a → a < 8 → ∀ m0, m0 ≤ 40 → m = nI m0 → what = 0 → ∀ μ2, zOff [19, 20, 43, 44, 45, 46, 47] μ μ2 → Q (some (.int (x_few (xs μ t) (μ 2) (μ 1 4) w kd nu a m0 T))) μ2 τ) (h1 : ∀ f kd nu a, f < n → x = nI f → μ (4 + f) 0 = nI kd → kd < 6 → μ (4 + f) 1 = nI nu → nu < 10 → μ (4 + f) 2 = nI a → a < 8 → ∀ m0, m0 ≤ 40 → m = nI m0 → what = 1 → ∀ μ2, zOff [19, 20, 43, 44, 45, 46, 47] μ μ2 → Q (some (.int (x_way (xs μ t) (μ 2) (μ 1 4) w kd nu a m0 T))) μ2 τ) : Zc 5 yX10_sure cX10_sure 6 (some .int) [.ref 0, .int x, .int m, .int what] μ τ Q := by
  refine Zc.mk 2 [.ref 0, .int x, .int m, .int what, .null, .null] rfl (by decide) (Nat.le_of_ble_eq_true rfl) ?_
  have hn5 := hx.2.1.1
  have hn := hx.2.1.2.1
  refine Zw_iload_1 dX10_sure_0 ?_
  refine Zw_aload_0 dX10_sure_1 ?_
  refine Zw_getr 1 lf_X10_10 dX10_sure_2 (by first | decide | assumption | omega) (by first | rfl | assumption) (by rfl) ?_
  refine Zw_geti lf_X10_80 dX10_sure_5 (by first | decide | assumption | omega) (by first | rfl | assumption) (by rfl) ?_
  refine Zw_S2 (k := 0) lm_X10_76 dX10_sure_8 (by decide) (Nat.le_of_ble_eq_true rfl) ?_
  refine s_within n (by rw [hn]; exact nI_toInt (by omega)) (fun b1 => ?_) (fun b1 => ?_)
  · refine Zw_if_eq 31 dX10_sure_11 (by decide) (fun c => absurd c (by decide)) (fun _ => ?_)
    refine Zw_iload_2 dX10_sure_14 ?_
    refine Zw_bipush (v := 41) dX10_sure_15 (by decide) ?_
    refine Zw_S2 (k := 0) lm_X10_76 dX10_sure_17 (by decide) (Nat.le_of_ble_eq_true rfl) ?_
    refine s_within 41 (by decide) (fun b2 => ?_) (fun b2 => ?_)
    · refine Zw_if_eq 31 dX10_sure_20 (by decide) (fun c => absurd c (by decide)) (fun _ => ?_)
      refine Zw_iload_3 dX10_sure_23 ?_
      refine Zw_iconst (v := 2) dX10_sure_24 (by decide) ?_
      refine Zw_S2 (k := 0) lm_X10_76 dX10_sure_25 (by decide) (Nat.le_of_ble_eq_true rfl) ?_
      refine s_within 2 (by decide) (fun b3 => ?_) (fun b3 => ?_)
      · refine Zw_if_ne 34 dX10_sure_28 (by decide) (fun _ => ?_) (fun c => absurd c (by decide))
        obtain ⟨f, hf, rfl⟩ := vp_in_of b1 (by omega)
        obtain ⟨kd, nu, a, g1, g2, g3, g4, g5, g6⟩ := hx.2.1.2.2 f hf
        have hsf := zfin_s (show f < 5 by omega)
        obtain ⟨m0, hm0, rfl⟩ := vp_in_of b2 (by decide)
        refine Zw_aload_0 dX10_sure_34 ?_
        refine Zw_getr 1 lf_X10_10 dX10_sure_35 (by first | decide | assumption | omega) (by first | rfl | assumption) (by rfl) ?_
        refine Zw_getr 3 lf_X10_109 dX10_sure_38 (by first | decide | assumption | omega) (by first | rfl | assumption) (by rfl) ?_
        refine Zw_iload_1 dX10_sure_41 ?_
        refine Zw_aaldn (f) (4 + f) dX10_sure_42 (by first | decide | assumption | omega) (by first | rfl | assumption) rfl (by omega) (zfin_g (by omega)) (by decide) ?_
        refine Zw_astore_4 dX10_sure_43 rfl ?_
        refine Zw_aload_0 dX10_sure_45 ?_
        refine Zw_getr 44 lf_X10_47 dX10_sure_46 (by first | decide | assumption | omega) (by first | rfl | assumption) (by rfl) ?_
        refine Zw_aload_4 dX10_sure_49 ?_
        refine Zw_V1 (k := 4) lm_X10_183 dX10_sure_51 (by decide) (by first | decide | assumption | omega) (by first | rfl | assumption) (by rfl) (Nat.le_of_ble_eq_true rfl) ?_
        refine s_prepare (by omega) hsf (by omega) (by have := hx.2.2.2.1; omega) hx.2.2.1 hx.1 g1 g2 g3 g4 (fun μ1 hO1 v1 v2 => ?_)
        have hs1 := x_sp_of v1
        have hee := x_eye_of (xs μ t) (μ 2) (μ 1 4) w kd nu
        have he1 : μ1 44 6 = nI (x_eye (xs μ t) (μ 2) (μ 1 4) w kd nu) := v2.trans hee.1
        refine Zw_aload_0 dX10_sure_54 ?_
        refine Zw_getr 44 lf_X10_47 dX10_sure_55 (by first | decide | assumption | omega) (by first | rfl | assumption) (by rfl) ?_
        refine Zw_aload_4 dX10_sure_58 ?_
        refine Zw_getv (nI a) lf_X10_172 dX10_sure_60 (by first | decide | assumption | omega) (by first | rfl | assumption) (by rfl) (by rw [hO1 (4 + f) (by simp; omega)]; exact g5) ?_
        refine Zw_iload_2 dX10_sure_63 ?_
        refine Zw_V2 (k := 2) lm_X10_187 dX10_sure_64 (by decide) (by first | decide | assumption | omega) (by first | rfl | assumption) (by rfl) (Nat.le_of_ble_eq_true rfl) ?_
        refine s_fewest (R := x_hr (xs μ t) (μ 2) (μ 1 4) w kd nu a m0 T) hs1 hee.2 he1 g6 (by omega) hT (by rw [hO1 1 (by simp)]; exact hth) (by rw [hO1 2 (by simp)]; rfl) (fun hT0 μ2 hO2 f1 f2 => ?_) (fun hT0 μ2 hO2 f1 => ?_)
        · refine Zw_istore_5 dX10_sure_67 rfl ?_
          obtain ⟨c, hc, rfl⟩ := vp_in_of b3 (by decide)
          match c, hc with
          | 0, _ =>
            refine Zw_iload_3 dX10_sure_69 ?_
            refine Zw_if_ne 78 dX10_sure_70 (by decide) (fun c => absurd c (by decide)) (fun _ => ?_)
            refine Zw_iload_5 dX10_sure_73 ?_
            refine Zw_goto 87 dX10_sure_75 (by decide) ?_
            refine Zw_ireturn dX10_sure_87 (by first | rfl | assumption) ?_
            have hq := h0 f kd nu a hf rfl g1 g2 g3 g4 g5 g6 m0 (by omega) rfl rfl μ2 ((hO1.sub (by simp)).tr (hO2.sub (by simp)))
            rw [x_few, if_pos hT0] at hq
            exact hq
          | 1, _ =>
            refine Zw_iload_3 dX10_sure_69 ?_
            refine Zw_if_ne 78 dX10_sure_70 (by decide) (fun _ => ?_) (fun c => absurd c (by decide))
            refine Zw_aload_0 dX10_sure_78 ?_
            refine Zw_getr 44 lf_X10_47 dX10_sure_79 (by first | decide | assumption | omega) (by first | rfl | assumption) (by rfl) ?_
            refine Zw_iload_5 dX10_sure_82 ?_
            refine Zw_V1 (k := 0) lm_X10_190 dX10_sure_84 (by decide) (by first | decide | assumption | omega) (by first | rfl | assumption) (by rfl) (Nat.le_of_ble_eq_true rfl) ?_
            refine s_way0 ?_
            refine Zw_ireturn dX10_sure_87 (by first | rfl | assumption) ?_
            have hq := h1 f kd nu a hf rfl g1 g2 g3 g4 g5 g6 m0 (by omega) rfl rfl μ2 ((hO1.sub (by simp)).tr (hO2.sub (by simp)))
            rw [x_way, if_pos hT0] at hq
            exact hq
          | n + 2, hc => exact absurd hc (by omega)
        · refine Zw_istore_5 dX10_sure_67 rfl ?_
          obtain ⟨c, hc, rfl⟩ := vp_in_of b3 (by decide)
          match c, hc with
          | 0, _ =>
            refine Zw_iload_3 dX10_sure_69 ?_
            refine Zw_if_ne 78 dX10_sure_70 (by decide) (fun c => absurd c (by decide)) (fun _ => ?_)
            refine Zw_iload_5 dX10_sure_73 ?_
            refine Zw_goto 87 dX10_sure_75 (by decide) ?_
            refine Zw_ireturn dX10_sure_87 (by first | rfl | assumption) ?_
            have hq := h0 f kd nu a hf rfl g1 g2 g3 g4 g5 g6 m0 (by omega) rfl rfl μ2 ((hO1.sub (by simp)).tr (hO2.sub (by simp)))
            rw [x_few, if_neg hT0] at hq
            exact hq
          | 1, _ =>
            refine Zw_iload_3 dX10_sure_69 ?_
            refine Zw_if_ne 78 dX10_sure_70 (by decide) (fun _ => ?_) (fun c => absurd c (by decide))
            refine Zw_aload_0 dX10_sure_78 ?_
            refine Zw_getr 44 lf_X10_47 dX10_sure_79 (by first | decide | assumption | omega) (by first | rfl | assumption) (by rfl) ?_
            refine Zw_iload_5 dX10_sure_82 ?_
            refine Zw_V1 (k := 0) lm_X10_190 dX10_sure_84 (by decide) (by first | decide | assumption | omega) (by first | rfl | assumption) (by rfl) (Nat.le_of_ble_eq_true rfl) ?_
            refine s_wayx (R := x_hr (xs μ t) (μ 2) (μ 1 4) w kd nu a m0 T) f1 (x_hr_ok g6 hT) (h_run_val m0 1 0 _) (by omega) ?_
            refine Zw_ireturn dX10_sure_87 (by first | rfl | assumption) ?_
            have hq := h1 f kd nu a hf rfl g1 g2 g3 g4 g5 g6 m0 (by omega) rfl rfl μ2 ((hO1.sub (by simp)).tr (hO2.sub (by simp)))
            rw [x_way, if_neg hT0] at hq
            exact hq
          | n + 2, hc => exact absurd hc (by omega)
      · refine Zw_if_ne 34 dX10_sure_28 (by decide) (fun c => absurd c (by decide)) (fun _ => ?_)
        refine Zw_bipush (v := (-2)) dX10_sure_31 (by decide) ?_
        refine Zw_ireturn dX10_sure_33 (by first | rfl | assumption) ?_
        exact hbad (fun e => b3 e.2.2)
    · refine Zw_if_eq 31 dX10_sure_20 (by decide) (fun _ => ?_) (fun c => absurd c (by decide))
      refine Zw_bipush (v := (-2)) dX10_sure_31 (by decide) ?_
      refine Zw_ireturn dX10_sure_33 (by first | rfl | assumption) ?_
      exact hbad (fun e => b2 e.2.1)
  · refine Zw_if_eq 31 dX10_sure_11 (by decide) (fun _ => ?_) (fun c => absurd c (by decide))
    refine Zw_bipush (v := (-2)) dX10_sure_31 (by decide) ?_
    refine Zw_ireturn dX10_sure_33 (by first | rfl | assumption) ?_
    exact hbad (fun e => b1 e.1)
