/-! weeks to none, week by week -/
def m_ex (g : Nat → Bool) : Nat → Nat → Bool
  | 0, _ => false
  | m + 1, i => if g i then true else m_ex g m (i + 1)
theorem m_ex_s (g : Nat → Bool) (m i : Nat) : m_ex g (m + 1) i = if g i then true else m_ex g m (i + 1) := rfl
theorem m_ex_iff (g : Nat → Bool) : ∀ m i, m_ex g m i = true ↔ ∃ p, i ≤ p ∧ p < i + m ∧ g p = true
  | 0, i => ⟨fun h => (by cases h), fun ⟨p, h1, h2, _⟩ => (by omega)⟩
  | m + 1, i => by
    rw [m_ex_s]
    by_cases h : g i = true
    · rw [if_pos h]; exact ⟨fun _ => ⟨i, by omega, by omega, h⟩, fun _ => rfl⟩
    · rw [if_neg h, m_ex_iff g m (i + 1)]
      constructor
      · rintro ⟨p, h1, h2, h3⟩; exact ⟨p, by omega, by omega, h3⟩
      · rintro ⟨p, h1, h2, h3⟩
        refine ⟨p, ?_, by omega, h3⟩
        rcases Nat.eq_or_lt_of_le h1 with e | e
        · subst e; exact absurd h3 h
        · exact e
def m_ds (wy : Nat → Nat → Bool) (nx : Nat → Nat → Nat) : Nat → Nat → Nat → Nat
  | 0, _, S => if S = 0 then 0 else 1000000
  | v + 1, a, S => if m_ds wy nx v a S = 1000000 ∧ m_ex (fun p => wy a p && decide (m_ds wy nx v p (nx S p) = v)) 8 0 = true then v + 1 else m_ds wy nx v a S
theorem m_ds_s (wy : Nat → Nat → Bool) (nx : Nat → Nat → Nat) (v a S : Nat) : m_ds wy nx (v + 1) a S = if m_ds wy nx v a S = 1000000 ∧ m_ex (fun p => wy a p && decide (m_ds wy nx v p (nx S p) = v)) 8 0 = true then v + 1 else m_ds wy nx v a S := rfl
theorem m_ds_le (wy : Nat → Nat → Bool) (nx : Nat → Nat → Nat) : ∀ v a S, m_ds wy nx v a S ≤ v ∨ m_ds wy nx v a S = 1000000
  | 0, a, S => by
    show (if S = 0 then 0 else 1000000) ≤ 0 ∨ (if S = 0 then 0 else 1000000) = 1000000
    split <;> simp
  | v + 1, a, S => by
    rw [m_ds_s]
    split
    · exact Or.inl (Nat.le_refl _)
    · rcases m_ds_le wy nx v a S with h | h
      · exact Or.inl (by omega)
      · exact Or.inr h
theorem m_ds_same (wy : Nat → Nat → Bool) (nx : Nat → Nat → Nat) {v a S : Nat} (hv : v < 1000) : m_ds wy nx (v + 1) a S = v ↔ m_ds wy nx v a S = v := by
  rw [m_ds_s]
  split
  · rename_i h; omega
  · exact Iff.rfl
theorem m_ds_0 (wy : Nat → Nat → Bool) (nx : Nat → Nat → Nat) : ∀ v a, m_ds wy nx v a 0 = 0
  | 0, _ => rfl
  | v + 1, a => by rw [m_ds_s, m_ds_0 wy nx v a, if_neg (by omega)]
theorem m_ex_no {g : Nat → Bool} {m i : Nat} (h : ∀ p, i ≤ p → p < i + m → g p = false) : m_ex g m i = false := by
  cases hq : m_ex g m i
  · rfl
  · obtain ⟨p, h1, h2, h3⟩ := (m_ex_iff g m i).mp hq
    rw [h p h1 h2] at h3; cases h3
theorem m_ds_stop {wy : Nat → Nat → Bool} {nx : Nat → Nat → Nat} (hnx : ∀ S p, S < 256 → nx S p < 256) {v : Nat} (h : ∀ a S, a < 8 → S < 256 → m_ds wy nx (v + 1) a S = m_ds wy nx v a S) : ∀ k, v + 1 + k < 1000 → ∀ a S, a < 8 → S < 256 → m_ds wy nx (v + 1 + k) a S = m_ds wy nx (v + 1) a S
  | 0, _, _, _, _, _ => rfl
  | k + 1, hk, a, S, ha, hS => by
    have ih := m_ds_stop hnx h k (by omega)
    rw [show v + 1 + (k + 1) = (v + 1 + k) + 1 by omega, m_ds_s, ih a S ha hS, if_neg]
    rintro ⟨_, h2⟩
    obtain ⟨p, _, hp, h3⟩ := (m_ex_iff _ _ _).mp h2
    rw [Bool.and_eq_true, decide_eq_true_iff, ih p _ (by omega) (hnx S p hS), h p _ (by omega) (hnx S p hS)] at h3
    rcases m_ds_le wy nx v p (nx S p) with q | q <;> omega
/-! the rows of the reference -/
theorem m_bitE : ∀ p, p < 8 → ∀ e, e < 256 → (((nI e >>> (nI p &&& 31)) &&& 1) <<< (nI p &&& 31)) = nI e &&& ((1 : Int32) <<< (nI p &&& 31)) := by decide +kernel
theorem m_pow : ∀ p, p < 8 → (1 : Int32) <<< (nI p &&& 31) = nI (2 ^ p) ∧ 2 ^ p < 256 := by decide +kernel
def lowp (i : Nat) : Nat := if i % 2 = 1 then 0 else if i / 2 % 2 = 1 then 1 else if i / 4 % 2 = 1 then 2 else if i / 8 % 2 = 1 then 3 else if i / 16 % 2 = 1 then 4 else if i / 32 % 2 = 1 then 5 else if i / 64 % 2 = 1 then 6 else 7
theorem lowp_all : ∀ i, i < 256 → i ≠ 0 → lowp i < 8 ∧ nI i &&& -nI i = nI (2 ^ lowp i) ∧ (nI i &&& (nI (2 ^ lowp i) ^^^ (-1))) = nI (i - 2 ^ lowp i) ∧ 2 ^ lowp i ≤ i ∧ 0 < 2 ^ lowp i ∧ ∀ p, p < 8 → q_has (nI i) p = (decide (p = lowp i) || q_has (nI (i - 2 ^ lowp i)) p) := by decide +kernel
theorem q_has_p2 : ∀ p, p < 8 → ∀ q, q < 8 → q_has (nI (2 ^ q)) p = decide (p = q) := by decide +kernel
theorem q_spread_has {mv : Nat → Int32} (hm : ∀ p, p < 8 → r8 (mv p)) {s : Int32} {p : Nat} (hp : p < 8) : q_has (q_spread mv s) p = true ↔ ∃ i, i < 8 ∧ q_has s i = true ∧ q_has (mv i) p = true := by
  unfold q_spread
  rw [q_has_orf hp 8 (fun i hi => by split; exact hm i hi; exact r8_0)]
  constructor
  · rintro ⟨i, hi, e⟩
    by_cases h : q_has s i = true
    · rw [if_pos h] at e; exact ⟨i, hi, h, e⟩
    · rw [if_neg h, q_has0 p hp] at e; cases e
  · rintro ⟨i, hi, h, e⟩
    exact ⟨i, hi, by rw [if_pos h]; exact e⟩
theorem q_spread_p2 {mv : Nat → Int32} (hm : ∀ p, p < 8 → r8 (mv p)) {q : Nat} (hq : q < 8) : q_spread mv (nI (2 ^ q)) = mv q := by
  refine r8_ext (r8_spread hm _) (hm q hq) (fun p hp => ?_)
  apply Bool.eq_iff_iff.mpr
  rw [q_spread_has hm hp]
  constructor
  · rintro ⟨i, hi, h, e⟩
    rw [q_has_p2 i hi q hq, decide_eq_true_iff] at h
    subst h; exact e
  · intro e
    exact ⟨q, hq, by rw [q_has_p2 q hq q hq]; simp, e⟩
theorem q_spread_low {mv : Nat → Int32} (hm : ∀ p, p < 8 → r8 (mv p)) {i : Nat} (hi : i < 256) (h0 : i ≠ 0) : mv (lowp i) ||| q_spread mv (nI (i - 2 ^ lowp i)) = q_spread mv (nI i) := by
  obtain ⟨l1, _, _, _, _, l5⟩ := lowp_all i hi h0
  refine r8_ext (r8_or (hm _ l1) (r8_spread hm _)) (r8_spread hm _) (fun p hp => ?_)
  rw [q_has_or (hm _ l1) (r8_spread hm _) hp]
  apply Bool.eq_iff_iff.mpr
  rw [Bool.or_eq_true, q_spread_has hm hp, q_spread_has hm hp]
  constructor
  · rintro (e | ⟨j, hj, h, e⟩)
    · exact ⟨lowp i, l1, by rw [l5 _ l1]; simp, e⟩
    · exact ⟨j, hj, by rw [l5 j hj, h]; simp, e⟩
  · rintro ⟨j, hj, h, e⟩
    rw [l5 j hj, Bool.or_eq_true, decide_eq_true_iff] at h
    rcases h with h | h
    · subst h; exact Or.inl e
    · exact Or.inr ⟨j, hj, h, e⟩
def m_sp (μ : zMu) (sp : Nat → Nat) : Prop := ∀ S, S < 256 → μ 69 S = nI (sp S) ∧ sp S < 256
def c_sp (C : mC) (v : Nat) : Nat → Nat := x_spf C.1 C.2.1 C.2.2.1 v
def c_eye (C : mC) (v f : Nat) : Nat := x_eye C.1 C.2.1 C.2.2.1 v (cK C f) (cU C f)
theorem c_eye_of (C : mC) (v f : Nat) : c_ey C v f = nI (c_eye C v f) ∧ c_eye C v f < 256 := x_eye_of _ _ _ _ _ _
theorem c_sp_of (C : mC) (v S : Nat) : q_spread (c_mv C v) (nI S) = nI (c_sp C v S) ∧ c_sp C v S < 256 := r8_cl (r8_spread (fun p hp => r8_mv C v hp) (nI S))
abbrev c_nx (C : mC) (v f : Nat) : Nat → Nat → Nat := x_nx (c_sp C v) (c_eye C v f)
theorem c_nx_lt (C : mC) (v f : Nat) : ∀ S p, S < 256 → c_nx C v f S p < 256 := fun S p _ => h_left_lt (c_sp_of C v S).2
abbrev c_wy (C : mC) : Nat → Nat → Bool := x_wy C.2.1
def c_D (C : mC) (v f k x : Nat) : Nat := m_ds (c_wy C) (c_nx C v f) k (x % 8) (x / 8)

set_option maxRecDepth 20000 in
theorem s_nextOf {x p e : Nat} {sp : Nat → Nat} {Q : zQ} {μ : zMu} {τ : Int64} (hs : m_sp μ sp) (he : e < 256) (hx : x < 2048) (hp : p < 8) (h : Q (some (.int (nI (8 * x_nx sp e (x / 8) p + p)))) μ τ) : Zc 0 yX11_nextOf cX11_nextOf 5 (some .int) [.ref 61, .int (nI x), .int (nI p), .int (nI e)] μ τ Q := by
  refine Zc.mk 1 [.ref 61, .int (nI x), .int (nI p), .int (nI e), .null] rfl (by decide) (Nat.le_of_ble_eq_true rfl) ?_
  have hs8 := hs (x / 8) (by omega)
  refine Zw_aload_0 dX11_nextOf_0 ?_
  refine Zw_getr 69 lf_X11_35 dX11_nextOf_1 (by first | decide | assumption | omega) (by first | rfl | assumption) (by rfl) ?_
  refine Zw_iload_1 dX11_nextOf_4 ?_
  refine Zw_bipush (v := 8) dX11_nextOf_5 (by decide) ?_
  refine Zw_ndiv (x) (8) dX11_nextOf_7 rfl rfl (by omega) (by omega) (by omega) ?_
  refine Zw_ialdnv ((x / 8)) (nI (sp (x / 8))) dX11_nextOf_8 (by first | decide | assumption | omega) (by first | rfl | assumption) rfl (by omega) (by decide) hs8.1 ?_
  refine Zw_istore_4 dX11_nextOf_9 rfl ?_
  refine Zw_bipush (v := 8) dX11_nextOf_11 (by decide) ?_
  refine Zw_iload_4 dX11_nextOf_13 ?_
  refine Zw_iload_3 dX11_nextOf_15 ?_
  refine Zw_iload_2 dX11_nextOf_16 ?_
  refine Zw_ishr dX11_nextOf_17 ?_
  refine Zw_iconst (v := 1) dX11_nextOf_18 (by decide) ?_
  refine Zw_iand dX11_nextOf_19 ?_
  refine Zw_iload_2 dX11_nextOf_20 ?_
  refine Zw_ishl dX11_nextOf_21 ?_
  refine Zw_iconst (v := (-1)) dX11_nextOf_22 (by decide) ?_
  refine Zw_ixor dX11_nextOf_23 ?_
  refine Zw_iand dX11_nextOf_24 ?_
  rw [m_bitE p hp e he, h_left_eq hs8.2 he hp]
  refine Zw_nmul (8) ((h_left (sp (x / 8)) e p)) dX11_nextOf_25 rfl rfl ?_
  refine Zw_iload_2 dX11_nextOf_26 ?_
  refine Zw_nadd ((8 * (h_left (sp (x / 8)) e p))) (p) dX11_nextOf_27 rfl rfl ?_
  refine Zw_ireturn dX11_nextOf_28 (by first | rfl | assumption) ?_
  exact h
set_option maxRecDepth 20000 in
theorem l_comes {Q : zQ} {μ : zMu} {τ : Int64} {x v e : Nat} {sp V : Nat → Nat} {ln : Nat → Int32} {R : Bool} (hs : m_sp μ sp) (he : e < 256) (hx : x < 2048) (hl : ∀ a, a < 8 → μ 66 a = ln a ∧ r8 (ln a)) (hV : ∀ y, y < 2048 → μ 70 y = nI (V y)) (hVb : ∀ y, V y ≤ 1000000) (hv : v < 1000) (h1 : R = true → Q (some (.int 1)) μ τ) (h0 : R = false → Q (some (.int 0)) μ τ) : ∀ m i, 8 - i < m → i ≤ 8 → m_ex (fun p => x_wy ln (x % 8) p && decide (V (8 * x_nx sp e (x / 8) p + p) = v)) (8 - i) i = R → Zw 1 RX11 cX11_comesBy 6 (some .boolean) Q 21 [.ref 61, .int (nI x), .int (nI (v + 1)), .int (nI e), .int (ln (x % 8) ||| q_bit (x % 8)), .int (nI i)] [] μ τ
  | 0, i, hm, _, _ => absurd hm (by omega)
  | m + 1, i, hm, hi, hR => by
    have hwr : r8 (ln (x % 8) ||| q_bit (x % 8)) := r8_or (hl _ (by omega)).2 (r8_bit _ (by omega))
    have hnl : x_nx sp e (x / 8) i < 256 := h_left_lt (hs (x / 8) (by omega)).2
    have hVi := hVb (8 * x_nx sp e (x / 8) i + i)
    refine Zw_iload_5 dX11_comesBy_21 ?_
    refine Zw_bipush (v := 8) dX11_comesBy_23 (by decide) ?_
    refine Zw_nicmp_ge (i) (8) 66 dX11_comesBy_25 (by decide) rfl rfl (by omega) (by omega) (fun c25 => ?_) (fun c25 => ?_)
    · refine Zw_iconst (v := 0) dX11_comesBy_66 (by decide) ?_
      refine Zw_ireturn dX11_comesBy_67 (by first | rfl | assumption) ?_
      rw [show 8 - i = 0 by omega] at hR
      exact h0 hR.symm
    · refine Zw_iload_4 dX11_comesBy_28 ?_
      refine Zw_iload_5 dX11_comesBy_30 ?_
      refine Zw_ishr dX11_comesBy_32 ?_
      refine Zw_iconst (v := 1) dX11_comesBy_33 (by decide) ?_
      refine Zw_iand dX11_comesBy_34 ?_
      refine Zw_iconst (v := 1) dX11_comesBy_35 (by decide) ?_
      refine Zw_icmp_ne 60 dX11_comesBy_36 (by decide) (fun c36 => ?_) (fun c36 => ?_)
      · refine Zw_iinc_5 dX11_comesBy_60 rfl (zincn _) ?_
        refine Zw_goto 21 dX11_comesBy_63 (by decide) ?_
        have hg : (x_wy ln (x % 8) i && decide (V (8 * x_nx sp e (x / 8) i + i) = v)) = false := by rw [Bool.and_eq_false_iff]; exact Or.inl (by cases hq : x_wy ln (x % 8) i; rfl; exact absurd ((r8_h1 hwr (by omega)).mpr hq) c36)
        rw [show 8 - i = (8 - (i + 1)) + 1 by omega, m_ex_s, hg, if_neg (by simp)] at hR
        exact l_comes hs he hx hl hV hVb hv h1 h0 m (i + 1) (by omega) (by omega) hR
      · refine Zw_aload_0 dX11_comesBy_39 ?_
        refine Zw_getr 70 lf_X11_38 dX11_comesBy_40 (by first | decide | assumption | omega) (by first | rfl | assumption) (by rfl) ?_
        refine Zw_aload_0 dX11_comesBy_43 ?_
        refine Zw_iload_1 dX11_comesBy_44 ?_
        refine Zw_iload_5 dX11_comesBy_45 ?_
        refine Zw_iload_3 dX11_comesBy_47 ?_
        refine Zw_V3 (k := 0) lm_X11_358 dX11_comesBy_48 (by decide) (by first | decide | assumption | omega) (by first | rfl | assumption) (by rfl) (Nat.le_of_ble_eq_true rfl) ?_
        refine s_nextOf hs he hx (by omega) ?_
        refine Zw_ialdnv ((8 * x_nx sp e (x / 8) i + i)) (nI (V (8 * x_nx sp e (x / 8) i + i))) dX11_comesBy_51 (by first | decide | assumption | omega) (by first | rfl | assumption) rfl (by omega) (by decide) (hV _ (by omega)) ?_
        refine Zw_iload_2 dX11_comesBy_52 ?_
        refine Zw_iconst (v := 1) dX11_comesBy_53 (by decide) ?_
        refine Zw_nsub ((v + 1)) (1) dX11_comesBy_54 rfl rfl (by omega) ?_
        rw [show v + 1 - 1 = v by omega]
        refine Zw_nicmp_ne ((V (8 * x_nx sp e (x / 8) i + i))) (v) 60 dX11_comesBy_55 (by decide) rfl rfl (by omega) (by omega) (fun c55 => ?_) (fun c55 => ?_)
        · refine Zw_iinc_5 dX11_comesBy_60 rfl (zincn _) ?_
          refine Zw_goto 21 dX11_comesBy_63 (by decide) ?_
          have hg : (x_wy ln (x % 8) i && decide (V (8 * x_nx sp e (x / 8) i + i) = v)) = false := by rw [Bool.and_eq_false_iff]; exact Or.inr (decide_eq_false c55)
          rw [show 8 - i = (8 - (i + 1)) + 1 by omega, m_ex_s, hg, if_neg (by simp)] at hR
          exact l_comes hs he hx hl hV hVb hv h1 h0 m (i + 1) (by omega) (by omega) hR
        · refine Zw_iconst (v := 1) dX11_comesBy_58 (by decide) ?_
          refine Zw_ireturn dX11_comesBy_59 (by first | rfl | assumption) ?_
          have hg : (x_wy ln (x % 8) i && decide (V (8 * x_nx sp e (x / 8) i + i) = v)) = true := by rw [Bool.and_eq_true]; exact ⟨(r8_h1 hwr (by omega)).mp c36, decide_eq_true c55⟩
          rw [show 8 - i = (8 - (i + 1)) + 1 by omega, m_ex_s, if_pos hg] at hR
          exact h1 hR.symm
set_option maxRecDepth 20000 in
theorem s_comes {x v e : Nat} {sp V : Nat → Nat} {ln : Nat → Int32} {Q : zQ} {μ : zMu} {τ : Int64} (hs : m_sp μ sp) (he : e < 256) (hx : x < 2048) (hl : ∀ a, a < 8 → μ 66 a = ln a ∧ r8 (ln a)) (hV : ∀ y, y < 2048 → μ 70 y = nI (V y)) (hVb : ∀ y, V y ≤ 1000000) (hv : v < 1000) (h1 : m_ex (fun p => x_wy ln (x % 8) p && decide (V (8 * x_nx sp e (x / 8) p + p) = v)) 8 0 = true → Q (some (.int 1)) μ τ) (h0 : m_ex (fun p => x_wy ln (x % 8) p && decide (V (8 * x_nx sp e (x / 8) p + p) = v)) 8 0 = false → Q (some (.int 0)) μ τ) : Zc 1 yX11_comesBy cX11_comesBy 6 (some .boolean) [.ref 61, .int (nI x), .int (nI (v + 1)), .int (nI e)] μ τ Q := by
  refine Zc.mk 2 [.ref 61, .int (nI x), .int (nI (v + 1)), .int (nI e), .null, .null] rfl (by decide) (Nat.le_of_ble_eq_true rfl) ?_
  refine Zw_aload_0 dX11_comesBy_0 ?_
  refine Zw_getr 66 lf_X11_26 dX11_comesBy_1 (by first | decide | assumption | omega) (by first | rfl | assumption) (by rfl) ?_
  refine Zw_iload_1 dX11_comesBy_4 ?_
  refine Zw_bipush (v := 8) dX11_comesBy_5 (by decide) ?_
  refine Zw_nrem (x) (8) dX11_comesBy_7 rfl rfl (by omega) (by omega) (by omega) ?_
  refine Zw_ialdnv ((x % 8)) (ln (x % 8)) dX11_comesBy_8 (by first | decide | assumption | omega) (by first | rfl | assumption) rfl (by omega) (by decide) (hl _ (by omega)).1 ?_
  refine Zw_iconst (v := 1) dX11_comesBy_9 (by decide) ?_
  refine Zw_iload_1 dX11_comesBy_10 ?_
  refine Zw_bipush (v := 8) dX11_comesBy_11 (by decide) ?_
  refine Zw_nrem (x) (8) dX11_comesBy_13 rfl rfl (by omega) (by omega) (by omega) ?_
  refine Zw_ishl dX11_comesBy_14 ?_
  refine Zw_ior dX11_comesBy_15 ?_
  refine Zw_istore_4 dX11_comesBy_16 rfl ?_
  refine Zw_iconst (v := 0) dX11_comesBy_18 (by decide) ?_
  refine Zw_istore_5 dX11_comesBy_19 rfl ?_
  exact l_comes hs he hx hl hV hVb hv h1 h0 9 0 (by omega) (by omega) rfl
theorem nOff.fr {S : List Nat} {a b : zMu} (h : nOff S a b) {k : Nat} (hk : k ≠ 61) (hS : k ∉ S) : b k = a k := h.1 k (by simp; exact ⟨hk, hS⟩)
theorem c_D_le (C : mC) (v f k x : Nat) : c_D C v f k x ≤ k ∨ c_D C v f k x = 1000000 := m_ds_le _ _ _ _ _
theorem c_D_b {C : mC} {v f k x : Nat} (hk : k < 1000) : c_D C v f k x ≤ 1000000 := by rcases c_D_le C v f k x with h | h <;> omega
theorem c_D_at {C : mC} {v f k a S : Nat} (ha : a < 8) : c_D C v f k (8 * S + a) = m_ds (c_wy C) (c_nx C v f) k a S := by
  unfold c_D
  rw [show (8 * S + a) % 8 = a by omega, show (8 * S + a) / 8 = S by omega]
theorem m_ex_cg {g g' : Nat → Bool} : ∀ {m i : Nat}, (∀ p, i ≤ p → p < i + m → g p = g' p) → m_ex g m i = m_ex g' m i
  | 0, _, _ => rfl
  | m + 1, i, h => by rw [m_ex_s, m_ex_s, h i (by omega) (by omega), m_ex_cg (fun p h1 h2 => h p (by omega) (by omega))]
set_option maxRecDepth 20000 in
theorem l_cn5 {Q : zQ} {μ0 : zMu} {τ : Int64} {C : mC} {w f v : Nat} {fi : Int32} (hc : m_cx C w μ0) (hf : f < cN C) (hs : m_sp μ0 (c_sp C w)) (hv : v < 40) (K : ∀ (b : Int32) μ2, nOff [70] μ0 μ2 → (∀ x, x < 2048 → μ2 70 x = nI (c_D C w f (v + 1) x)) → (b = 0 → ∀ x, x < 2048 → c_D C w f (v + 1) x = c_D C w f v x) → Zw 45 RX11 cX11_counts 6 none Q 125 [.ref 61, .int fi, .int (nI (c_eye C w f)), .int b, .int (nI (v + 1 + 1)), .null] [] μ2 τ) : ∀ m x b μ, 2048 - x < m → 8 ≤ x → x ≤ 2048 → nOff [70] μ0 μ → (∀ y, y < 2048 → μ 70 y = nI (if y < x then c_D C w f (v + 1) y else c_D C w f v y)) → (b = 0 → ∀ y, y < x → c_D C w f (v + 1) y = c_D C w f v y) → Zw 45 RX11 cX11_counts 6 none Q 142 [.ref 61, .int fi, .int (nI (c_eye C w f)), .int b, .int (nI (v + 1)), .int (nI x)] [] μ τ
  | 0, x, _, _, hm, _, _, _, _, _ => absurd hm (by omega)
  | m + 1, x, b, μ, hm, hx8, hx, hO, hI, hb => by
    have he := (c_eye_of C w f).2
    have hDb := c_D_b (C := C) (v := w) (f := f) (k := v) (x := x) (by omega)
    refine Zw_iload_5 dX11_counts_142 ?_
    refine Zw_sipush (v := 2048) dX11_counts_144 (by decide) ?_
    refine Zw_nicmp_ge (x) (2048) 192 dX11_counts_147 (by decide) rfl rfl (by omega) (by omega) (fun c147 => ?_) (fun c147 => ?_)
    · refine Zw_iinc_4 dX11_counts_192 rfl (zincn _) ?_
      refine Zw_goto 125 dX11_counts_195 (by decide) ?_
      obtain rfl : x = 2048 := by omega
      refine Zw_drop (L' := [.ref 61, .int fi, .int (nI (c_eye C w f)), .int b, .int (nI (v + 1 + 1)), .null]) ⟨Or.inr rfl, Or.inr rfl, Or.inr rfl, Or.inr rfl, Or.inr rfl, Or.inl rfl, trivial⟩ (Nat.le_of_ble_eq_true rfl) ?_
      exact K b μ hO (fun y hy => by rw [hI y hy, if_pos hy]) hb
    · refine Zw_aload_0 dX11_counts_150 ?_
      refine Zw_getr 70 lf_X11_38 dX11_counts_151 (by first | decide | assumption | omega) (by first | rfl | assumption) (by rfl) ?_
      refine Zw_iload_5 dX11_counts_154 ?_
      refine Zw_ialdnv (x) (nI (c_D C w f v x)) dX11_counts_156 (by first | decide | assumption | omega) (by first | rfl | assumption) rfl (by omega) (by decide) (by rw [hI x (by omega), if_neg (by omega)]) ?_
      refine Zw_ldcw dX11_counts_157 zw2 ?_
      have hsx : m_sp μ (c_sp C w) := fun S hS => by rw [hO.fr (by decide) (by simp)]; exact hs S hS
      have hlx : ∀ a, a < 8 → μ 66 a = C.2.1 a ∧ r8 (C.2.1 a) := fun a ha => by rw [hO.fr (by decide) (by simp)]; obtain ⟨q1, q2⟩ := hc.ln ha; exact ⟨q1, by rw [← q1]; exact q2⟩
      have hex : m_ex (fun p => c_wy C (x % 8) p && decide (m_ds (c_wy C) (c_nx C w f) v p (c_nx C w f (x / 8) p) = v)) 8 0 = m_ex (fun p => x_wy C.2.1 (x % 8) p && decide ((if 8 * x_nx (c_sp C w) (c_eye C w f) (x / 8) p + p < x then c_D C w f (v + 1) (8 * x_nx (c_sp C w) (c_eye C w f) (x / 8) p + p) else c_D C w f v (8 * x_nx (c_sp C w) (c_eye C w f) (x / 8) p + p)) = v)) 8 0 := by
        refine m_ex_cg (fun p _ hp => ?_)
        congr 1
        apply decide_eq_decide.mpr
        split
        · rw [c_D_at (by omega)]; exact (m_ds_same _ _ (by omega)).symm
        · rw [c_D_at (by omega)]
      refine Zw_nicmp_ne ((c_D C w f v x)) (1000000) 186 dX11_counts_160 (by decide) rfl rfl (by omega) (by omega) (fun c160 => ?_) (fun c160 => ?_)
      · refine Zw_iinc_5 dX11_counts_186 rfl (zincn _) ?_
        refine Zw_goto 142 dX11_counts_189 (by decide) ?_
        have hd : c_D C w f (v + 1) x = c_D C w f v x := by unfold c_D; rw [m_ds_s, if_neg (fun e => c160 e.1)]
        refine l_cn5 hc hf hs hv K m (x + 1) b μ (by omega) (by omega) (by omega) hO (fun y hy => ?_) (fun e y hy => ?_)
        · rw [hI y hy]
          by_cases hlt : y < x
          · rw [if_pos hlt, if_pos (by omega)]
          · rw [if_neg hlt]
            by_cases hyx : y = x
            · subst hyx; rw [if_pos (by omega), hd]
            · rw [if_neg (by omega)]
        · by_cases hyx : y = x
          · subst hyx; exact hd
          · exact hb e y (by omega)
      · refine Zw_aload_0 dX11_counts_163 ?_
        refine Zw_iload_5 dX11_counts_164 ?_
        refine Zw_iload_4 dX11_counts_166 ?_
        refine Zw_iload_2 dX11_counts_168 ?_
        refine Zw_V3 (k := 1) lm_X11_354 dX11_counts_169 (by decide) (by first | decide | assumption | omega) (by first | rfl | assumption) (by rfl) (Nat.le_of_ble_eq_true rfl) ?_
        refine s_comes (V := fun y => if y < x then c_D C w f (v + 1) y else c_D C w f v y) hsx he (by omega) hlx hI (fun y => by show (if y < x then c_D C w f (v + 1) y else c_D C w f v y) ≤ 1000000; split <;> exact c_D_b (by omega)) (by omega) (fun g1 => ?_) (fun g0 => ?_)
        · refine Zw_if_eq 186 dX11_counts_172 (by decide) (fun c => absurd c (by decide)) (fun _ => ?_)
          refine Zw_aload_0 dX11_counts_175 ?_
          refine Zw_getr 70 lf_X11_38 dX11_counts_176 (by first | decide | assumption | omega) (by first | rfl | assumption) (by rfl) ?_
          refine Zw_iload_5 dX11_counts_179 ?_
          refine Zw_iload_4 dX11_counts_181 ?_
          refine Zw_iastn (x) dX11_counts_183 (by first | decide | assumption | omega) (by first | rfl | assumption) rfl (by omega) (by decide) ?_
          refine Zw_iconst (v := 1) dX11_counts_184 (by decide) ?_
          refine Zw_istore_3 dX11_counts_185 rfl ?_
          refine Zw_iinc_5 dX11_counts_186 rfl (zincn _) ?_
          refine Zw_goto 142 dX11_counts_189 (by decide) ?_
          have hd : c_D C w f (v + 1) x = v + 1 := by unfold c_D; rw [m_ds_s, if_pos]; exact ⟨c160, by rw [hex]; exact g1⟩
          refine l_cn5 hc hf hs hv K m (x + 1) 1 (zup μ 70 x (nI (v + 1))) (by omega) (by omega) (by omega) (hO.st (by simp) (by decide)) (fun y hy => ?_) (fun e => absurd e (by decide))
          rw [zup_at]
          by_cases hyx : y = x
          · subst hyx; rw [if_pos ⟨rfl, rfl⟩, if_pos (by omega), hd]
          · rw [if_neg (by omega), hI y hy]
            by_cases hlt : y < x
            · rw [if_pos hlt, if_pos (by omega)]
            · rw [if_neg hlt, if_neg (by omega)]
        · refine Zw_if_eq 186 dX11_counts_172 (by decide) (fun _ => ?_) (fun c => absurd c (by decide))
          refine Zw_iinc_5 dX11_counts_186 rfl (zincn _) ?_
          refine Zw_goto 142 dX11_counts_189 (by decide) ?_
          have hd : c_D C w f (v + 1) x = c_D C w f v x := by unfold c_D; rw [m_ds_s, if_neg]; rintro ⟨_, e2⟩; rw [hex] at e2; rw [e2] at g0; cases g0
          refine l_cn5 hc hf hs hv K m (x + 1) b μ (by omega) (by omega) (by omega) hO (fun y hy => ?_) (fun e y hy => ?_)
          · rw [hI y hy]
            by_cases hlt : y < x
            · rw [if_pos hlt, if_pos (by omega)]
            · rw [if_neg hlt]
              by_cases hyx : y = x
              · subst hyx; rw [if_pos (by omega), hd]
              · rw [if_neg (by omega)]
          · by_cases hyx : y = x
            · subst hyx; exact hd
            · exact hb e y (by omega)
set_option maxRecDepth 20000 in
theorem l_cn4 {Q : zQ} {μ0 : zMu} {τ : Int64} {C : mC} {w f : Nat} {fi : Int32} (hc : m_cx C w μ0) (hf : f < cN C) (hs : m_sp μ0 (c_sp C w)) (K : ∀ μ2, nOff [70] μ0 μ2 → (∀ x, x < 2048 → μ2 70 x = nI (c_D C w f 40 x)) → Q none μ2 τ) : ∀ m v b μ, 40 - v < m → v ≤ 40 → nOff [70] μ0 μ → (∀ y, y < 2048 → μ 70 y = nI (c_D C w f v y)) → (b = 0 → ∀ y, y < 2048 → c_D C w f 40 y = c_D C w f v y) → Zw 45 RX11 cX11_counts 6 none Q 125 [.ref 61, .int fi, .int (nI (c_eye C w f)), .int b, .int (nI (v + 1)), .null] [] μ τ
  | 0, v, _, _, hm, _, _, _, _ => absurd hm (by omega)
  | m + 1, v, b, μ, hm, hv, hO, hI, hb => by
    refine Zw_iload_4 dX11_counts_125 ?_
    refine Zw_bipush (v := 40) dX11_counts_127 (by decide) ?_
    refine Zw_nicmp_gt ((v + 1)) (40) 198 dX11_counts_129 (by decide) rfl rfl (by omega) (by omega) (fun c129 => ?_) (fun c129 => ?_)
    · refine Zw_return dX11_counts_198 ?_
      obtain rfl : v = 40 := by omega
      exact K _ hO hI
    · refine Zw_iload_3 dX11_counts_132 ?_
      refine Zw_if_eq 198 dX11_counts_133 (by decide) (fun c133 => ?_) (fun c133 => ?_)
      · refine Zw_return dX11_counts_198 ?_
        exact K _ hO (fun x hx => by rw [hI x hx, hb c133 x hx])
      · refine Zw_iconst (v := 0) dX11_counts_136 (by decide) ?_
        refine Zw_istore_3 dX11_counts_137 rfl ?_
        refine Zw_bipush (v := 8) dX11_counts_138 (by decide) ?_
        refine Zw_istore_5 dX11_counts_140 rfl ?_
        refine l_cn5 (hc.off hO (by simp)) hf (fun S hS => by rw [hO.fr (by decide) (by simp)]; exact hs S hS) (by omega) (fun b2 μ2 o2 i2 e2 => ?_) 2041 8 0 μ (by omega) (by omega) (by omega) (nOff.refl _ _) (fun y hy => ?_) (fun _ y hy => ?_)
        · refine l_cn4 hc hf hs K m (v + 1) b2 μ2 (by omega) (by omega) (hO.tr o2) i2 (fun eb y hy => ?_)
          have hst := m_ds_stop (c_nx_lt C w f) (v := v) (wy := c_wy C) (fun a S ha hS => by rw [← c_D_at ha, ← c_D_at ha]; exact e2 eb _ (by omega)) (39 - v) (by omega) (y % 8) (y / 8) (by omega) (by omega)
          rw [show v + 1 + (39 - v) = 40 by omega] at hst
          exact hst
        · rw [hI y hy]
          by_cases hlt : y < 8
          · rw [if_pos hlt]
            unfold c_D
            rw [show y / 8 = 0 by omega, m_ds_0, m_ds_0]
          · rw [if_neg hlt]
        · unfold c_D
          rw [show y / 8 = 0 by omega, m_ds_0, m_ds_0]
set_option maxRecDepth 20000 in
theorem l_cn3 {Q : zQ} {μ0 : zMu} {τ : Int64} {C : mC} {w f : Nat} {fi : Int32} (hc : m_cx C w μ0) (hf : f < cN C) (hs : m_sp μ0 (c_sp C w)) (K : ∀ μ2, nOff [70] μ0 μ2 → (∀ x, x < 2048 → μ2 70 x = nI (c_D C w f 40 x)) → Q none μ2 τ) : ∀ m i μ, 2048 - i < m → i ≤ 2048 → nOff [70] μ0 μ → (∀ y, y < i → μ 70 y = nI (c_D C w f 0 y)) → Zw 45 RX11 cX11_counts 6 none Q 88 [.ref 61, .int fi, .int (nI (c_eye C w f)), .int (nI i), .null, .null] [] μ τ
  | 0, i, _, hm, _, _, _ => absurd hm (by omega)
  | m + 1, i, μ, hm, hi, hO, hI => by
    refine Zw_iload_3 dX11_counts_88 ?_
    refine Zw_sipush (v := 2048) dX11_counts_89 (by decide) ?_
    refine Zw_nicmp_ge (i) (2048) 120 dX11_counts_92 (by decide) rfl rfl (by omega) (by omega) (fun c92 => ?_) (fun c92 => ?_)
    · refine Zw_iconst (v := 1) dX11_counts_120 (by decide) ?_
      refine Zw_istore_3 dX11_counts_121 rfl ?_
      refine Zw_iconst (v := 1) dX11_counts_122 (by decide) ?_
      refine Zw_istore_4 dX11_counts_123 rfl ?_
      obtain rfl : i = 2048 := by omega
      exact l_cn4 hc hf hs K 41 0 1 μ (by omega) (by omega) hO hI (fun e => absurd e (by decide))
    · refine Zw_aload_0 dX11_counts_95 ?_
      refine Zw_getr 70 lf_X11_38 dX11_counts_96 (by first | decide | assumption | omega) (by first | rfl | assumption) (by rfl) ?_
      refine Zw_iload_3 dX11_counts_99 ?_
      refine Zw_iload_3 dX11_counts_100 ?_
      refine Zw_bipush (v := 8) dX11_counts_101 (by decide) ?_
      refine Zw_nicmp_ge (i) (8) 110 dX11_counts_103 (by decide) rfl rfl (by omega) (by omega) (fun c103 => ?_) (fun c103 => ?_)
      · refine Zw_ldcw dX11_counts_110 zw2 ?_
        refine Zw_iastn (i) dX11_counts_113 (by first | decide | assumption | omega) (by first | rfl | assumption) rfl (by omega) (by decide) ?_
        refine Zw_iinc_3 dX11_counts_114 rfl (zincn _) ?_
        refine Zw_goto 88 dX11_counts_117 (by decide) ?_
        refine l_cn3 hc hf hs K m (i + 1) _ (by omega) (by omega) (hO.st (by simp) (by decide)) (fun y hy => ?_)
        rw [zup_at]
        by_cases e : y = i
        · subst e
          rw [if_pos ⟨rfl, rfl⟩]
          unfold c_D
          show _ = nI (if y / 8 = 0 then 0 else 1000000)
          rw [if_neg (by omega)]
          rfl
        · rw [if_neg (by omega)]; exact hI y (by omega)
      · refine Zw_iconst (v := 0) dX11_counts_106 (by decide) ?_
        refine Zw_goto 113 dX11_counts_107 (by decide) ?_
        refine Zw_iastn (i) dX11_counts_113 (by first | decide | assumption | omega) (by first | rfl | assumption) rfl (by omega) (by decide) ?_
        refine Zw_iinc_3 dX11_counts_114 rfl (zincn _) ?_
        refine Zw_goto 88 dX11_counts_117 (by decide) ?_
        refine l_cn3 hc hf hs K m (i + 1) _ (by omega) (by omega) (hO.st (by simp) (by decide)) (fun y hy => ?_)
        rw [zup_at]
        by_cases e : y = i
        · subst e
          rw [if_pos ⟨rfl, rfl⟩]
          unfold c_D
          show _ = nI (if y / 8 = 0 then 0 else 1000000)
          rw [if_pos (by omega)]
          rfl
        · rw [if_neg (by omega)]; exact hI y (by omega)
set_option maxRecDepth 20000 in
theorem l_cn2 {Q : zQ} {μ0 : zMu} {τ : Int64} {C : mC} {w f : Nat} {fi : Int32} (hc : m_cx C w μ0) (hf : f < cN C) (K : ∀ μ2, nOff [69, 70] μ0 μ2 → m_sp μ2 (c_sp C w) → (∀ x, x < 2048 → μ2 70 x = nI (c_D C w f 40 x)) → Q none μ2 τ) : ∀ m i μ, 256 - i < m → 1 ≤ i → i ≤ 256 → nOff [69] μ0 μ → (∀ S, S < i → μ 69 S = q_spread (c_mv C w) (nI S)) → (∀ q, q < 8 → i ≤ 2 ^ q → μ 69 (2 ^ q) = c_mv C w q) → Zw 45 RX11 cX11_counts 6 none Q 42 [.ref 61, .int fi, .int (nI (c_eye C w f)), .int (nI i), .null, .null] [] μ τ
  | 0, i, _, hm, _, _, _, _, _ => absurd hm (by omega)
  | m + 1, i, μ, hm, h1, hi, hO, hI, hJ => by
    refine Zw_iload_3 dX11_counts_42 ?_
    refine Zw_sipush (v := 256) dX11_counts_43 (by decide) ?_
    refine Zw_nicmp_ge (i) (256) 86 dX11_counts_46 (by decide) rfl rfl (by omega) (by omega) (fun c46 => ?_) (fun c46 => ?_)
    · refine Zw_iconst (v := 0) dX11_counts_86 (by decide) ?_
      refine Zw_istore_3 dX11_counts_87 rfl ?_
      obtain rfl : i = 256 := by omega
      have hs : m_sp μ (c_sp C w) := fun S hS => by rw [hI S hS]; exact c_sp_of C w S
      exact l_cn3 (hc.off hO (by simp)) hf hs (fun μ2 o2 i2 => K μ2 ((hO.sub (by simp)).tr (o2.sub (by simp))) (fun S hS => by rw [o2.fr (by decide) (by simp)]; exact hs S hS) i2) 2049 0 μ (by omega) (by omega) (nOff.refl _ _) (fun y hy => absurd hy (by omega))
    · obtain ⟨l1, l2, l3, l4, l4p, l5⟩ := lowp_all i (by omega) (by omega)
      have hmv : ∀ p, p < 8 → r8 (c_mv C w p) := fun p hp => r8_mv C w hp
      have hlow : μ 69 (2 ^ lowp i) = c_mv C w (lowp i) := by
        rcases Nat.lt_or_ge (2 ^ lowp i) i with hlt | hge
        · rw [hI _ hlt]; exact q_spread_p2 hmv l1
        · exact hJ _ l1 hge
      have hrest := hI (i - 2 ^ lowp i) (by omega)
      refine Zw_iload_3 dX11_counts_49 ?_
      refine Zw_iload_3 dX11_counts_50 ?_
      refine Zw_ineg dX11_counts_51 ?_
      refine Zw_iand dX11_counts_52 ?_
      rw [l2]
      refine Zw_istore_4 dX11_counts_53 rfl ?_
      refine Zw_aload_0 dX11_counts_55 ?_
      refine Zw_getr 69 lf_X11_35 dX11_counts_56 (by first | decide | assumption | omega) (by first | rfl | assumption) (by rfl) ?_
      refine Zw_iload_3 dX11_counts_59 ?_
      refine Zw_aload_0 dX11_counts_60 ?_
      refine Zw_getr 69 lf_X11_35 dX11_counts_61 (by first | decide | assumption | omega) (by first | rfl | assumption) (by rfl) ?_
      refine Zw_iload_4 dX11_counts_64 ?_
      refine Zw_ialdnv ((2 ^ lowp i)) (c_mv C w (lowp i)) dX11_counts_66 (by first | decide | assumption | omega) (by first | rfl | assumption) rfl (by omega) (by decide) hlow ?_
      refine Zw_aload_0 dX11_counts_67 ?_
      refine Zw_getr 69 lf_X11_35 dX11_counts_68 (by first | decide | assumption | omega) (by first | rfl | assumption) (by rfl) ?_
      refine Zw_iload_3 dX11_counts_71 ?_
      refine Zw_iload_4 dX11_counts_72 ?_
      refine Zw_iconst (v := (-1)) dX11_counts_74 (by decide) ?_
      refine Zw_ixor dX11_counts_75 ?_
      refine Zw_iand dX11_counts_76 ?_
      rw [l3]
      refine Zw_ialdnv ((i - 2 ^ lowp i)) (q_spread (c_mv C w) (nI (i - 2 ^ lowp i))) dX11_counts_77 (by first | decide | assumption | omega) (by first | rfl | assumption) rfl (by omega) (by decide) hrest ?_
      refine Zw_ior dX11_counts_78 ?_
      refine Zw_iastn (i) dX11_counts_79 (by first | decide | assumption | omega) (by first | rfl | assumption) rfl (by omega) (by decide) ?_
      refine Zw_iinc_3 dX11_counts_80 rfl (zincn _) ?_
      refine Zw_goto 42 dX11_counts_83 (by decide) ?_
      refine Zw_drop (L' := [.ref 61, .int fi, .int (nI (c_eye C w f)), .int (nI (i + 1)), .null, .null]) ⟨Or.inr rfl, Or.inr rfl, Or.inr rfl, Or.inr rfl, Or.inl rfl, Or.inl rfl, trivial⟩ (Nat.le_of_ble_eq_true rfl) ?_
      rw [q_spread_low hmv (by omega) (by omega)]
      refine l_cn2 hc hf K m (i + 1) _ (by omega) (by omega) (by omega) (hO.st (by simp) (by decide)) (fun S hS => ?_) (fun q hq hle => ?_)
      · rw [zup_at]
        by_cases e : S = i
        · subst e; rw [if_pos ⟨rfl, rfl⟩]
        · rw [if_neg (by omega)]; exact hI S (by omega)
      · rw [zup_at, if_neg (by omega)]; exact hJ q hq (by omega)
theorem p2_inj : ∀ p, p < 8 → ∀ q, q < 8 → 2 ^ p = 2 ^ q → p = q := by decide +kernel
theorem p2_pos : ∀ p, p < 8 → 0 < 2 ^ p := by decide +kernel
set_option maxRecDepth 20000 in
theorem l_cn1 {Q : zQ} {μ0 : zMu} {C : mC} {w f : Nat} {fi : Int32} (hc : m_cx C w μ0) (hf : f < cN C) (K : ∀ μ2 τ2, nOff [69, 70] μ0 μ2 → m_sp μ2 (c_sp C w) → (∀ x, x < 2048 → μ2 70 x = nI (c_D C w f 40 x)) → Q none μ2 τ2) : ∀ m i μ τ, 8 - i < m → i ≤ 8 → nOff [69] μ0 μ → (∀ q, q < i → μ 69 (2 ^ q) = c_mv C w q) → Zw 45 RX11 cX11_counts 6 none Q 8 [.ref 61, .int fi, .int (nI (c_eye C w f)), .int (nI i), .null, .null] [] μ τ
  | 0, i, _, _, hm, _, _, _ => absurd hm (by omega)
  | m + 1, i, μ, τ, hm, hi, hO, hI => by
    refine Zw_iload_3 dX11_counts_8 ?_
    refine Zw_bipush (v := 8) dX11_counts_9 (by decide) ?_
    refine Zw_nicmp_ge (i) (8) 33 dX11_counts_11 (by decide) rfl rfl (by omega) (by omega) (fun c11 => ?_) (fun c11 => ?_)
    · refine Zw_aload_0 dX11_counts_33 ?_
      refine Zw_getr 69 lf_X11_35 dX11_counts_34 (by first | decide | assumption | omega) (by first | rfl | assumption) (by rfl) ?_
      refine Zw_iconst (v := 0) dX11_counts_37 (by decide) ?_
      refine Zw_iconst (v := 0) dX11_counts_38 (by decide) ?_
      refine Zw_iastn (0) dX11_counts_39 (by first | decide | assumption | omega) (by first | rfl | assumption) rfl (by omega) (by decide) ?_
      refine Zw_iconst (v := 1) dX11_counts_40 (by decide) ?_
      refine Zw_istore_3 dX11_counts_41 rfl ?_
      obtain rfl : i = 8 := by omega
      refine l_cn2 (hc.off hO (by simp)) hf (fun μ2 o2 s2 i2 => K μ2 τ ((hO.sub (by simp)).tr o2) s2 i2) 256 1 _ (by omega) (by omega) (by omega) ((nOff.refl _ _).st (by simp) (by decide)) (fun S hS => ?_) (fun q hq _ => ?_)
      · obtain rfl : S = 0 := by omega
        rw [zup_at, if_pos ⟨rfl, rfl⟩, nI_0, q_spread0]
      · have := p2_pos q hq
        rw [zup_at, if_neg (by omega)]; exact hI q hq
    · refine Zw_aload_0 dX11_counts_14 ?_
      refine Zw_getr 69 lf_X11_35 dX11_counts_15 (by first | decide | assumption | omega) (by first | rfl | assumption) (by rfl) ?_
      obtain ⟨hpw, hp2⟩ := m_pow i (by omega)
      refine Zw_iconst (v := 1) dX11_counts_18 (by decide) ?_
      refine Zw_iload_3 dX11_counts_19 ?_
      refine Zw_ishl dX11_counts_20 ?_
      rw [hpw]
      refine Zw_aload_0 dX11_counts_21 ?_
      refine Zw_iload_3 dX11_counts_22 ?_
      refine Zw_V1 (k := 43) lm_X11_120 dX11_counts_23 (by decide) (by first | decide | assumption | omega) (by first | rfl | assumption) (by rfl) (Nat.le_of_ble_eq_true rfl) ?_
      refine s_c_cb (hc.off hO (by simp)) (by omega) (fun μ1 τ1 o1 => ?_)
      refine Zw_iastn ((2 ^ i)) dX11_counts_26 (by first | decide | assumption | omega) (by first | rfl | assumption) rfl (by omega) (by decide) ?_
      refine Zw_iinc_3 dX11_counts_27 rfl (zincn _) ?_
      refine Zw_goto 8 dX11_counts_30 (by decide) ?_
      refine l_cn1 hc hf K m (i + 1) _ _ (by omega) (by omega) ((hO.tr (o1.sub (by simp))).st (by simp) (by decide)) (fun q hq => ?_)
      rw [zup_at]
      by_cases e : q = i
      · subst e; rw [if_pos ⟨rfl, rfl⟩]
      · rw [if_neg (fun e2 => e (p2_inj q (by omega) i (by omega) e2.2)), o1.fr (by decide) (by simp)]; exact hI q (by omega)
set_option maxRecDepth 20000 in
theorem s_counts {C : mC} {w f : Nat} {Q : zQ} {μ : zMu} {τ : Int64} (hc : m_cx C w μ) (hf : f < cN C) (K : ∀ μ2 τ2, nOff [69, 70] μ μ2 → m_sp μ2 (c_sp C w) → (∀ x, x < 2048 → μ2 70 x = nI (c_D C w f 40 x)) → Q none μ2 τ2) : Zc 45 yX11_counts cX11_counts 6 none [.ref 61, .int (nI f)] μ τ Q := by
  refine Zc.mk 4 [.ref 61, .int (nI f), .null, .null, .null, .null] rfl (by decide) (Nat.le_of_ble_eq_true rfl) ?_
  refine Zw_aload_0 dX11_counts_0 ?_
  refine Zw_iload_1 dX11_counts_1 ?_
  refine Zw_V1 (k := 44) lm_X11_117 dX11_counts_2 (by decide) (by first | decide | assumption | omega) (by first | rfl | assumption) (by rfl) (Nat.le_of_ble_eq_true rfl) ?_
  refine s_c_eyes hc hf (fun μ1 τ1 o1 => ?_)
  rw [(c_eye_of C w f).1]
  refine Zw_istore_2 dX11_counts_5 rfl ?_
  refine Zw_iconst (v := 0) dX11_counts_6 (by decide) ?_
  refine Zw_istore_3 dX11_counts_7 rfl ?_
  exact l_cn1 (hc.off o1 (by simp)) hf (fun μ2 τ2 o2 => K μ2 τ2 ((o1.sub (by simp)).tr o2)) 9 0 _ _ (by omega) (by omega) (nOff.refl _ _) (fun q hq => absurd hq (by omega))
