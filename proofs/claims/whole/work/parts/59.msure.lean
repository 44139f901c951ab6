/-! what is sure -/
def c_sf (C : mC) (w f T p : Nat) : Int32 := if c_D C w f 40 (8 * T + p) = 1000000 then -1 else nI (c_D C w f 40 (8 * T + p))
theorem c_sf_n {C : mC} {w f T p : Nat} (h : c_D C w f 40 (8 * T + p) = 1000000) : c_sf C w f T p = -1 := if_pos h
theorem c_sf_y {C : mC} {w f T p : Nat} (h : c_D C w f 40 (8 * T + p) ≤ 40) : c_sf C w f T p = nI (c_D C w f 40 (8 * T + p)) := if_neg (by omega)
def m_pk (g : Nat → Bool) : Nat → Nat → Nat
  | 0, i => i
  | m + 1, i => if g i then i else m_pk g m (i + 1)
theorem m_pk_s (g : Nat → Bool) (m i : Nat) : m_pk g (m + 1) i = if g i then i else m_pk g m (i + 1) := rfl
theorem m_pk_in {g : Nat → Bool} : ∀ {m i : Nat}, (∃ p, i ≤ p ∧ p < i + m ∧ g p = true) → i ≤ m_pk g m i ∧ m_pk g m i < i + m ∧ g (m_pk g m i) = true ∧ ∀ q, i ≤ q → q < m_pk g m i → g q = false
  | 0, i, ⟨p, h1, h2, _⟩ => by omega
  | m + 1, i, ⟨p, h1, h2, h3⟩ => by
    rw [m_pk_s]
    by_cases h : g i = true
    · rw [if_pos h]; exact ⟨by omega, by omega, h, fun q a b => by omega⟩
    · rw [if_neg h]
      have hp : i + 1 ≤ p := by
        rcases Nat.eq_or_lt_of_le h1 with e | e
        · subst e; exact absurd h3 h
        · exact e
      obtain ⟨a1, a2, a3, a4⟩ := m_pk_in (g := g) (m := m) (i := i + 1) ⟨p, hp, by omega, h3⟩
      refine ⟨by omega, by omega, a3, fun q b1 b2 => ?_⟩
      rcases Nat.eq_or_lt_of_le b1 with e | e
      · subst e; cases hg : g i; rfl; exact absurd hg h
      · exact a4 q e b2
def m_wg (wy : Nat → Nat → Bool) (nx : Nat → Nat → Nat) (D : Nat → Nat → Nat) (d a S p : Nat) : Bool := wy a p && decide (D p (nx S p) = d)
def m_wy (wy : Nat → Nat → Bool) (nx : Nat → Nat → Nat) (D : Nat → Nat → Nat) : Nat → Nat → Nat → Int32 → Int32
  | 0, _, _, acc => acc
  | d + 1, a, S, acc => m_wy wy nx D d (m_pk (m_wg wy nx D d a S) 8 0) (nx S (m_pk (m_wg wy nx D d a S) 8 0)) (10 * acc + nI (m_pk (m_wg wy nx D d a S) 8 0) + 1)
theorem m_wy_s (wy : Nat → Nat → Bool) (nx : Nat → Nat → Nat) (D : Nat → Nat → Nat) (d a S : Nat) (acc : Int32) : m_wy wy nx D (d + 1) a S acc = m_wy wy nx D d (m_pk (m_wg wy nx D d a S) 8 0) (nx S (m_pk (m_wg wy nx D d a S) 8 0)) (10 * acc + nI (m_pk (m_wg wy nx D d a S) 8 0) + 1) := rfl
theorem m_ds_dn {wy : Nat → Nat → Bool} {nx : Nat → Nat → Nat} : ∀ k a S j, k < 1000 → m_ds wy nx k a S = j + 1 → j < k → ∃ p, p < 8 ∧ wy a p = true ∧ m_ds wy nx k p (nx S p) = j
  | 0, _, _, _, _, _, h => by omega
  | k + 1, a, S, j, hk, h, hj => by
    rw [m_ds_s] at h
    by_cases hc : m_ds wy nx k a S = 1000000 ∧ m_ex (fun p => wy a p && decide (m_ds wy nx k p (nx S p) = k)) 8 0 = true
    · rw [if_pos hc] at h
      obtain rfl : k = j := by omega
      obtain ⟨p, _, hp, hg⟩ := (m_ex_iff _ _ _).mp hc.2
      rw [Bool.and_eq_true, decide_eq_true_iff] at hg
      exact ⟨p, by omega, hg.1, (m_ds_same wy nx (by omega)).mpr hg.2⟩
    · rw [if_neg hc] at h
      have hle := m_ds_le wy nx k a S
      obtain ⟨p, h1, h2, h3⟩ := m_ds_dn k a S j (by omega) h (by omega)
      refine ⟨p, h1, h2, ?_⟩
      rw [m_ds_s, if_neg (by omega)]
      exact h3
def c_way (C : mC) (w f T a : Nat) : Int32 := m_wy (c_wy C) (c_nx C w f) (m_ds (c_wy C) (c_nx C w f) 40) (c_D C w f 40 (8 * T + a)) a T 0
set_option maxRecDepth 20000 in
theorem s_sureFrom {C : mC} {w f T p : Nat} {Q : zQ} {μ : zMu} {τ : Int64} (hD : ∀ x, x < 2048 → μ 70 x = nI (c_D C w f 40 x)) (hth : μ 65 3 = nI T) (hT : T < 256) (hp : p < 8) (hN : c_D C w f 40 (8 * T + p) = 1000000 → Q (some (.int (-1))) μ τ) (hY : c_D C w f 40 (8 * T + p) ≤ 40 → Q (some (.int (nI (c_D C w f 40 (8 * T + p))))) μ τ) : Zc 0 yX11_sureFrom cX11_sureFrom 3 (some .int) [.ref 61, .int (nI p)] μ τ Q := by
  refine Zc.mk 1 [.ref 61, .int (nI p), .null] rfl (by decide) (Nat.le_of_ble_eq_true rfl) ?_
  refine Zw_aload_0 dX11_sureFrom_0 ?_
  refine Zw_getr 70 lf_X11_38 dX11_sureFrom_1 (by first | decide | assumption | omega) (by first | rfl | assumption) (by rfl) ?_
  refine Zw_bipush (v := 8) dX11_sureFrom_4 (by decide) ?_
  refine Zw_aload_0 dX11_sureFrom_6 ?_
  refine Zw_getr 65 lf_X11_23 dX11_sureFrom_7 (by first | decide | assumption | omega) (by first | rfl | assumption) (by rfl) ?_
  refine Zw_iconst (v := 3) dX11_sureFrom_10 (by decide) ?_
  refine Zw_ialdnv (3) (nI T) dX11_sureFrom_11 (by first | decide | assumption | omega) (by first | rfl | assumption) rfl (by omega) (by decide) hth ?_
  refine Zw_nmul (8) (T) dX11_sureFrom_12 rfl rfl ?_
  refine Zw_iload_1 dX11_sureFrom_13 ?_
  refine Zw_nadd ((8 * T)) (p) dX11_sureFrom_14 rfl rfl ?_
  refine Zw_ialdnv (((8 * T) + p)) (nI (c_D C w f 40 (8 * T + p))) dX11_sureFrom_15 (by first | decide | assumption | omega) (by first | rfl | assumption) rfl (by omega) (by decide) (hD _ (by omega)) ?_
  refine Zw_istore_2 dX11_sureFrom_16 rfl ?_
  have hle := c_D_le C w f 40 (8 * T + p)
  refine Zw_iload_2 dX11_sureFrom_17 ?_
  refine Zw_ldcw dX11_sureFrom_18 zw2 ?_
  refine Zw_nicmp_ne ((c_D C w f 40 (8 * T + p))) (1000000) 28 dX11_sureFrom_21 (by decide) rfl rfl (by omega) (by omega) (fun c21 => ?_) (fun c21 => ?_)
  · refine Zw_iload_2 dX11_sureFrom_28 ?_
    refine Zw_ireturn dX11_sureFrom_29 (by first | rfl | assumption) ?_
    exact hY (by omega)
  · refine Zw_iconst (v := (-1)) dX11_sureFrom_24 (by decide) ?_
    refine Zw_goto 29 dX11_sureFrom_25 (by decide) ?_
    refine Zw_ireturn dX11_sureFrom_29 (by first | rfl | assumption) ?_
    exact hN c21
set_option maxRecDepth 20000 in
theorem l_mway2 {Q : zQ} {μ : zMu} {τ : Int64} {C : mC} {w f d x P : Nat} {acc : Int32} (hs : m_sp μ (c_sp C w)) (hD : ∀ x, x < 2048 → μ 70 x = nI (c_D C w f 40 x)) (hx : x < 2048) (hdx : c_D C w f 40 x = d + 1) (hd : d < 40) (hl : ∀ a, a < 8 → μ 66 a = C.2.1 a ∧ r8 (C.2.1 a)) (h : Zw 45 RX11 cX11_wayOf 7 (some .int) Q 100 [.ref 61, .int (nI f), .int (nI (c_eye C w f)), .int (nI x), .int acc, .int (C.2.1 (x % 8) ||| q_bit (x % 8)), .int (nI P)] [] μ τ) : ∀ m i, 8 - i < m → i < 8 → (∃ p, i ≤ p ∧ p < i + (8 - i) ∧ m_wg (c_wy C) (c_nx C w f) (m_ds (c_wy C) (c_nx C w f) 40) d (x % 8) (x / 8) p = true) → m_pk (m_wg (c_wy C) (c_nx C w f) (m_ds (c_wy C) (c_nx C w f) 40) d (x % 8) (x / 8)) (8 - i) i = P → Zw 45 RX11 cX11_wayOf 7 (some .int) Q 60 [.ref 61, .int (nI f), .int (nI (c_eye C w f)), .int (nI x), .int acc, .int (C.2.1 (x % 8) ||| q_bit (x % 8)), .int (nI i)] [] μ τ
  | 0, i, hm, _, _, _ => absurd hm (by omega)
  | m + 1, i, hm, hi, hex, hP => by
    have he := (c_eye_of C w f).2
    have hnl : c_nx C w f (x / 8) i < 256 := c_nx_lt C w f _ _ (by omega)
    have hDb := c_D_b (C := C) (v := w) (f := f) (k := 40) (x := 8 * c_nx C w f (x / 8) i + i) (by omega)
    refine Zw_iload_5 dX11_wayOf_60 ?_
    refine Zw_iload_6 dX11_wayOf_62 ?_
    refine Zw_ishr dX11_wayOf_64 ?_
    refine Zw_iconst (v := 1) dX11_wayOf_65 (by decide) ?_
    refine Zw_iand dX11_wayOf_66 ?_
    refine Zw_if_eq 94 dX11_wayOf_67 (by decide) (fun c67 => ?_) (fun c67 => ?_)
    · refine Zw_iinc_6 dX11_wayOf_94 rfl (zincn _) ?_
      refine Zw_goto 60 dX11_wayOf_97 (by decide) ?_
      have hg : m_wg (c_wy C) (c_nx C w f) (m_ds (c_wy C) (c_nx C w f) 40) d (x % 8) (x / 8) i = false := by unfold m_wg; rw [Bool.and_eq_false_iff]; exact Or.inl (q_has_no c67)
      have hex2 : ∃ p, i + 1 ≤ p ∧ p < i + 1 + (8 - (i + 1)) ∧ m_wg (c_wy C) (c_nx C w f) (m_ds (c_wy C) (c_nx C w f) 40) d (x % 8) (x / 8) p = true := by
        obtain ⟨p, h1, h2, h3⟩ := hex
        refine ⟨p, ?_, by omega, h3⟩
        rcases Nat.eq_or_lt_of_le h1 with e | e
        · subst e; rw [hg] at h3; cases h3
        · exact e
      refine l_mway2 hs hD hx hdx hd hl  h m (i + 1) (by omega) (by obtain ⟨p, h1, h2, _⟩ := hex2; omega) hex2 ?_
      rw [← hP, show 8 - i = (8 - (i + 1)) + 1 by omega, m_pk_s, if_neg (by rw [hg]; simp)]
    · refine Zw_aload_0 dX11_wayOf_70 ?_
      refine Zw_getr 70 lf_X11_38 dX11_wayOf_71 (by first | decide | assumption | omega) (by first | rfl | assumption) (by rfl) ?_
      refine Zw_aload_0 dX11_wayOf_74 ?_
      refine Zw_iload_3 dX11_wayOf_75 ?_
      refine Zw_iload_6 dX11_wayOf_76 ?_
      refine Zw_iload_2 dX11_wayOf_78 ?_
      refine Zw_V3 (k := 0) lm_X11_358 dX11_wayOf_79 (by decide) (by first | decide | assumption | omega) (by first | rfl | assumption) (by rfl) (Nat.le_of_ble_eq_true rfl) ?_
      refine s_nextOf hs he hx hi ?_
      refine Zw_ialdnv ((8 * c_nx C w f (x / 8) i + i)) (nI (c_D C w f 40 (8 * c_nx C w f (x / 8) i + i))) dX11_wayOf_82 (by first | decide | assumption | omega) (by first | rfl | assumption) rfl (by omega) (by decide) (hD _ (by omega)) ?_
      refine Zw_aload_0 dX11_wayOf_83 ?_
      refine Zw_getr 70 lf_X11_38 dX11_wayOf_84 (by first | decide | assumption | omega) (by first | rfl | assumption) (by rfl) ?_
      refine Zw_iload_3 dX11_wayOf_87 ?_
      refine Zw_ialdnv (x) (nI (d + 1)) dX11_wayOf_88 (by first | decide | assumption | omega) (by first | rfl | assumption) rfl (by omega) (by decide) (by rw [hD x hx, hdx]) ?_
      refine Zw_iconst (v := 1) dX11_wayOf_89 (by decide) ?_
      refine Zw_nsub ((d + 1)) (1) dX11_wayOf_90 rfl rfl (by omega) ?_
      rw [show d + 1 - 1 = d by omega]
      refine Zw_nicmp_eq ((c_D C w f 40 (8 * c_nx C w f (x / 8) i + i))) (d) 100 dX11_wayOf_91 (by decide) rfl rfl (by omega) (by omega) (fun c91 => ?_) (fun c91 => ?_)
      · have hg : m_wg (c_wy C) (c_nx C w f) (m_ds (c_wy C) (c_nx C w f) 40) d (x % 8) (x / 8) i = true := by
          unfold m_wg
          rw [Bool.and_eq_true]
          exact ⟨q_has_of c67, decide_eq_true (by rw [← c_D_at (C := C) (v := w) (f := f) hi]; exact c91)⟩
        rw [show 8 - i = (8 - (i + 1)) + 1 by omega, m_pk_s, if_pos hg] at hP
        subst hP
        exact h
      · refine Zw_iinc_6 dX11_wayOf_94 rfl (zincn _) ?_
        refine Zw_goto 60 dX11_wayOf_97 (by decide) ?_
        have hg : m_wg (c_wy C) (c_nx C w f) (m_ds (c_wy C) (c_nx C w f) 40) d (x % 8) (x / 8) i = false := by unfold m_wg; rw [Bool.and_eq_false_iff]; exact Or.inr (decide_eq_false (by rw [← c_D_at (C := C) (v := w) (f := f) hi]; exact c91))
        have hex2 : ∃ p, i + 1 ≤ p ∧ p < i + 1 + (8 - (i + 1)) ∧ m_wg (c_wy C) (c_nx C w f) (m_ds (c_wy C) (c_nx C w f) 40) d (x % 8) (x / 8) p = true := by
          obtain ⟨p, h1, h2, h3⟩ := hex
          refine ⟨p, ?_, by omega, h3⟩
          rcases Nat.eq_or_lt_of_le h1 with e | e
          · subst e; rw [hg] at h3; cases h3
          · exact e
        refine l_mway2 hs hD hx hdx hd hl  h m (i + 1) (by omega) (by obtain ⟨p, h1, h2, _⟩ := hex2; omega) hex2 ?_
        rw [← hP, show 8 - i = (8 - (i + 1)) + 1 by omega, m_pk_s, if_neg (by rw [hg]; simp)]
set_option maxRecDepth 20000 in
theorem l_mway {Q : zQ} {μ : zMu} {τ : Int64} {C : mC} {w f : Nat} {R : Int32} (hs : m_sp μ (c_sp C w)) (hD : ∀ x, x < 2048 → μ 70 x = nI (c_D C w f 40 x)) (hl : ∀ a, a < 8 → μ 66 a = C.2.1 a ∧ r8 (C.2.1 a)) (h : Q (some (.int R)) μ τ) : ∀ d x acc, d ≤ 40 → x < 2048 → c_D C w f 40 x = d → m_wy (c_wy C) (c_nx C w f) (m_ds (c_wy C) (c_nx C w f) 40) d (x % 8) (x / 8) acc = R → Zw 45 RX11 cX11_wayOf 7 (some .int) Q 30 [.ref 61, .int (nI f), .int (nI (c_eye C w f)), .int (nI x), .int acc, .null, .null] [] μ τ := by
  intro d
  induction d with
  | zero =>
    intro x acc _ hx hdx hR
    refine Zw_aload_0 dX11_wayOf_30 ?_
    refine Zw_getr 70 lf_X11_38 dX11_wayOf_31 (by first | decide | assumption | omega) (by first | rfl | assumption) (by rfl) ?_
    refine Zw_iload_3 dX11_wayOf_34 ?_
    refine Zw_ialdnv (x) (0) dX11_wayOf_35 (by first | decide | assumption | omega) (by first | rfl | assumption) rfl (by omega) (by decide) (by rw [hD x hx, hdx]; rfl) ?_
    refine Zw_if_le 124 dX11_wayOf_36 (by decide) (fun _ => ?_) (fun c => absurd c (by decide))
    refine Zw_iload_4 dX11_wayOf_124 ?_
    refine Zw_ireturn dX11_wayOf_126 (by first | rfl | assumption) ?_
    have hR : acc = R := hR
    subst hR
    exact h
  | succ d ih =>
    intro x acc hd hx hdx hR
    have he := (c_eye_of C w f).2
    have hex : ∃ p, 0 ≤ p ∧ p < 0 + (8 - 0) ∧ m_wg (c_wy C) (c_nx C w f) (m_ds (c_wy C) (c_nx C w f) 40) d (x % 8) (x / 8) p = true := by
      obtain ⟨p, h1, h2, h3⟩ := m_ds_dn (wy := c_wy C) (nx := c_nx C w f) 40 (x % 8) (x / 8) d (by omega) hdx (by omega)
      exact ⟨p, by omega, by omega, by unfold m_wg; rw [h2, h3]; simp⟩
    obtain ⟨_, hP8, hPg, _⟩ := m_pk_in hex
    rw [m_wy_s] at hR
    generalize hP : m_pk (m_wg (c_wy C) (c_nx C w f) (m_ds (c_wy C) (c_nx C w f) 40) d (x % 8) (x / 8)) (8 - 0) 0 = P at hP8 hPg
    rw [show m_pk (m_wg (c_wy C) (c_nx C w f) (m_ds (c_wy C) (c_nx C w f) 40) d (x % 8) (x / 8)) 8 0 = P from hP] at hR
    have hnl : c_nx C w f (x / 8) P < 256 := c_nx_lt C w f _ _ (by omega)
    have hgP : m_ds (c_wy C) (c_nx C w f) 40 P (c_nx C w f (x / 8) P) = d := by
      unfold m_wg at hPg
      rw [Bool.and_eq_true, decide_eq_true_iff] at hPg
      exact hPg.2
    refine Zw_aload_0 dX11_wayOf_30 ?_
    refine Zw_getr 70 lf_X11_38 dX11_wayOf_31 (by first | decide | assumption | omega) (by first | rfl | assumption) (by rfl) ?_
    refine Zw_iload_3 dX11_wayOf_34 ?_
    refine Zw_ialdnv (x) (nI (d + 1)) dX11_wayOf_35 (by first | decide | assumption | omega) (by first | rfl | assumption) rfl (by omega) (by decide) (by rw [hD x hx, hdx]) ?_
    refine Zw_if_le 124 dX11_wayOf_36 (by decide) (fun c36 => absurd c36 (nI_nle (by omega) (by omega))) (fun c36 => ?_)
    refine Zw_aload_0 dX11_wayOf_39 ?_
    refine Zw_getr 66 lf_X11_26 dX11_wayOf_40 (by first | decide | assumption | omega) (by first | rfl | assumption) (by rfl) ?_
    refine Zw_iload_3 dX11_wayOf_43 ?_
    refine Zw_bipush (v := 8) dX11_wayOf_44 (by decide) ?_
    refine Zw_nrem (x) (8) dX11_wayOf_46 rfl rfl (by omega) (by omega) (by omega) ?_
    refine Zw_ialdnv ((x % 8)) (C.2.1 (x % 8)) dX11_wayOf_47 (by first | decide | assumption | omega) (by first | rfl | assumption) rfl (by omega) (by decide) (hl _ (by omega)).1 ?_
    refine Zw_iconst (v := 1) dX11_wayOf_48 (by decide) ?_
    refine Zw_iload_3 dX11_wayOf_49 ?_
    refine Zw_bipush (v := 8) dX11_wayOf_50 (by decide) ?_
    refine Zw_nrem (x) (8) dX11_wayOf_52 rfl rfl (by omega) (by omega) (by omega) ?_
    refine Zw_ishl dX11_wayOf_53 ?_
    refine Zw_ior dX11_wayOf_54 ?_
    refine Zw_istore_5 dX11_wayOf_55 rfl ?_
    refine Zw_iconst (v := 0) dX11_wayOf_57 (by decide) ?_
    refine Zw_istore_6 dX11_wayOf_58 rfl ?_
    refine l_mway2 (P := P) hs hD hx hdx (by omega) hl ?_ 9 0 (by omega) (by omega) hex hP
    refine Zw_bipush (v := 10) dX11_wayOf_100 (by decide) ?_
    refine Zw_iload_4 dX11_wayOf_102 ?_
    refine Zw_imul dX11_wayOf_104 ?_
    refine Zw_iload_6 dX11_wayOf_105 ?_
    refine Zw_iadd dX11_wayOf_107 ?_
    refine Zw_iconst (v := 1) dX11_wayOf_108 (by decide) ?_
    refine Zw_iadd dX11_wayOf_109 ?_
    refine Zw_istore_4 dX11_wayOf_110 rfl ?_
    refine Zw_aload_0 dX11_wayOf_112 ?_
    refine Zw_iload_3 dX11_wayOf_113 ?_
    refine Zw_iload_6 dX11_wayOf_114 ?_
    refine Zw_iload_2 dX11_wayOf_116 ?_
    refine Zw_V3 (k := 0) lm_X11_358 dX11_wayOf_117 (by decide) (by first | decide | assumption | omega) (by first | rfl | assumption) (by rfl) (Nat.le_of_ble_eq_true rfl) ?_
    refine s_nextOf hs he hx (by omega) ?_
    refine Zw_istore_3 dX11_wayOf_120 rfl ?_
    refine Zw_goto 30 dX11_wayOf_121 (by decide) ?_
    refine Zw_drop (L' := [.ref 61, .int (nI f), .int (nI (c_eye C w f)), .int (nI (8 * c_nx C w f (x / 8) P + P)), .int (10 * acc + nI P + 1), .null, .null]) ⟨Or.inr rfl, Or.inr rfl, Or.inr rfl, Or.inr rfl, Or.inr rfl, Or.inl rfl, Or.inl rfl, trivial⟩ (Nat.le_of_ble_eq_true rfl) ?_
    exact ih (8 * c_nx C w f (x / 8) P + P) _ (by omega) (by omega) (by rw [c_D_at (by omega)]; exact hgP) (by rw [show (8 * c_nx C w f (x / 8) P + P) % 8 = P by omega, show (8 * c_nx C w f (x / 8) P + P) / 8 = c_nx C w f (x / 8) P by omega]; exact hR)
set_option maxRecDepth 20000 in
theorem s_mwayOf {C : mC} {w f T a : Nat} {Q : zQ} {μ : zMu} {τ : Int64} (hc : m_cx C w μ) (hf : f < cN C) (hs : m_sp μ (c_sp C w)) (hD : ∀ x, x < 2048 → μ 70 x = nI (c_D C w f 40 x)) (hth : μ 65 3 = nI T) (hT : T < 256) (ha : μ 68 (3 * f + 1) = nI a) (ha8 : a < 8) (hle : c_D C w f 40 (8 * T + a) ≤ 40) (h : ∀ μ2 τ2, nOff [] μ μ2 → Q (some (.int (c_way C w f T a))) μ2 τ2) : Zc 45 yX11_wayOf cX11_wayOf 7 (some .int) [.ref 61, .int (nI f)] μ τ Q := by
  refine Zc.mk 5 [.ref 61, .int (nI f), .null, .null, .null, .null, .null] rfl (by decide) (Nat.le_of_ble_eq_true rfl) ?_
  refine Zw_aload_0 dX11_wayOf_0 ?_
  refine Zw_iload_1 dX11_wayOf_1 ?_
  refine Zw_V1 (k := 44) lm_X11_117 dX11_wayOf_2 (by decide) (by first | decide | assumption | omega) (by first | rfl | assumption) (by rfl) (Nat.le_of_ble_eq_true rfl) ?_
  refine s_c_eyes hc hf (fun μ1 τ1 o1 => ?_)
  rw [(c_eye_of C w f).1]
  have hn5 := hc.n5.1
  refine Zw_istore_2 dX11_wayOf_5 rfl ?_
  refine Zw_bipush (v := 8) dX11_wayOf_6 (by decide) ?_
  refine Zw_aload_0 dX11_wayOf_8 ?_
  refine Zw_getr 65 lf_X11_23 dX11_wayOf_9 (by first | decide | assumption | omega) (by first | rfl | assumption) (by rfl) ?_
  refine Zw_iconst (v := 3) dX11_wayOf_12 (by decide) ?_
  refine Zw_ialdnv (3) (nI T) dX11_wayOf_13 (by first | decide | assumption | omega) (by first | rfl | assumption) rfl (by omega) (by decide) (by rw [o1.fr (by decide) (by simp)]; exact hth) ?_
  refine Zw_nmul (8) (T) dX11_wayOf_14 rfl rfl ?_
  refine Zw_aload_0 dX11_wayOf_15 ?_
  refine Zw_getr 68 lf_X11_32 dX11_wayOf_16 (by first | decide | assumption | omega) (by first | rfl | assumption) (by rfl) ?_
  refine Zw_iconst (v := 3) dX11_wayOf_19 (by decide) ?_
  refine Zw_iload_1 dX11_wayOf_20 ?_
  refine Zw_nmul (3) (f) dX11_wayOf_21 rfl rfl ?_
  refine Zw_iconst (v := 1) dX11_wayOf_22 (by decide) ?_
  refine Zw_nadd ((3 * f)) (1) dX11_wayOf_23 rfl rfl ?_
  refine Zw_ialdnv (((3 * f) + 1)) (nI a) dX11_wayOf_24 (by first | decide | assumption | omega) (by first | rfl | assumption) rfl (by omega) (by decide) (by rw [o1.fr (by decide) (by simp)]; exact ha) ?_
  refine Zw_nadd ((8 * T)) (a) dX11_wayOf_25 rfl rfl ?_
  refine Zw_istore_3 dX11_wayOf_26 rfl ?_
  refine Zw_iconst (v := 0) dX11_wayOf_27 (by decide) ?_
  refine Zw_istore_4 dX11_wayOf_28 rfl ?_
  refine l_mway (C := C) (w := w) (f := f) (fun S hS => by rw [o1.fr (by decide) (by simp)]; exact hs S hS) (fun x hx => by rw [o1.fr (by decide) (by simp)]; exact hD x hx) (fun p hp => by rw [o1.fr (by decide) (by simp)]; obtain ⟨q1, q2⟩ := hc.ln hp; exact ⟨q1, by rw [← q1]; exact q2⟩) (h _ _ o1) _ (8 * T + a) 0 hle (by omega) rfl ?_
  rw [show (8 * T + a) % 8 = a by omega, show (8 * T + a) / 8 = T by omega]
  rfl
set_option maxRecDepth 20000 in
theorem s_msureB {x m what : Int32} {Q : zQ} {μ : zMu} {τ : Int64} (n : Nat) (hn5 : n ≤ 5) (hn : μ 61 11 = nI n) (hbad : ¬ (vp_in x n ∧ vp_in m 41 ∧ vp_in what 2)) (h : Q (some (.int (-2))) μ τ) : Zc 46 yX11_sure cX11_sure 5 (some .int) [.ref 61, .int x, .int m, .int what] μ τ Q := by
  refine Zc.mk 1 [.ref 61, .int x, .int m, .int what, .null] rfl (by decide) (Nat.le_of_ble_eq_true rfl) ?_
  refine Zw_aload_0 dX11_sure_0 ?_
  refine Zw_iload_1 dX11_sure_1 ?_
  refine Zw_V1 (k := 1) lm_X11_86 dX11_sure_2 (by decide) (by first | decide | assumption | omega) (by first | rfl | assumption) (by rfl) (Nat.le_of_ble_eq_true rfl) ?_
  refine s_isOne n hn5 hn (fun b1 => ?_) (fun b1 => ?_)
  · refine Zw_if_eq 30 dX11_sure_5 (by decide) (fun c => absurd c (by decide)) (fun _ => ?_)
    refine Zw_iload_2 dX11_sure_8 ?_
    refine Zw_i2l dX11_sure_9 ?_
    refine Zw_lconst (v := 0) dX11_sure_10 (by decide) ?_
    refine Zw_ldc2 dX11_sure_11 zw20 ?_
    refine Zw_S3 (k := 0) lm_X11_76 dX11_sure_14 (by decide) (Nat.le_of_ble_eq_true rfl) ?_
    refine s_in0 41 (by decide) (fun b2 => ?_) (fun b2 => ?_)
    · refine Zw_if_eq 30 dX11_sure_17 (by decide) (fun c => absurd c (by decide)) (fun _ => ?_)
      refine Zw_iload_3 dX11_sure_20 ?_
      refine Zw_i2l dX11_sure_21 ?_
      refine Zw_lconst (v := 0) dX11_sure_22 (by decide) ?_
      refine Zw_lconst (v := 1) dX11_sure_23 (by decide) ?_
      refine Zw_S3 (k := 0) lm_X11_76 dX11_sure_24 (by decide) (Nat.le_of_ble_eq_true rfl) ?_
      refine s_in0 2 (by decide) (fun b3 => ?_) (fun b3 => ?_)
      · refine Zw_if_ne 33 dX11_sure_27 (by decide) (fun _ => ?_) (fun c => absurd c (by decide))
        exact absurd ⟨b1, b2, b3⟩ hbad
      · refine Zw_if_ne 33 dX11_sure_27 (by decide) (fun c => absurd c (by decide)) (fun _ => ?_)
        refine Zw_bipush (v := (-2)) dX11_sure_30 (by decide) ?_
        refine Zw_ireturn dX11_sure_32 (by first | rfl | assumption) ?_
        exact h
    · refine Zw_if_eq 30 dX11_sure_17 (by decide) (fun _ => ?_) (fun c => absurd c (by decide))
      refine Zw_bipush (v := (-2)) dX11_sure_30 (by decide) ?_
      refine Zw_ireturn dX11_sure_32 (by first | rfl | assumption) ?_
      exact h
  · refine Zw_if_eq 30 dX11_sure_5 (by decide) (fun _ => ?_) (fun c => absurd c (by decide))
    refine Zw_bipush (v := (-2)) dX11_sure_30 (by decide) ?_
    refine Zw_ireturn dX11_sure_32 (by first | rfl | assumption) ?_
    exact h
set_option maxRecDepth 20000 in
theorem s_msure0 {C : mC} {w f T a m0 : Nat} {Q : zQ} {μ : zMu} {τ : Int64} (hc : m_cx C w μ) (hf : f < cN C) (hth : μ 65 3 = nI T) (hT : T < 256) (ha : cA C f = a) (hm : m0 ≤ 40) (h : ∀ μ2 τ2, nOff [69, 70] μ μ2 → Q (some (.int (if c_D C w f 40 (8 * T + a) = 1000000 ∨ m0 < c_D C w f 40 (8 * T + a) then -1 else nI (c_D C w f 40 (8 * T + a))))) μ2 τ2) : Zc 46 yX11_sure cX11_sure 5 (some .int) [.ref 61, .int (nI f), .int (nI m0), .int 0] μ τ Q := by
  refine Zc.mk 1 [.ref 61, .int (nI f), .int (nI m0), .int 0, .null] rfl (by decide) (Nat.le_of_ble_eq_true rfl) ?_
  have hA8 : a < 8 := by rw [← ha]; exact (hc.fd hf).2.2.2.2.2
  have hn5 := hc.n5.1
  refine Zw_aload_0 dX11_sure_0 ?_
  refine Zw_iload_1 dX11_sure_1 ?_
  refine Zw_V1 (k := 1) lm_X11_86 dX11_sure_2 (by decide) (by first | decide | assumption | omega) (by first | rfl | assumption) (by rfl) (Nat.le_of_ble_eq_true rfl) ?_
  refine s_isOne (cN C) hc.n5.1 hc.n5.2.1 (fun _ => ?_) (fun a0 => absurd (vp_in_nI hf (by have := hc.n5.1; omega)) a0)
  refine Zw_if_eq 30 dX11_sure_5 (by decide) (fun c => absurd c (by decide)) (fun _ => ?_)
  refine Zw_iload_2 dX11_sure_8 ?_
  refine Zw_i2l dX11_sure_9 ?_
  refine Zw_lconst (v := 0) dX11_sure_10 (by decide) ?_
  refine Zw_ldc2 dX11_sure_11 zw20 ?_
  refine Zw_S3 (k := 0) lm_X11_76 dX11_sure_14 (by decide) (Nat.le_of_ble_eq_true rfl) ?_
  refine s_in0 41 (by decide) (fun _ => ?_) (fun a0 => absurd (vp_in_nI (by omega) (by omega)) a0)
  refine Zw_if_eq 30 dX11_sure_17 (by decide) (fun c => absurd c (by decide)) (fun _ => ?_)
  refine Zw_iload_3 dX11_sure_20 ?_
  refine Zw_i2l dX11_sure_21 ?_
  refine Zw_lconst (v := 0) dX11_sure_22 (by decide) ?_
  refine Zw_lconst (v := 1) dX11_sure_23 (by decide) ?_
  refine Zw_S3 (k := 0) lm_X11_76 dX11_sure_24 (by decide) (Nat.le_of_ble_eq_true rfl) ?_
  refine s_in0 2 (by decide) (fun _ => ?_) (fun a0 => absurd (by unfold vp_in; decide) a0)
  refine Zw_if_ne 33 dX11_sure_27 (by decide) (fun _ => ?_) (fun c => absurd c (by decide))
  refine Zw_aload_0 dX11_sure_33 ?_
  refine Zw_iload_1 dX11_sure_34 ?_
  refine Zw_V1 (k := 45) lm_X11_362 dX11_sure_35 (by decide) (by first | decide | assumption | omega) (by first | rfl | assumption) (by rfl) (Nat.le_of_ble_eq_true rfl) ?_
  refine s_counts hc hf (fun μ1 τ1 o1 s1 hD1 => ?_)
  refine Zw_aload_0 dX11_sure_38 ?_
  refine Zw_aload_0 dX11_sure_39 ?_
  refine Zw_getr 68 lf_X11_32 dX11_sure_40 (by first | decide | assumption | omega) (by first | rfl | assumption) (by rfl) ?_
  refine Zw_iconst (v := 3) dX11_sure_43 (by decide) ?_
  refine Zw_iload_1 dX11_sure_44 ?_
  refine Zw_nmul (3) (f) dX11_sure_45 rfl rfl ?_
  refine Zw_iconst (v := 1) dX11_sure_46 (by decide) ?_
  refine Zw_nadd ((3 * f)) (1) dX11_sure_47 rfl rfl ?_
  refine Zw_ialdnv (((3 * f) + 1)) (nI a) dX11_sure_48 (by first | decide | assumption | omega) (by first | rfl | assumption) rfl (by omega) (by decide) (by rw [o1.fr (by decide) (by simp), (hc.fd hf).2.2.1, ha]) ?_
  refine Zw_V1 (k := 0) lm_X11_366 dX11_sure_49 (by decide) (by first | decide | assumption | omega) (by first | rfl | assumption) (by rfl) (Nat.le_of_ble_eq_true rfl) ?_
  refine s_sureFrom hD1 (by rw [o1.fr (by decide) (by simp)]; exact hth) hT hA8 (fun dN => ?_) (fun dY => ?_)
  · refine Zw_istore_4 dX11_sure_52 rfl ?_
    refine Zw_iload_4 dX11_sure_54 ?_
    refine Zw_iconst (v := (-1)) dX11_sure_56 (by decide) ?_
    refine Zw_icmp_eq 78 dX11_sure_57 (by decide) (fun _ => ?_) (fun c => absurd c (by decide))
    refine Zw_iconst (v := (-1)) dX11_sure_78 (by decide) ?_
    refine Zw_ireturn dX11_sure_79 (by first | rfl | assumption) ?_
    have hq := h _ τ1 o1
    rw [if_pos (by omega)] at hq
    exact hq
  · refine Zw_istore_4 dX11_sure_52 rfl ?_
    refine Zw_iload_4 dX11_sure_54 ?_
    refine Zw_iconst (v := (-1)) dX11_sure_56 (by decide) ?_
    refine Zw_icmp_eq 78 dX11_sure_57 (by decide) (fun c57 => absurd c57 (nI_m1 (by omega))) (fun c57 => ?_)
    refine Zw_iload_4 dX11_sure_60 ?_
    refine Zw_iload_2 dX11_sure_62 ?_
    refine Zw_nicmp_gt ((c_D C w f 40 (8 * T + a))) (m0) 78 dX11_sure_63 (by decide) rfl rfl (by omega) (by omega) (fun c63 => ?_) (fun c63 => ?_)
    · refine Zw_iconst (v := (-1)) dX11_sure_78 (by decide) ?_
      refine Zw_ireturn dX11_sure_79 (by first | rfl | assumption) ?_
      have hq := h _ τ1 o1
      rw [if_pos (by omega)] at hq
      exact hq
    · refine Zw_iload_3 dX11_sure_66 ?_
      refine Zw_iconst (v := 1) dX11_sure_67 (by decide) ?_
      refine Zw_icmp_ne 80 dX11_sure_68 (by decide) (fun _ => ?_) (fun c => absurd c (by decide))
      refine Zw_iload_3 dX11_sure_80 ?_
      refine Zw_if_ne 89 dX11_sure_81 (by decide) (fun c => absurd c (by decide)) (fun _ => ?_)
      refine Zw_iload_4 dX11_sure_84 ?_
      refine Zw_goto 94 dX11_sure_86 (by decide) ?_
      refine Zw_ireturn dX11_sure_94 (by first | rfl | assumption) ?_
      have hq := h _ τ1 o1
      rw [if_neg (by omega)] at hq
      exact hq
set_option maxRecDepth 20000 in
theorem s_msure1 {C : mC} {w f T a m0 : Nat} {Q : zQ} {μ : zMu} {τ : Int64} (hc : m_cx C w μ) (hf : f < cN C) (hth : μ 65 3 = nI T) (hT : T < 256) (ha : cA C f = a) (hm : m0 ≤ 40) (h : ∀ μ2 τ2, nOff [69, 70] μ μ2 → Q (some (.int (if c_D C w f 40 (8 * T + a) = 1000000 ∨ m0 < c_D C w f 40 (8 * T + a) ∨ 9 < c_D C w f 40 (8 * T + a) then -1 else c_way C w f T a))) μ2 τ2) : Zc 46 yX11_sure cX11_sure 5 (some .int) [.ref 61, .int (nI f), .int (nI m0), .int 1] μ τ Q := by
  refine Zc.mk 1 [.ref 61, .int (nI f), .int (nI m0), .int 1, .null] rfl (by decide) (Nat.le_of_ble_eq_true rfl) ?_
  have hA8 : a < 8 := by rw [← ha]; exact (hc.fd hf).2.2.2.2.2
  have hn5 := hc.n5.1
  refine Zw_aload_0 dX11_sure_0 ?_
  refine Zw_iload_1 dX11_sure_1 ?_
  refine Zw_V1 (k := 1) lm_X11_86 dX11_sure_2 (by decide) (by first | decide | assumption | omega) (by first | rfl | assumption) (by rfl) (Nat.le_of_ble_eq_true rfl) ?_
  refine s_isOne (cN C) hc.n5.1 hc.n5.2.1 (fun _ => ?_) (fun a0 => absurd (vp_in_nI hf (by have := hc.n5.1; omega)) a0)
  refine Zw_if_eq 30 dX11_sure_5 (by decide) (fun c => absurd c (by decide)) (fun _ => ?_)
  refine Zw_iload_2 dX11_sure_8 ?_
  refine Zw_i2l dX11_sure_9 ?_
  refine Zw_lconst (v := 0) dX11_sure_10 (by decide) ?_
  refine Zw_ldc2 dX11_sure_11 zw20 ?_
  refine Zw_S3 (k := 0) lm_X11_76 dX11_sure_14 (by decide) (Nat.le_of_ble_eq_true rfl) ?_
  refine s_in0 41 (by decide) (fun _ => ?_) (fun a0 => absurd (vp_in_nI (by omega) (by omega)) a0)
  refine Zw_if_eq 30 dX11_sure_17 (by decide) (fun c => absurd c (by decide)) (fun _ => ?_)
  refine Zw_iload_3 dX11_sure_20 ?_
  refine Zw_i2l dX11_sure_21 ?_
  refine Zw_lconst (v := 0) dX11_sure_22 (by decide) ?_
  refine Zw_lconst (v := 1) dX11_sure_23 (by decide) ?_
  refine Zw_S3 (k := 0) lm_X11_76 dX11_sure_24 (by decide) (Nat.le_of_ble_eq_true rfl) ?_
  refine s_in0 2 (by decide) (fun _ => ?_) (fun a0 => absurd (by unfold vp_in; decide) a0)
  refine Zw_if_ne 33 dX11_sure_27 (by decide) (fun _ => ?_) (fun c => absurd c (by decide))
  refine Zw_aload_0 dX11_sure_33 ?_
  refine Zw_iload_1 dX11_sure_34 ?_
  refine Zw_V1 (k := 45) lm_X11_362 dX11_sure_35 (by decide) (by first | decide | assumption | omega) (by first | rfl | assumption) (by rfl) (Nat.le_of_ble_eq_true rfl) ?_
  refine s_counts hc hf (fun μ1 τ1 o1 s1 hD1 => ?_)
  refine Zw_aload_0 dX11_sure_38 ?_
  refine Zw_aload_0 dX11_sure_39 ?_
  refine Zw_getr 68 lf_X11_32 dX11_sure_40 (by first | decide | assumption | omega) (by first | rfl | assumption) (by rfl) ?_
  refine Zw_iconst (v := 3) dX11_sure_43 (by decide) ?_
  refine Zw_iload_1 dX11_sure_44 ?_
  refine Zw_nmul (3) (f) dX11_sure_45 rfl rfl ?_
  refine Zw_iconst (v := 1) dX11_sure_46 (by decide) ?_
  refine Zw_nadd ((3 * f)) (1) dX11_sure_47 rfl rfl ?_
  refine Zw_ialdnv (((3 * f) + 1)) (nI a) dX11_sure_48 (by first | decide | assumption | omega) (by first | rfl | assumption) rfl (by omega) (by decide) (by rw [o1.fr (by decide) (by simp), (hc.fd hf).2.2.1, ha]) ?_
  refine Zw_V1 (k := 0) lm_X11_366 dX11_sure_49 (by decide) (by first | decide | assumption | omega) (by first | rfl | assumption) (by rfl) (Nat.le_of_ble_eq_true rfl) ?_
  refine s_sureFrom hD1 (by rw [o1.fr (by decide) (by simp)]; exact hth) hT hA8 (fun dN => ?_) (fun dY => ?_)
  · refine Zw_istore_4 dX11_sure_52 rfl ?_
    refine Zw_iload_4 dX11_sure_54 ?_
    refine Zw_iconst (v := (-1)) dX11_sure_56 (by decide) ?_
    refine Zw_icmp_eq 78 dX11_sure_57 (by decide) (fun _ => ?_) (fun c => absurd c (by decide))
    refine Zw_iconst (v := (-1)) dX11_sure_78 (by decide) ?_
    refine Zw_ireturn dX11_sure_79 (by first | rfl | assumption) ?_
    have hq := h _ τ1 o1
    rw [if_pos (by omega)] at hq
    exact hq
  · refine Zw_istore_4 dX11_sure_52 rfl ?_
    refine Zw_iload_4 dX11_sure_54 ?_
    refine Zw_iconst (v := (-1)) dX11_sure_56 (by decide) ?_
    refine Zw_icmp_eq 78 dX11_sure_57 (by decide) (fun c57 => absurd c57 (nI_m1 (by omega))) (fun c57 => ?_)
    refine Zw_iload_4 dX11_sure_60 ?_
    refine Zw_iload_2 dX11_sure_62 ?_
    refine Zw_nicmp_gt ((c_D C w f 40 (8 * T + a))) (m0) 78 dX11_sure_63 (by decide) rfl rfl (by omega) (by omega) (fun c63 => ?_) (fun c63 => ?_)
    · refine Zw_iconst (v := (-1)) dX11_sure_78 (by decide) ?_
      refine Zw_ireturn dX11_sure_79 (by first | rfl | assumption) ?_
      have hq := h _ τ1 o1
      rw [if_pos (by omega)] at hq
      exact hq
    · refine Zw_iload_3 dX11_sure_66 ?_
      refine Zw_iconst (v := 1) dX11_sure_67 (by decide) ?_
      refine Zw_icmp_ne 80 dX11_sure_68 (by decide) (fun c => absurd c (by decide)) (fun _ => ?_)
      refine Zw_iload_4 dX11_sure_71 ?_
      refine Zw_bipush (v := 9) dX11_sure_73 (by decide) ?_
      refine Zw_nicmp_le ((c_D C w f 40 (8 * T + a))) (9) 80 dX11_sure_75 (by decide) rfl rfl (by omega) (by omega) (fun c75 => ?_) (fun c75 => ?_)
      · refine Zw_iload_3 dX11_sure_80 ?_
        refine Zw_if_ne 89 dX11_sure_81 (by decide) (fun _ => ?_) (fun c => absurd c (by decide))
        refine Zw_aload_0 dX11_sure_89 ?_
        refine Zw_iload_1 dX11_sure_90 ?_
        refine Zw_V1 (k := 45) lm_X11_369 dX11_sure_91 (by decide) (by first | decide | assumption | omega) (by first | rfl | assumption) (by rfl) (Nat.le_of_ble_eq_true rfl) ?_
        refine s_mwayOf (hc.off o1 (by simp)) hf s1 hD1 (by rw [o1.fr (by decide) (by simp)]; exact hth) hT (by rw [o1.fr (by decide) (by simp), (hc.fd hf).2.2.1, ha]) hA8 dY (fun μ2 τ2 o2 => ?_)
        refine Zw_ireturn dX11_sure_94 (by first | rfl | assumption) ?_
        have hq := h _ τ2 ((o1.tr (o2.sub (by simp))))
        rw [if_neg (by omega)] at hq
        exact hq
      · refine Zw_iconst (v := (-1)) dX11_sure_78 (by decide) ?_
        refine Zw_ireturn dX11_sure_79 (by first | rfl | assumption) ?_
        have hq := h _ τ1 o1
        rw [if_pos (by omega)] at hq
        exact hq
set_option maxRecDepth 20000 in
theorem s_mstandB {x what : Int32} {Q : zQ} {μ : zMu} {τ : Int64} (n : Nat) (hn5 : n ≤ 5) (hn : μ 61 11 = nI n) (hbad : ¬ (vp_in x n ∧ vp_in what 3)) (h : Q (some (.int (-2))) μ τ) : Zc 46 yX11_stand cX11_stand 7 (some .int) [.ref 61, .int x, .int what] μ τ Q := by
  refine Zc.mk 4 [.ref 61, .int x, .int what, .null, .null, .null, .null] rfl (by decide) (Nat.le_of_ble_eq_true rfl) ?_
  refine Zw_aload_0 dX11_stand_0 ?_
  refine Zw_iload_1 dX11_stand_1 ?_
  refine Zw_V1 (k := 1) lm_X11_86 dX11_stand_2 (by decide) (by first | decide | assumption | omega) (by first | rfl | assumption) (by rfl) (Nat.le_of_ble_eq_true rfl) ?_
  refine s_isOne n hn5 hn (fun b1 => ?_) (fun b1 => ?_)
  · refine Zw_if_eq 20 dX11_stand_5 (by decide) (fun c => absurd c (by decide)) (fun _ => ?_)
    refine Zw_iload_2 dX11_stand_8 ?_
    refine Zw_i2l dX11_stand_9 ?_
    refine Zw_lconst (v := 0) dX11_stand_10 (by decide) ?_
    refine Zw_ldc2 dX11_stand_11 zw19 ?_
    refine Zw_S3 (k := 0) lm_X11_76 dX11_stand_14 (by decide) (Nat.le_of_ble_eq_true rfl) ?_
    refine s_in0 3 (by decide) (fun b2 => ?_) (fun b2 => ?_)
    · refine Zw_if_ne 23 dX11_stand_17 (by decide) (fun _ => ?_) (fun c => absurd c (by decide))
      exact absurd ⟨b1, b2⟩ hbad
    · refine Zw_if_ne 23 dX11_stand_17 (by decide) (fun c => absurd c (by decide)) (fun _ => ?_)
      refine Zw_bipush (v := (-2)) dX11_stand_20 (by decide) ?_
      refine Zw_ireturn dX11_stand_22 (by first | rfl | assumption) ?_
      exact h
  · refine Zw_if_eq 20 dX11_stand_5 (by decide) (fun _ => ?_) (fun c => absurd c (by decide))
    refine Zw_bipush (v := (-2)) dX11_stand_20 (by decide) ?_
    refine Zw_ireturn dX11_stand_22 (by first | rfl | assumption) ?_
    exact h
set_option maxRecDepth 20000 in
theorem l_mstd0 {Q : zQ} {μ : zMu} {τ : Int64} {C : mC} {w f T : Nat} {R : Int32 × Int32 × Int32} (hD : ∀ x, x < 2048 → μ 70 x = nI (c_D C w f 40 x)) (hth : μ 65 3 = nI T) (hT : T < 256) (h : Q (some (.int (q_p3 R 0))) μ τ) : ∀ m i best least fr, 8 - i < m → i ≤ 8 → ((best = -1 ∧ least = -1) ∨ ∃ p0, p0 < 8 ∧ best = nI p0 ∧ least = nI (c_D C w f 40 (8 * T + p0)) ∧ (c_D C w f 40 (8 * T + p0)) ≤ 40) → q_std (fun p => c_sf C w f T p) (8 - i) i (best, least, fr) = R → Zw 46 RX11 cX11_stand 7 (some .int) Q 36 [.ref 61, .int (nI f), .int 0, .int best, .int fr, .int (nI i), .null] [] μ τ
  | 0, i, _, _, _, hm, _, _, _ => absurd hm (by omega)
  | m + 1, i, best, least, fr, hm, hi, hB, hV => by
    rcases hB with ⟨rfl, rfl⟩ | ⟨p0, hp0, rfl, rfl, hp40⟩
    · refine Zw_iload_5 dX11_stand_36 ?_
      refine Zw_bipush (v := 8) dX11_stand_38 (by decide) ?_
      refine Zw_nicmp_ge (i) (8) 104 dX11_stand_40 (by decide) rfl rfl (by omega) (by omega) (fun c40 => ?_) (fun c40 => ?_)
      · refine Zw_iload_2 dX11_stand_104 ?_
        refine Zw_if_ne 112 dX11_stand_105 (by decide) (fun c => absurd c (by decide)) (fun _ => ?_)
        refine Zw_iload_3 dX11_stand_108 ?_
        refine Zw_goto 136 dX11_stand_109 (by decide) ?_
        refine Zw_ireturn dX11_stand_136 (by first | rfl | assumption) ?_
        rw [show 8 - i = 0 by omega] at hV
        subst hV
        exact h
      · refine Zw_aload_0 dX11_stand_43 ?_
        refine Zw_iload_5 dX11_stand_44 ?_
        refine Zw_V1 (k := 0) lm_X11_366 dX11_stand_46 (by decide) (by first | decide | assumption | omega) (by first | rfl | assumption) (by rfl) (Nat.le_of_ble_eq_true rfl) ?_
        refine s_sureFrom (p := i) hD hth hT (by omega) (fun dN => ?_) (fun dY => ?_)
        · refine Zw_istore_6 dX11_stand_49 rfl ?_
          refine Zw_iload_4 dX11_stand_51 ?_
          refine Zw_iload_6 dX11_stand_53 ?_
          refine Zw_iconst (v := (-1)) dX11_stand_55 (by decide) ?_
          refine Zw_icmp_ne 63 dX11_stand_56 (by decide) (fun c => absurd c (by decide)) (fun _ => ?_)
          refine Zw_iconst (v := 0) dX11_stand_59 (by decide) ?_
          refine Zw_goto 64 dX11_stand_60 (by decide) ?_
          refine Zw_iload_5 dX11_stand_64 ?_
          refine Zw_ishl dX11_stand_66 ?_
          refine Zw_ior dX11_stand_67 ?_
          refine Zw_istore_4 dX11_stand_68 rfl ?_
          refine Zw_iload_6 dX11_stand_70 ?_
          refine Zw_iconst (v := (-1)) dX11_stand_72 (by decide) ?_
          refine Zw_icmp_eq 96 dX11_stand_73 (by decide) (fun _ => ?_) (fun c => absurd c (by decide))
          refine Zw_iload_3 dX11_stand_96 ?_
          refine Zw_istore_3 dX11_stand_97 rfl ?_
          refine Zw_iinc_5 dX11_stand_98 rfl (zincn _) ?_
          refine Zw_goto 36 dX11_stand_101 (by decide) ?_
          have hFi : c_sf C w f T i = -1 := c_sf_n dN
          have hl : q_lss (-1) (-1) = false := q_lss_f (fun e => e.1 rfl)
          rw [show 8 - i = (8 - (i + 1)) + 1 by omega, q_std_s] at hV
          simp only [] at hV
          rw [hFi, if_neg (by rw [hl]; simp), if_neg (by rw [hl]; simp), if_pos rfl] at hV
          rw [shl0 i (by omega), or_0]
          refine Zw_drop (L' := [.ref 61, .int (nI f), .int 0, .int (-1), .int fr, .int (nI (i + 1)), .null]) ⟨Or.inr rfl, Or.inr rfl, Or.inr rfl, Or.inr rfl, Or.inr rfl, Or.inr rfl, Or.inl rfl, trivial⟩ (Nat.le_of_ble_eq_true rfl) ?_
          exact l_mstd0 hD hth hT h m (i + 1) _ _ _ (by omega) (by omega) (Or.inl ⟨rfl, rfl⟩) hV
        · refine Zw_istore_6 dX11_stand_49 rfl ?_
          refine Zw_iload_4 dX11_stand_51 ?_
          refine Zw_iload_6 dX11_stand_53 ?_
          refine Zw_iconst (v := (-1)) dX11_stand_55 (by decide) ?_
          refine Zw_icmp_ne 63 dX11_stand_56 (by decide) (fun c56 => ?_) (fun c56 => absurd c56 (nI_m1 (by omega)))
          refine Zw_iconst (v := 1) dX11_stand_63 (by decide) ?_
          refine Zw_iload_5 dX11_stand_64 ?_
          refine Zw_ishl dX11_stand_66 ?_
          refine Zw_ior dX11_stand_67 ?_
          refine Zw_istore_4 dX11_stand_68 rfl ?_
          refine Zw_iload_6 dX11_stand_70 ?_
          refine Zw_iconst (v := (-1)) dX11_stand_72 (by decide) ?_
          refine Zw_icmp_eq 96 dX11_stand_73 (by decide) (fun c73 => absurd c73 (nI_m1 (by omega))) (fun c73 => ?_)
          refine Zw_iload_3 dX11_stand_76 ?_
          refine Zw_iconst (v := (-1)) dX11_stand_77 (by decide) ?_
          refine Zw_icmp_eq 91 dX11_stand_78 (by decide) (fun _ => ?_) (fun c => absurd c (by decide))
          refine Zw_iload_5 dX11_stand_91 ?_
          refine Zw_goto 97 dX11_stand_93 (by decide) ?_
          refine Zw_istore_3 dX11_stand_97 rfl ?_
          refine Zw_iinc_5 dX11_stand_98 rfl (zincn _) ?_
          refine Zw_goto 36 dX11_stand_101 (by decide) ?_
          have hFi : c_sf C w f T i = nI (c_D C w f 40 (8 * T + i)) := c_sf_y dY
          have hl : q_lss (nI (c_D C w f 40 (8 * T + i))) (-1) = true := q_lss_t ⟨nI_m1 (by omega), Or.inl rfl⟩
          rw [show 8 - i = (8 - (i + 1)) + 1 by omega, q_std_s] at hV
          simp only [] at hV
          rw [hFi, if_pos hl, if_pos hl, if_neg (nI_m1 (by omega))] at hV
          refine Zw_drop (L' := [.ref 61, .int (nI f), .int 0, .int (nI i), .int (fr ||| (1 <<< (nI i &&& 31))), .int (nI (i + 1)), .null]) ⟨Or.inr rfl, Or.inr rfl, Or.inr rfl, Or.inr rfl, Or.inr rfl, Or.inr rfl, Or.inl rfl, trivial⟩ (Nat.le_of_ble_eq_true rfl) ?_
          exact l_mstd0 hD hth hT h m (i + 1) _ _ _ (by omega) (by omega) (Or.inr ⟨i, by omega, rfl, rfl, dY⟩) hV
    · refine Zw_iload_5 dX11_stand_36 ?_
      refine Zw_bipush (v := 8) dX11_stand_38 (by decide) ?_
      refine Zw_nicmp_ge (i) (8) 104 dX11_stand_40 (by decide) rfl rfl (by omega) (by omega) (fun c40 => ?_) (fun c40 => ?_)
      · refine Zw_iload_2 dX11_stand_104 ?_
        refine Zw_if_ne 112 dX11_stand_105 (by decide) (fun c => absurd c (by decide)) (fun _ => ?_)
        refine Zw_iload_3 dX11_stand_108 ?_
        refine Zw_goto 136 dX11_stand_109 (by decide) ?_
        refine Zw_ireturn dX11_stand_136 (by first | rfl | assumption) ?_
        rw [show 8 - i = 0 by omega] at hV
        subst hV
        exact h
      · refine Zw_aload_0 dX11_stand_43 ?_
        refine Zw_iload_5 dX11_stand_44 ?_
        refine Zw_V1 (k := 0) lm_X11_366 dX11_stand_46 (by decide) (by first | decide | assumption | omega) (by first | rfl | assumption) (by rfl) (Nat.le_of_ble_eq_true rfl) ?_
        refine s_sureFrom (p := i) hD hth hT (by omega) (fun dN => ?_) (fun dY => ?_)
        · refine Zw_istore_6 dX11_stand_49 rfl ?_
          refine Zw_iload_4 dX11_stand_51 ?_
          refine Zw_iload_6 dX11_stand_53 ?_
          refine Zw_iconst (v := (-1)) dX11_stand_55 (by decide) ?_
          refine Zw_icmp_ne 63 dX11_stand_56 (by decide) (fun c => absurd c (by decide)) (fun _ => ?_)
          refine Zw_iconst (v := 0) dX11_stand_59 (by decide) ?_
          refine Zw_goto 64 dX11_stand_60 (by decide) ?_
          refine Zw_iload_5 dX11_stand_64 ?_
          refine Zw_ishl dX11_stand_66 ?_
          refine Zw_ior dX11_stand_67 ?_
          refine Zw_istore_4 dX11_stand_68 rfl ?_
          refine Zw_iload_6 dX11_stand_70 ?_
          refine Zw_iconst (v := (-1)) dX11_stand_72 (by decide) ?_
          refine Zw_icmp_eq 96 dX11_stand_73 (by decide) (fun _ => ?_) (fun c => absurd c (by decide))
          refine Zw_iload_3 dX11_stand_96 ?_
          refine Zw_istore_3 dX11_stand_97 rfl ?_
          refine Zw_iinc_5 dX11_stand_98 rfl (zincn _) ?_
          refine Zw_goto 36 dX11_stand_101 (by decide) ?_
          have hFi : c_sf C w f T i = -1 := c_sf_n dN
          have hl : q_lss (-1) (nI (c_D C w f 40 (8 * T + p0))) = false := q_lss_f (fun e => e.1 rfl)
          rw [show 8 - i = (8 - (i + 1)) + 1 by omega, q_std_s] at hV
          simp only [] at hV
          rw [hFi, if_neg (by rw [hl]; simp), if_neg (by rw [hl]; simp), if_pos rfl] at hV
          rw [shl0 i (by omega), or_0]
          refine Zw_drop (L' := [.ref 61, .int (nI f), .int 0, .int (nI p0), .int fr, .int (nI (i + 1)), .null]) ⟨Or.inr rfl, Or.inr rfl, Or.inr rfl, Or.inr rfl, Or.inr rfl, Or.inr rfl, Or.inl rfl, trivial⟩ (Nat.le_of_ble_eq_true rfl) ?_
          exact l_mstd0 hD hth hT h m (i + 1) _ _ _ (by omega) (by omega) (Or.inr ⟨p0, hp0, rfl, rfl, hp40⟩) hV
        · refine Zw_istore_6 dX11_stand_49 rfl ?_
          refine Zw_iload_4 dX11_stand_51 ?_
          refine Zw_iload_6 dX11_stand_53 ?_
          refine Zw_iconst (v := (-1)) dX11_stand_55 (by decide) ?_
          refine Zw_icmp_ne 63 dX11_stand_56 (by decide) (fun c56 => ?_) (fun c56 => absurd c56 (nI_m1 (by omega)))
          refine Zw_iconst (v := 1) dX11_stand_63 (by decide) ?_
          refine Zw_iload_5 dX11_stand_64 ?_
          refine Zw_ishl dX11_stand_66 ?_
          refine Zw_ior dX11_stand_67 ?_
          refine Zw_istore_4 dX11_stand_68 rfl ?_
          refine Zw_iload_6 dX11_stand_70 ?_
          refine Zw_iconst (v := (-1)) dX11_stand_72 (by decide) ?_
          refine Zw_icmp_eq 96 dX11_stand_73 (by decide) (fun c73 => absurd c73 (nI_m1 (by omega))) (fun c73 => ?_)
          refine Zw_iload_3 dX11_stand_76 ?_
          refine Zw_iconst (v := (-1)) dX11_stand_77 (by decide) ?_
          refine Zw_icmp_eq 91 dX11_stand_78 (by decide) (fun c78 => absurd c78 (nI_m1 (by omega))) (fun c78 => ?_)
          refine Zw_iload_6 dX11_stand_81 ?_
          refine Zw_aload_0 dX11_stand_83 ?_
          refine Zw_iload_3 dX11_stand_84 ?_
          refine Zw_V1 (k := 0) lm_X11_366 dX11_stand_85 (by decide) (by first | decide | assumption | omega) (by first | rfl | assumption) (by rfl) (Nat.le_of_ble_eq_true rfl) ?_
          refine s_sureFrom (p := p0) hD hth hT hp0 (fun dN => absurd dN (by omega)) (fun _ => ?_)
          refine Zw_nicmp_ge ((c_D C w f 40 (8 * T + i))) ((c_D C w f 40 (8 * T + p0))) 96 dX11_stand_88 (by decide) rfl rfl (by omega) (by omega) (fun c88 => ?_) (fun c88 => ?_)
          · refine Zw_iload_3 dX11_stand_96 ?_
            refine Zw_istore_3 dX11_stand_97 rfl ?_
            refine Zw_iinc_5 dX11_stand_98 rfl (zincn _) ?_
            refine Zw_goto 36 dX11_stand_101 (by decide) ?_
            have hFi : c_sf C w f T i = nI (c_D C w f 40 (8 * T + i)) := c_sf_y dY
            have hl : q_lss (nI (c_D C w f 40 (8 * T + i))) (nI (c_D C w f 40 (8 * T + p0))) = false := q_lss_f (fun e => e.2.elim (nI_m1 (by omega)) (fun e => absurd ((nI_ltI (by omega) (by omega)).mp e) (by omega)))
            rw [show 8 - i = (8 - (i + 1)) + 1 by omega, q_std_s] at hV
            simp only [] at hV
            rw [hFi, if_neg (by rw [hl]; simp), if_neg (by rw [hl]; simp), if_neg (nI_m1 (by omega))] at hV
            refine Zw_drop (L' := [.ref 61, .int (nI f), .int 0, .int (nI p0), .int (fr ||| (1 <<< (nI i &&& 31))), .int (nI (i + 1)), .null]) ⟨Or.inr rfl, Or.inr rfl, Or.inr rfl, Or.inr rfl, Or.inr rfl, Or.inr rfl, Or.inl rfl, trivial⟩ (Nat.le_of_ble_eq_true rfl) ?_
            exact l_mstd0 hD hth hT h m (i + 1) _ _ _ (by omega) (by omega) (Or.inr ⟨p0, hp0, rfl, rfl, hp40⟩) hV
          · refine Zw_iload_5 dX11_stand_91 ?_
            refine Zw_goto 97 dX11_stand_93 (by decide) ?_
            refine Zw_istore_3 dX11_stand_97 rfl ?_
            refine Zw_iinc_5 dX11_stand_98 rfl (zincn _) ?_
            refine Zw_goto 36 dX11_stand_101 (by decide) ?_
            have hFi : c_sf C w f T i = nI (c_D C w f 40 (8 * T + i)) := c_sf_y dY
            have hl : q_lss (nI (c_D C w f 40 (8 * T + i))) (nI (c_D C w f 40 (8 * T + p0))) = true := q_lss_t ⟨nI_m1 (by omega), Or.inr (nI_lt (by omega) (by omega))⟩
            rw [show 8 - i = (8 - (i + 1)) + 1 by omega, q_std_s] at hV
            simp only [] at hV
            rw [hFi, if_pos hl, if_pos hl, if_neg (nI_m1 (by omega))] at hV
            refine Zw_drop (L' := [.ref 61, .int (nI f), .int 0, .int (nI i), .int (fr ||| (1 <<< (nI i &&& 31))), .int (nI (i + 1)), .null]) ⟨Or.inr rfl, Or.inr rfl, Or.inr rfl, Or.inr rfl, Or.inr rfl, Or.inr rfl, Or.inl rfl, trivial⟩ (Nat.le_of_ble_eq_true rfl) ?_
            exact l_mstd0 hD hth hT h m (i + 1) _ _ _ (by omega) (by omega) (Or.inr ⟨i, by omega, rfl, rfl, dY⟩) hV
set_option maxRecDepth 20000 in
theorem s_mstand0 {C : mC} {w f T : Nat} {Q : zQ} {μ : zMu} {τ : Int64} (hc : m_cx C w μ) (hf : f < cN C) (hth : μ 65 3 = nI T) (hT : T < 256) (h : ∀ μ2 τ2, nOff [69, 70] μ μ2 → Q (some (.int (q_p3 (q_std (fun p => c_sf C w f T p) 8 0 (-1, -1, 0)) 0))) μ2 τ2) : Zc 46 yX11_stand cX11_stand 7 (some .int) [.ref 61, .int (nI f), .int 0] μ τ Q := by
  refine Zc.mk 4 [.ref 61, .int (nI f), .int 0, .null, .null, .null, .null] rfl (by decide) (Nat.le_of_ble_eq_true rfl) ?_
  refine Zw_aload_0 dX11_stand_0 ?_
  refine Zw_iload_1 dX11_stand_1 ?_
  refine Zw_V1 (k := 1) lm_X11_86 dX11_stand_2 (by decide) (by first | decide | assumption | omega) (by first | rfl | assumption) (by rfl) (Nat.le_of_ble_eq_true rfl) ?_
  refine s_isOne (cN C) hc.n5.1 hc.n5.2.1 (fun _ => ?_) (fun a0 => absurd (vp_in_nI hf (by have := hc.n5.1; omega)) a0)
  refine Zw_if_eq 20 dX11_stand_5 (by decide) (fun c => absurd c (by decide)) (fun _ => ?_)
  refine Zw_iload_2 dX11_stand_8 ?_
  refine Zw_i2l dX11_stand_9 ?_
  refine Zw_lconst (v := 0) dX11_stand_10 (by decide) ?_
  refine Zw_ldc2 dX11_stand_11 zw19 ?_
  refine Zw_S3 (k := 0) lm_X11_76 dX11_stand_14 (by decide) (Nat.le_of_ble_eq_true rfl) ?_
  refine s_in0 3 (by decide) (fun _ => ?_) (fun a0 => absurd (by unfold vp_in; decide) a0)
  refine Zw_if_ne 23 dX11_stand_17 (by decide) (fun _ => ?_) (fun c => absurd c (by decide))
  refine Zw_aload_0 dX11_stand_23 ?_
  refine Zw_iload_1 dX11_stand_24 ?_
  refine Zw_V1 (k := 45) lm_X11_362 dX11_stand_25 (by decide) (by first | decide | assumption | omega) (by first | rfl | assumption) (by rfl) (Nat.le_of_ble_eq_true rfl) ?_
  refine s_counts hc hf (fun μ1 τ1 o1 s1 hD1 => ?_)
  refine Zw_iconst (v := (-1)) dX11_stand_28 (by decide) ?_
  refine Zw_istore_3 dX11_stand_29 rfl ?_
  refine Zw_iconst (v := 0) dX11_stand_30 (by decide) ?_
  refine Zw_istore_4 dX11_stand_31 rfl ?_
  refine Zw_iconst (v := 0) dX11_stand_33 (by decide) ?_
  refine Zw_istore_5 dX11_stand_34 rfl ?_
  exact l_mstd0 hD1 (by rw [o1.fr (by decide) (by simp)]; exact hth) hT (h _ _ o1) 9 0 _ _ _ (by omega) (by omega) (Or.inl ⟨rfl, rfl⟩) rfl
set_option maxRecDepth 20000 in
theorem l_mstd1 {Q : zQ} {μ : zMu} {τ : Int64} {C : mC} {w f T : Nat} {R : Int32 × Int32 × Int32} (hD : ∀ x, x < 2048 → μ 70 x = nI (c_D C w f 40 x)) (hth : μ 65 3 = nI T) (hT : T < 256) (h : Q (some (.int (q_p3 R 1))) μ τ) : ∀ m i best least fr, 8 - i < m → i ≤ 8 → ((best = -1 ∧ least = -1) ∨ ∃ p0, p0 < 8 ∧ best = nI p0 ∧ least = nI (c_D C w f 40 (8 * T + p0)) ∧ (c_D C w f 40 (8 * T + p0)) ≤ 40) → q_std (fun p => c_sf C w f T p) (8 - i) i (best, least, fr) = R → Zw 46 RX11 cX11_stand 7 (some .int) Q 36 [.ref 61, .int (nI f), .int 1, .int best, .int fr, .int (nI i), .null] [] μ τ
  | 0, i, _, _, _, hm, _, _, _ => absurd hm (by omega)
  | m + 1, i, best, least, fr, hm, hi, hB, hV => by
    rcases hB with ⟨rfl, rfl⟩ | ⟨p0, hp0, rfl, rfl, hp40⟩
    · refine Zw_iload_5 dX11_stand_36 ?_
      refine Zw_bipush (v := 8) dX11_stand_38 (by decide) ?_
      refine Zw_nicmp_ge (i) (8) 104 dX11_stand_40 (by decide) rfl rfl (by omega) (by omega) (fun c40 => ?_) (fun c40 => ?_)
      · refine Zw_iload_2 dX11_stand_104 ?_
        refine Zw_if_ne 112 dX11_stand_105 (by decide) (fun _ => ?_) (fun c => absurd c (by decide))
        refine Zw_iload_2 dX11_stand_112 ?_
        refine Zw_iconst (v := 2) dX11_stand_113 (by decide) ?_
        refine Zw_icmp_ne 122 dX11_stand_114 (by decide) (fun _ => ?_) (fun c => absurd c (by decide))
        refine Zw_iload_3 dX11_stand_122 ?_
        refine Zw_iconst (v := (-1)) dX11_stand_123 (by decide) ?_
        refine Zw_icmp_ne 131 dX11_stand_124 (by decide) (fun c => absurd c (by decide)) (fun _ => ?_)
        refine Zw_iconst (v := (-1)) dX11_stand_127 (by decide) ?_
        refine Zw_goto 136 dX11_stand_128 (by decide) ?_
        refine Zw_ireturn dX11_stand_136 (by first | rfl | assumption) ?_
        rw [show 8 - i = 0 by omega] at hV
        subst hV
        exact h
      · refine Zw_aload_0 dX11_stand_43 ?_
        refine Zw_iload_5 dX11_stand_44 ?_
        refine Zw_V1 (k := 0) lm_X11_366 dX11_stand_46 (by decide) (by first | decide | assumption | omega) (by first | rfl | assumption) (by rfl) (Nat.le_of_ble_eq_true rfl) ?_
        refine s_sureFrom (p := i) hD hth hT (by omega) (fun dN => ?_) (fun dY => ?_)
        · refine Zw_istore_6 dX11_stand_49 rfl ?_
          refine Zw_iload_4 dX11_stand_51 ?_
          refine Zw_iload_6 dX11_stand_53 ?_
          refine Zw_iconst (v := (-1)) dX11_stand_55 (by decide) ?_
          refine Zw_icmp_ne 63 dX11_stand_56 (by decide) (fun c => absurd c (by decide)) (fun _ => ?_)
          refine Zw_iconst (v := 0) dX11_stand_59 (by decide) ?_
          refine Zw_goto 64 dX11_stand_60 (by decide) ?_
          refine Zw_iload_5 dX11_stand_64 ?_
          refine Zw_ishl dX11_stand_66 ?_
          refine Zw_ior dX11_stand_67 ?_
          refine Zw_istore_4 dX11_stand_68 rfl ?_
          refine Zw_iload_6 dX11_stand_70 ?_
          refine Zw_iconst (v := (-1)) dX11_stand_72 (by decide) ?_
          refine Zw_icmp_eq 96 dX11_stand_73 (by decide) (fun _ => ?_) (fun c => absurd c (by decide))
          refine Zw_iload_3 dX11_stand_96 ?_
          refine Zw_istore_3 dX11_stand_97 rfl ?_
          refine Zw_iinc_5 dX11_stand_98 rfl (zincn _) ?_
          refine Zw_goto 36 dX11_stand_101 (by decide) ?_
          have hFi : c_sf C w f T i = -1 := c_sf_n dN
          have hl : q_lss (-1) (-1) = false := q_lss_f (fun e => e.1 rfl)
          rw [show 8 - i = (8 - (i + 1)) + 1 by omega, q_std_s] at hV
          simp only [] at hV
          rw [hFi, if_neg (by rw [hl]; simp), if_neg (by rw [hl]; simp), if_pos rfl] at hV
          rw [shl0 i (by omega), or_0]
          refine Zw_drop (L' := [.ref 61, .int (nI f), .int 1, .int (-1), .int fr, .int (nI (i + 1)), .null]) ⟨Or.inr rfl, Or.inr rfl, Or.inr rfl, Or.inr rfl, Or.inr rfl, Or.inr rfl, Or.inl rfl, trivial⟩ (Nat.le_of_ble_eq_true rfl) ?_
          exact l_mstd1 hD hth hT h m (i + 1) _ _ _ (by omega) (by omega) (Or.inl ⟨rfl, rfl⟩) hV
        · refine Zw_istore_6 dX11_stand_49 rfl ?_
          refine Zw_iload_4 dX11_stand_51 ?_
          refine Zw_iload_6 dX11_stand_53 ?_
          refine Zw_iconst (v := (-1)) dX11_stand_55 (by decide) ?_
          refine Zw_icmp_ne 63 dX11_stand_56 (by decide) (fun c56 => ?_) (fun c56 => absurd c56 (nI_m1 (by omega)))
          refine Zw_iconst (v := 1) dX11_stand_63 (by decide) ?_
          refine Zw_iload_5 dX11_stand_64 ?_
          refine Zw_ishl dX11_stand_66 ?_
          refine Zw_ior dX11_stand_67 ?_
          refine Zw_istore_4 dX11_stand_68 rfl ?_
          refine Zw_iload_6 dX11_stand_70 ?_
          refine Zw_iconst (v := (-1)) dX11_stand_72 (by decide) ?_
          refine Zw_icmp_eq 96 dX11_stand_73 (by decide) (fun c73 => absurd c73 (nI_m1 (by omega))) (fun c73 => ?_)
          refine Zw_iload_3 dX11_stand_76 ?_
          refine Zw_iconst (v := (-1)) dX11_stand_77 (by decide) ?_
          refine Zw_icmp_eq 91 dX11_stand_78 (by decide) (fun _ => ?_) (fun c => absurd c (by decide))
          refine Zw_iload_5 dX11_stand_91 ?_
          refine Zw_goto 97 dX11_stand_93 (by decide) ?_
          refine Zw_istore_3 dX11_stand_97 rfl ?_
          refine Zw_iinc_5 dX11_stand_98 rfl (zincn _) ?_
          refine Zw_goto 36 dX11_stand_101 (by decide) ?_
          have hFi : c_sf C w f T i = nI (c_D C w f 40 (8 * T + i)) := c_sf_y dY
          have hl : q_lss (nI (c_D C w f 40 (8 * T + i))) (-1) = true := q_lss_t ⟨nI_m1 (by omega), Or.inl rfl⟩
          rw [show 8 - i = (8 - (i + 1)) + 1 by omega, q_std_s] at hV
          simp only [] at hV
          rw [hFi, if_pos hl, if_pos hl, if_neg (nI_m1 (by omega))] at hV
          refine Zw_drop (L' := [.ref 61, .int (nI f), .int 1, .int (nI i), .int (fr ||| (1 <<< (nI i &&& 31))), .int (nI (i + 1)), .null]) ⟨Or.inr rfl, Or.inr rfl, Or.inr rfl, Or.inr rfl, Or.inr rfl, Or.inr rfl, Or.inl rfl, trivial⟩ (Nat.le_of_ble_eq_true rfl) ?_
          exact l_mstd1 hD hth hT h m (i + 1) _ _ _ (by omega) (by omega) (Or.inr ⟨i, by omega, rfl, rfl, dY⟩) hV
    · refine Zw_iload_5 dX11_stand_36 ?_
      refine Zw_bipush (v := 8) dX11_stand_38 (by decide) ?_
      refine Zw_nicmp_ge (i) (8) 104 dX11_stand_40 (by decide) rfl rfl (by omega) (by omega) (fun c40 => ?_) (fun c40 => ?_)
      · refine Zw_iload_2 dX11_stand_104 ?_
        refine Zw_if_ne 112 dX11_stand_105 (by decide) (fun _ => ?_) (fun c => absurd c (by decide))
        refine Zw_iload_2 dX11_stand_112 ?_
        refine Zw_iconst (v := 2) dX11_stand_113 (by decide) ?_
        refine Zw_icmp_ne 122 dX11_stand_114 (by decide) (fun _ => ?_) (fun c => absurd c (by decide))
        refine Zw_iload_3 dX11_stand_122 ?_
        refine Zw_iconst (v := (-1)) dX11_stand_123 (by decide) ?_
        refine Zw_icmp_ne 131 dX11_stand_124 (by decide) (fun c124 => ?_) (fun c124 => absurd c124 (nI_m1 (by omega)))
        refine Zw_aload_0 dX11_stand_131 ?_
        refine Zw_iload_3 dX11_stand_132 ?_
        refine Zw_V1 (k := 0) lm_X11_366 dX11_stand_133 (by decide) (by first | decide | assumption | omega) (by first | rfl | assumption) (by rfl) (Nat.le_of_ble_eq_true rfl) ?_
        refine s_sureFrom (p := p0) hD hth hT hp0 (fun dN => absurd dN (by omega)) (fun _ => ?_)
        refine Zw_ireturn dX11_stand_136 (by first | rfl | assumption) ?_
        rw [show 8 - i = 0 by omega] at hV
        subst hV
        exact h
      · refine Zw_aload_0 dX11_stand_43 ?_
        refine Zw_iload_5 dX11_stand_44 ?_
        refine Zw_V1 (k := 0) lm_X11_366 dX11_stand_46 (by decide) (by first | decide | assumption | omega) (by first | rfl | assumption) (by rfl) (Nat.le_of_ble_eq_true rfl) ?_
        refine s_sureFrom (p := i) hD hth hT (by omega) (fun dN => ?_) (fun dY => ?_)
        · refine Zw_istore_6 dX11_stand_49 rfl ?_
          refine Zw_iload_4 dX11_stand_51 ?_
          refine Zw_iload_6 dX11_stand_53 ?_
          refine Zw_iconst (v := (-1)) dX11_stand_55 (by decide) ?_
          refine Zw_icmp_ne 63 dX11_stand_56 (by decide) (fun c => absurd c (by decide)) (fun _ => ?_)
          refine Zw_iconst (v := 0) dX11_stand_59 (by decide) ?_
          refine Zw_goto 64 dX11_stand_60 (by decide) ?_
          refine Zw_iload_5 dX11_stand_64 ?_
          refine Zw_ishl dX11_stand_66 ?_
          refine Zw_ior dX11_stand_67 ?_
          refine Zw_istore_4 dX11_stand_68 rfl ?_
          refine Zw_iload_6 dX11_stand_70 ?_
          refine Zw_iconst (v := (-1)) dX11_stand_72 (by decide) ?_
          refine Zw_icmp_eq 96 dX11_stand_73 (by decide) (fun _ => ?_) (fun c => absurd c (by decide))
          refine Zw_iload_3 dX11_stand_96 ?_
          refine Zw_istore_3 dX11_stand_97 rfl ?_
          refine Zw_iinc_5 dX11_stand_98 rfl (zincn _) ?_
          refine Zw_goto 36 dX11_stand_101 (by decide) ?_
          have hFi : c_sf C w f T i = -1 := c_sf_n dN
          have hl : q_lss (-1) (nI (c_D C w f 40 (8 * T + p0))) = false := q_lss_f (fun e => e.1 rfl)
          rw [show 8 - i = (8 - (i + 1)) + 1 by omega, q_std_s] at hV
          simp only [] at hV
          rw [hFi, if_neg (by rw [hl]; simp), if_neg (by rw [hl]; simp), if_pos rfl] at hV
          rw [shl0 i (by omega), or_0]
          refine Zw_drop (L' := [.ref 61, .int (nI f), .int 1, .int (nI p0), .int fr, .int (nI (i + 1)), .null]) ⟨Or.inr rfl, Or.inr rfl, Or.inr rfl, Or.inr rfl, Or.inr rfl, Or.inr rfl, Or.inl rfl, trivial⟩ (Nat.le_of_ble_eq_true rfl) ?_
          exact l_mstd1 hD hth hT h m (i + 1) _ _ _ (by omega) (by omega) (Or.inr ⟨p0, hp0, rfl, rfl, hp40⟩) hV
        · refine Zw_istore_6 dX11_stand_49 rfl ?_
          refine Zw_iload_4 dX11_stand_51 ?_
          refine Zw_iload_6 dX11_stand_53 ?_
          refine Zw_iconst (v := (-1)) dX11_stand_55 (by decide) ?_
          refine Zw_icmp_ne 63 dX11_stand_56 (by decide) (fun c56 => ?_) (fun c56 => absurd c56 (nI_m1 (by omega)))
          refine Zw_iconst (v := 1) dX11_stand_63 (by decide) ?_
          refine Zw_iload_5 dX11_stand_64 ?_
          refine Zw_ishl dX11_stand_66 ?_
          refine Zw_ior dX11_stand_67 ?_
          refine Zw_istore_4 dX11_stand_68 rfl ?_
          refine Zw_iload_6 dX11_stand_70 ?_
          refine Zw_iconst (v := (-1)) dX11_stand_72 (by decide) ?_
          refine Zw_icmp_eq 96 dX11_stand_73 (by decide) (fun c73 => absurd c73 (nI_m1 (by omega))) (fun c73 => ?_)
          refine Zw_iload_3 dX11_stand_76 ?_
          refine Zw_iconst (v := (-1)) dX11_stand_77 (by decide) ?_
          refine Zw_icmp_eq 91 dX11_stand_78 (by decide) (fun c78 => absurd c78 (nI_m1 (by omega))) (fun c78 => ?_)
          refine Zw_iload_6 dX11_stand_81 ?_
          refine Zw_aload_0 dX11_stand_83 ?_
          refine Zw_iload_3 dX11_stand_84 ?_
          refine Zw_V1 (k := 0) lm_X11_366 dX11_stand_85 (by decide) (by first | decide | assumption | omega) (by first | rfl | assumption) (by rfl) (Nat.le_of_ble_eq_true rfl) ?_
          refine s_sureFrom (p := p0) hD hth hT hp0 (fun dN => absurd dN (by omega)) (fun _ => ?_)
          refine Zw_nicmp_ge ((c_D C w f 40 (8 * T + i))) ((c_D C w f 40 (8 * T + p0))) 96 dX11_stand_88 (by decide) rfl rfl (by omega) (by omega) (fun c88 => ?_) (fun c88 => ?_)
          · refine Zw_iload_3 dX11_stand_96 ?_
            refine Zw_istore_3 dX11_stand_97 rfl ?_
            refine Zw_iinc_5 dX11_stand_98 rfl (zincn _) ?_
            refine Zw_goto 36 dX11_stand_101 (by decide) ?_
            have hFi : c_sf C w f T i = nI (c_D C w f 40 (8 * T + i)) := c_sf_y dY
            have hl : q_lss (nI (c_D C w f 40 (8 * T + i))) (nI (c_D C w f 40 (8 * T + p0))) = false := q_lss_f (fun e => e.2.elim (nI_m1 (by omega)) (fun e => absurd ((nI_ltI (by omega) (by omega)).mp e) (by omega)))
            rw [show 8 - i = (8 - (i + 1)) + 1 by omega, q_std_s] at hV
            simp only [] at hV
            rw [hFi, if_neg (by rw [hl]; simp), if_neg (by rw [hl]; simp), if_neg (nI_m1 (by omega))] at hV
            refine Zw_drop (L' := [.ref 61, .int (nI f), .int 1, .int (nI p0), .int (fr ||| (1 <<< (nI i &&& 31))), .int (nI (i + 1)), .null]) ⟨Or.inr rfl, Or.inr rfl, Or.inr rfl, Or.inr rfl, Or.inr rfl, Or.inr rfl, Or.inl rfl, trivial⟩ (Nat.le_of_ble_eq_true rfl) ?_
            exact l_mstd1 hD hth hT h m (i + 1) _ _ _ (by omega) (by omega) (Or.inr ⟨p0, hp0, rfl, rfl, hp40⟩) hV
          · refine Zw_iload_5 dX11_stand_91 ?_
            refine Zw_goto 97 dX11_stand_93 (by decide) ?_
            refine Zw_istore_3 dX11_stand_97 rfl ?_
            refine Zw_iinc_5 dX11_stand_98 rfl (zincn _) ?_
            refine Zw_goto 36 dX11_stand_101 (by decide) ?_
            have hFi : c_sf C w f T i = nI (c_D C w f 40 (8 * T + i)) := c_sf_y dY
            have hl : q_lss (nI (c_D C w f 40 (8 * T + i))) (nI (c_D C w f 40 (8 * T + p0))) = true := q_lss_t ⟨nI_m1 (by omega), Or.inr (nI_lt (by omega) (by omega))⟩
            rw [show 8 - i = (8 - (i + 1)) + 1 by omega, q_std_s] at hV
            simp only [] at hV
            rw [hFi, if_pos hl, if_pos hl, if_neg (nI_m1 (by omega))] at hV
            refine Zw_drop (L' := [.ref 61, .int (nI f), .int 1, .int (nI i), .int (fr ||| (1 <<< (nI i &&& 31))), .int (nI (i + 1)), .null]) ⟨Or.inr rfl, Or.inr rfl, Or.inr rfl, Or.inr rfl, Or.inr rfl, Or.inr rfl, Or.inl rfl, trivial⟩ (Nat.le_of_ble_eq_true rfl) ?_
            exact l_mstd1 hD hth hT h m (i + 1) _ _ _ (by omega) (by omega) (Or.inr ⟨i, by omega, rfl, rfl, dY⟩) hV
set_option maxRecDepth 20000 in
theorem s_mstand1 {C : mC} {w f T : Nat} {Q : zQ} {μ : zMu} {τ : Int64} (hc : m_cx C w μ) (hf : f < cN C) (hth : μ 65 3 = nI T) (hT : T < 256) (h : ∀ μ2 τ2, nOff [69, 70] μ μ2 → Q (some (.int (q_p3 (q_std (fun p => c_sf C w f T p) 8 0 (-1, -1, 0)) 1))) μ2 τ2) : Zc 46 yX11_stand cX11_stand 7 (some .int) [.ref 61, .int (nI f), .int 1] μ τ Q := by
  refine Zc.mk 4 [.ref 61, .int (nI f), .int 1, .null, .null, .null, .null] rfl (by decide) (Nat.le_of_ble_eq_true rfl) ?_
  refine Zw_aload_0 dX11_stand_0 ?_
  refine Zw_iload_1 dX11_stand_1 ?_
  refine Zw_V1 (k := 1) lm_X11_86 dX11_stand_2 (by decide) (by first | decide | assumption | omega) (by first | rfl | assumption) (by rfl) (Nat.le_of_ble_eq_true rfl) ?_
  refine s_isOne (cN C) hc.n5.1 hc.n5.2.1 (fun _ => ?_) (fun a0 => absurd (vp_in_nI hf (by have := hc.n5.1; omega)) a0)
  refine Zw_if_eq 20 dX11_stand_5 (by decide) (fun c => absurd c (by decide)) (fun _ => ?_)
  refine Zw_iload_2 dX11_stand_8 ?_
  refine Zw_i2l dX11_stand_9 ?_
  refine Zw_lconst (v := 0) dX11_stand_10 (by decide) ?_
  refine Zw_ldc2 dX11_stand_11 zw19 ?_
  refine Zw_S3 (k := 0) lm_X11_76 dX11_stand_14 (by decide) (Nat.le_of_ble_eq_true rfl) ?_
  refine s_in0 3 (by decide) (fun _ => ?_) (fun a0 => absurd (by unfold vp_in; decide) a0)
  refine Zw_if_ne 23 dX11_stand_17 (by decide) (fun _ => ?_) (fun c => absurd c (by decide))
  refine Zw_aload_0 dX11_stand_23 ?_
  refine Zw_iload_1 dX11_stand_24 ?_
  refine Zw_V1 (k := 45) lm_X11_362 dX11_stand_25 (by decide) (by first | decide | assumption | omega) (by first | rfl | assumption) (by rfl) (Nat.le_of_ble_eq_true rfl) ?_
  refine s_counts hc hf (fun μ1 τ1 o1 s1 hD1 => ?_)
  refine Zw_iconst (v := (-1)) dX11_stand_28 (by decide) ?_
  refine Zw_istore_3 dX11_stand_29 rfl ?_
  refine Zw_iconst (v := 0) dX11_stand_30 (by decide) ?_
  refine Zw_istore_4 dX11_stand_31 rfl ?_
  refine Zw_iconst (v := 0) dX11_stand_33 (by decide) ?_
  refine Zw_istore_5 dX11_stand_34 rfl ?_
  exact l_mstd1 hD1 (by rw [o1.fr (by decide) (by simp)]; exact hth) hT (h _ _ o1) 9 0 _ _ _ (by omega) (by omega) (Or.inl ⟨rfl, rfl⟩) rfl
set_option maxRecDepth 20000 in
theorem l_mstd2 {Q : zQ} {μ : zMu} {τ : Int64} {C : mC} {w f T : Nat} {R : Int32 × Int32 × Int32} (hD : ∀ x, x < 2048 → μ 70 x = nI (c_D C w f 40 x)) (hth : μ 65 3 = nI T) (hT : T < 256) (h : Q (some (.int (q_p3 R 2))) μ τ) : ∀ m i best least fr, 8 - i < m → i ≤ 8 → ((best = -1 ∧ least = -1) ∨ ∃ p0, p0 < 8 ∧ best = nI p0 ∧ least = nI (c_D C w f 40 (8 * T + p0)) ∧ (c_D C w f 40 (8 * T + p0)) ≤ 40) → q_std (fun p => c_sf C w f T p) (8 - i) i (best, least, fr) = R → Zw 46 RX11 cX11_stand 7 (some .int) Q 36 [.ref 61, .int (nI f), .int 2, .int best, .int fr, .int (nI i), .null] [] μ τ
  | 0, i, _, _, _, hm, _, _, _ => absurd hm (by omega)
  | m + 1, i, best, least, fr, hm, hi, hB, hV => by
    rcases hB with ⟨rfl, rfl⟩ | ⟨p0, hp0, rfl, rfl, hp40⟩
    · refine Zw_iload_5 dX11_stand_36 ?_
      refine Zw_bipush (v := 8) dX11_stand_38 (by decide) ?_
      refine Zw_nicmp_ge (i) (8) 104 dX11_stand_40 (by decide) rfl rfl (by omega) (by omega) (fun c40 => ?_) (fun c40 => ?_)
      · refine Zw_iload_2 dX11_stand_104 ?_
        refine Zw_if_ne 112 dX11_stand_105 (by decide) (fun _ => ?_) (fun c => absurd c (by decide))
        refine Zw_iload_2 dX11_stand_112 ?_
        refine Zw_iconst (v := 2) dX11_stand_113 (by decide) ?_
        refine Zw_icmp_ne 122 dX11_stand_114 (by decide) (fun c => absurd c (by decide)) (fun _ => ?_)
        refine Zw_iload_4 dX11_stand_117 ?_
        refine Zw_goto 136 dX11_stand_119 (by decide) ?_
        refine Zw_ireturn dX11_stand_136 (by first | rfl | assumption) ?_
        rw [show 8 - i = 0 by omega] at hV
        subst hV
        exact h
      · refine Zw_aload_0 dX11_stand_43 ?_
        refine Zw_iload_5 dX11_stand_44 ?_
        refine Zw_V1 (k := 0) lm_X11_366 dX11_stand_46 (by decide) (by first | decide | assumption | omega) (by first | rfl | assumption) (by rfl) (Nat.le_of_ble_eq_true rfl) ?_
        refine s_sureFrom (p := i) hD hth hT (by omega) (fun dN => ?_) (fun dY => ?_)
        · refine Zw_istore_6 dX11_stand_49 rfl ?_
          refine Zw_iload_4 dX11_stand_51 ?_
          refine Zw_iload_6 dX11_stand_53 ?_
          refine Zw_iconst (v := (-1)) dX11_stand_55 (by decide) ?_
          refine Zw_icmp_ne 63 dX11_stand_56 (by decide) (fun c => absurd c (by decide)) (fun _ => ?_)
          refine Zw_iconst (v := 0) dX11_stand_59 (by decide) ?_
          refine Zw_goto 64 dX11_stand_60 (by decide) ?_
          refine Zw_iload_5 dX11_stand_64 ?_
          refine Zw_ishl dX11_stand_66 ?_
          refine Zw_ior dX11_stand_67 ?_
          refine Zw_istore_4 dX11_stand_68 rfl ?_
          refine Zw_iload_6 dX11_stand_70 ?_
          refine Zw_iconst (v := (-1)) dX11_stand_72 (by decide) ?_
          refine Zw_icmp_eq 96 dX11_stand_73 (by decide) (fun _ => ?_) (fun c => absurd c (by decide))
          refine Zw_iload_3 dX11_stand_96 ?_
          refine Zw_istore_3 dX11_stand_97 rfl ?_
          refine Zw_iinc_5 dX11_stand_98 rfl (zincn _) ?_
          refine Zw_goto 36 dX11_stand_101 (by decide) ?_
          have hFi : c_sf C w f T i = -1 := c_sf_n dN
          have hl : q_lss (-1) (-1) = false := q_lss_f (fun e => e.1 rfl)
          rw [show 8 - i = (8 - (i + 1)) + 1 by omega, q_std_s] at hV
          simp only [] at hV
          rw [hFi, if_neg (by rw [hl]; simp), if_neg (by rw [hl]; simp), if_pos rfl] at hV
          rw [shl0 i (by omega), or_0]
          refine Zw_drop (L' := [.ref 61, .int (nI f), .int 2, .int (-1), .int fr, .int (nI (i + 1)), .null]) ⟨Or.inr rfl, Or.inr rfl, Or.inr rfl, Or.inr rfl, Or.inr rfl, Or.inr rfl, Or.inl rfl, trivial⟩ (Nat.le_of_ble_eq_true rfl) ?_
          exact l_mstd2 hD hth hT h m (i + 1) _ _ _ (by omega) (by omega) (Or.inl ⟨rfl, rfl⟩) hV
        · refine Zw_istore_6 dX11_stand_49 rfl ?_
          refine Zw_iload_4 dX11_stand_51 ?_
          refine Zw_iload_6 dX11_stand_53 ?_
          refine Zw_iconst (v := (-1)) dX11_stand_55 (by decide) ?_
          refine Zw_icmp_ne 63 dX11_stand_56 (by decide) (fun c56 => ?_) (fun c56 => absurd c56 (nI_m1 (by omega)))
          refine Zw_iconst (v := 1) dX11_stand_63 (by decide) ?_
          refine Zw_iload_5 dX11_stand_64 ?_
          refine Zw_ishl dX11_stand_66 ?_
          refine Zw_ior dX11_stand_67 ?_
          refine Zw_istore_4 dX11_stand_68 rfl ?_
          refine Zw_iload_6 dX11_stand_70 ?_
          refine Zw_iconst (v := (-1)) dX11_stand_72 (by decide) ?_
          refine Zw_icmp_eq 96 dX11_stand_73 (by decide) (fun c73 => absurd c73 (nI_m1 (by omega))) (fun c73 => ?_)
          refine Zw_iload_3 dX11_stand_76 ?_
          refine Zw_iconst (v := (-1)) dX11_stand_77 (by decide) ?_
          refine Zw_icmp_eq 91 dX11_stand_78 (by decide) (fun _ => ?_) (fun c => absurd c (by decide))
          refine Zw_iload_5 dX11_stand_91 ?_
          refine Zw_goto 97 dX11_stand_93 (by decide) ?_
          refine Zw_istore_3 dX11_stand_97 rfl ?_
          refine Zw_iinc_5 dX11_stand_98 rfl (zincn _) ?_
          refine Zw_goto 36 dX11_stand_101 (by decide) ?_
          have hFi : c_sf C w f T i = nI (c_D C w f 40 (8 * T + i)) := c_sf_y dY
          have hl : q_lss (nI (c_D C w f 40 (8 * T + i))) (-1) = true := q_lss_t ⟨nI_m1 (by omega), Or.inl rfl⟩
          rw [show 8 - i = (8 - (i + 1)) + 1 by omega, q_std_s] at hV
          simp only [] at hV
          rw [hFi, if_pos hl, if_pos hl, if_neg (nI_m1 (by omega))] at hV
          refine Zw_drop (L' := [.ref 61, .int (nI f), .int 2, .int (nI i), .int (fr ||| (1 <<< (nI i &&& 31))), .int (nI (i + 1)), .null]) ⟨Or.inr rfl, Or.inr rfl, Or.inr rfl, Or.inr rfl, Or.inr rfl, Or.inr rfl, Or.inl rfl, trivial⟩ (Nat.le_of_ble_eq_true rfl) ?_
          exact l_mstd2 hD hth hT h m (i + 1) _ _ _ (by omega) (by omega) (Or.inr ⟨i, by omega, rfl, rfl, dY⟩) hV
    · refine Zw_iload_5 dX11_stand_36 ?_
      refine Zw_bipush (v := 8) dX11_stand_38 (by decide) ?_
      refine Zw_nicmp_ge (i) (8) 104 dX11_stand_40 (by decide) rfl rfl (by omega) (by omega) (fun c40 => ?_) (fun c40 => ?_)
      · refine Zw_iload_2 dX11_stand_104 ?_
        refine Zw_if_ne 112 dX11_stand_105 (by decide) (fun _ => ?_) (fun c => absurd c (by decide))
        refine Zw_iload_2 dX11_stand_112 ?_
        refine Zw_iconst (v := 2) dX11_stand_113 (by decide) ?_
        refine Zw_icmp_ne 122 dX11_stand_114 (by decide) (fun c => absurd c (by decide)) (fun _ => ?_)
        refine Zw_iload_4 dX11_stand_117 ?_
        refine Zw_goto 136 dX11_stand_119 (by decide) ?_
        refine Zw_ireturn dX11_stand_136 (by first | rfl | assumption) ?_
        rw [show 8 - i = 0 by omega] at hV
        subst hV
        exact h
      · refine Zw_aload_0 dX11_stand_43 ?_
        refine Zw_iload_5 dX11_stand_44 ?_
        refine Zw_V1 (k := 0) lm_X11_366 dX11_stand_46 (by decide) (by first | decide | assumption | omega) (by first | rfl | assumption) (by rfl) (Nat.le_of_ble_eq_true rfl) ?_
        refine s_sureFrom (p := i) hD hth hT (by omega) (fun dN => ?_) (fun dY => ?_)
        · refine Zw_istore_6 dX11_stand_49 rfl ?_
          refine Zw_iload_4 dX11_stand_51 ?_
          refine Zw_iload_6 dX11_stand_53 ?_
          refine Zw_iconst (v := (-1)) dX11_stand_55 (by decide) ?_
          refine Zw_icmp_ne 63 dX11_stand_56 (by decide) (fun c => absurd c (by decide)) (fun _ => ?_)
          refine Zw_iconst (v := 0) dX11_stand_59 (by decide) ?_
          refine Zw_goto 64 dX11_stand_60 (by decide) ?_
          refine Zw_iload_5 dX11_stand_64 ?_
          refine Zw_ishl dX11_stand_66 ?_
          refine Zw_ior dX11_stand_67 ?_
          refine Zw_istore_4 dX11_stand_68 rfl ?_
          refine Zw_iload_6 dX11_stand_70 ?_
          refine Zw_iconst (v := (-1)) dX11_stand_72 (by decide) ?_
          refine Zw_icmp_eq 96 dX11_stand_73 (by decide) (fun _ => ?_) (fun c => absurd c (by decide))
          refine Zw_iload_3 dX11_stand_96 ?_
          refine Zw_istore_3 dX11_stand_97 rfl ?_
          refine Zw_iinc_5 dX11_stand_98 rfl (zincn _) ?_
          refine Zw_goto 36 dX11_stand_101 (by decide) ?_
          have hFi : c_sf C w f T i = -1 := c_sf_n dN
          have hl : q_lss (-1) (nI (c_D C w f 40 (8 * T + p0))) = false := q_lss_f (fun e => e.1 rfl)
          rw [show 8 - i = (8 - (i + 1)) + 1 by omega, q_std_s] at hV
          simp only [] at hV
          rw [hFi, if_neg (by rw [hl]; simp), if_neg (by rw [hl]; simp), if_pos rfl] at hV
          rw [shl0 i (by omega), or_0]
          refine Zw_drop (L' := [.ref 61, .int (nI f), .int 2, .int (nI p0), .int fr, .int (nI (i + 1)), .null]) ⟨Or.inr rfl, Or.inr rfl, Or.inr rfl, Or.inr rfl, Or.inr rfl, Or.inr rfl, Or.inl rfl, trivial⟩ (Nat.le_of_ble_eq_true rfl) ?_
          exact l_mstd2 hD hth hT h m (i + 1) _ _ _ (by omega) (by omega) (Or.inr ⟨p0, hp0, rfl, rfl, hp40⟩) hV
        · refine Zw_istore_6 dX11_stand_49 rfl ?_
          refine Zw_iload_4 dX11_stand_51 ?_
          refine Zw_iload_6 dX11_stand_53 ?_
          refine Zw_iconst (v := (-1)) dX11_stand_55 (by decide) ?_
          refine Zw_icmp_ne 63 dX11_stand_56 (by decide) (fun c56 => ?_) (fun c56 => absurd c56 (nI_m1 (by omega)))
          refine Zw_iconst (v := 1) dX11_stand_63 (by decide) ?_
          refine Zw_iload_5 dX11_stand_64 ?_
          refine Zw_ishl dX11_stand_66 ?_
          refine Zw_ior dX11_stand_67 ?_
          refine Zw_istore_4 dX11_stand_68 rfl ?_
          refine Zw_iload_6 dX11_stand_70 ?_
          refine Zw_iconst (v := (-1)) dX11_stand_72 (by decide) ?_
          refine Zw_icmp_eq 96 dX11_stand_73 (by decide) (fun c73 => absurd c73 (nI_m1 (by omega))) (fun c73 => ?_)
          refine Zw_iload_3 dX11_stand_76 ?_
          refine Zw_iconst (v := (-1)) dX11_stand_77 (by decide) ?_
          refine Zw_icmp_eq 91 dX11_stand_78 (by decide) (fun c78 => absurd c78 (nI_m1 (by omega))) (fun c78 => ?_)
          refine Zw_iload_6 dX11_stand_81 ?_
          refine Zw_aload_0 dX11_stand_83 ?_
          refine Zw_iload_3 dX11_stand_84 ?_
          refine Zw_V1 (k := 0) lm_X11_366 dX11_stand_85 (by decide) (by first | decide | assumption | omega) (by first | rfl | assumption) (by rfl) (Nat.le_of_ble_eq_true rfl) ?_
          refine s_sureFrom (p := p0) hD hth hT hp0 (fun dN => absurd dN (by omega)) (fun _ => ?_)
          refine Zw_nicmp_ge ((c_D C w f 40 (8 * T + i))) ((c_D C w f 40 (8 * T + p0))) 96 dX11_stand_88 (by decide) rfl rfl (by omega) (by omega) (fun c88 => ?_) (fun c88 => ?_)
          · refine Zw_iload_3 dX11_stand_96 ?_
            refine Zw_istore_3 dX11_stand_97 rfl ?_
            refine Zw_iinc_5 dX11_stand_98 rfl (zincn _) ?_
            refine Zw_goto 36 dX11_stand_101 (by decide) ?_
            have hFi : c_sf C w f T i = nI (c_D C w f 40 (8 * T + i)) := c_sf_y dY
            have hl : q_lss (nI (c_D C w f 40 (8 * T + i))) (nI (c_D C w f 40 (8 * T + p0))) = false := q_lss_f (fun e => e.2.elim (nI_m1 (by omega)) (fun e => absurd ((nI_ltI (by omega) (by omega)).mp e) (by omega)))
            rw [show 8 - i = (8 - (i + 1)) + 1 by omega, q_std_s] at hV
            simp only [] at hV
            rw [hFi, if_neg (by rw [hl]; simp), if_neg (by rw [hl]; simp), if_neg (nI_m1 (by omega))] at hV
            refine Zw_drop (L' := [.ref 61, .int (nI f), .int 2, .int (nI p0), .int (fr ||| (1 <<< (nI i &&& 31))), .int (nI (i + 1)), .null]) ⟨Or.inr rfl, Or.inr rfl, Or.inr rfl, Or.inr rfl, Or.inr rfl, Or.inr rfl, Or.inl rfl, trivial⟩ (Nat.le_of_ble_eq_true rfl) ?_
            exact l_mstd2 hD hth hT h m (i + 1) _ _ _ (by omega) (by omega) (Or.inr ⟨p0, hp0, rfl, rfl, hp40⟩) hV
          · refine Zw_iload_5 dX11_stand_91 ?_
            refine Zw_goto 97 dX11_stand_93 (by decide) ?_
            refine Zw_istore_3 dX11_stand_97 rfl ?_
            refine Zw_iinc_5 dX11_stand_98 rfl (zincn _) ?_
            refine Zw_goto 36 dX11_stand_101 (by decide) ?_
            have hFi : c_sf C w f T i = nI (c_D C w f 40 (8 * T + i)) := c_sf_y dY
            have hl : q_lss (nI (c_D C w f 40 (8 * T + i))) (nI (c_D C w f 40 (8 * T + p0))) = true := q_lss_t ⟨nI_m1 (by omega), Or.inr (nI_lt (by omega) (by omega))⟩
            rw [show 8 - i = (8 - (i + 1)) + 1 by omega, q_std_s] at hV
            simp only [] at hV
            rw [hFi, if_pos hl, if_pos hl, if_neg (nI_m1 (by omega))] at hV
            refine Zw_drop (L' := [.ref 61, .int (nI f), .int 2, .int (nI i), .int (fr ||| (1 <<< (nI i &&& 31))), .int (nI (i + 1)), .null]) ⟨Or.inr rfl, Or.inr rfl, Or.inr rfl, Or.inr rfl, Or.inr rfl, Or.inr rfl, Or.inl rfl, trivial⟩ (Nat.le_of_ble_eq_true rfl) ?_
            exact l_mstd2 hD hth hT h m (i + 1) _ _ _ (by omega) (by omega) (Or.inr ⟨i, by omega, rfl, rfl, dY⟩) hV
set_option maxRecDepth 20000 in
theorem s_mstand2 {C : mC} {w f T : Nat} {Q : zQ} {μ : zMu} {τ : Int64} (hc : m_cx C w μ) (hf : f < cN C) (hth : μ 65 3 = nI T) (hT : T < 256) (h : ∀ μ2 τ2, nOff [69, 70] μ μ2 → Q (some (.int (q_p3 (q_std (fun p => c_sf C w f T p) 8 0 (-1, -1, 0)) 2))) μ2 τ2) : Zc 46 yX11_stand cX11_stand 7 (some .int) [.ref 61, .int (nI f), .int 2] μ τ Q := by
  refine Zc.mk 4 [.ref 61, .int (nI f), .int 2, .null, .null, .null, .null] rfl (by decide) (Nat.le_of_ble_eq_true rfl) ?_
  refine Zw_aload_0 dX11_stand_0 ?_
  refine Zw_iload_1 dX11_stand_1 ?_
  refine Zw_V1 (k := 1) lm_X11_86 dX11_stand_2 (by decide) (by first | decide | assumption | omega) (by first | rfl | assumption) (by rfl) (Nat.le_of_ble_eq_true rfl) ?_
  refine s_isOne (cN C) hc.n5.1 hc.n5.2.1 (fun _ => ?_) (fun a0 => absurd (vp_in_nI hf (by have := hc.n5.1; omega)) a0)
  refine Zw_if_eq 20 dX11_stand_5 (by decide) (fun c => absurd c (by decide)) (fun _ => ?_)
  refine Zw_iload_2 dX11_stand_8 ?_
  refine Zw_i2l dX11_stand_9 ?_
  refine Zw_lconst (v := 0) dX11_stand_10 (by decide) ?_
  refine Zw_ldc2 dX11_stand_11 zw19 ?_
  refine Zw_S3 (k := 0) lm_X11_76 dX11_stand_14 (by decide) (Nat.le_of_ble_eq_true rfl) ?_
  refine s_in0 3 (by decide) (fun _ => ?_) (fun a0 => absurd (by unfold vp_in; decide) a0)
  refine Zw_if_ne 23 dX11_stand_17 (by decide) (fun _ => ?_) (fun c => absurd c (by decide))
  refine Zw_aload_0 dX11_stand_23 ?_
  refine Zw_iload_1 dX11_stand_24 ?_
  refine Zw_V1 (k := 45) lm_X11_362 dX11_stand_25 (by decide) (by first | decide | assumption | omega) (by first | rfl | assumption) (by rfl) (Nat.le_of_ble_eq_true rfl) ?_
  refine s_counts hc hf (fun μ1 τ1 o1 s1 hD1 => ?_)
  refine Zw_iconst (v := (-1)) dX11_stand_28 (by decide) ?_
  refine Zw_istore_3 dX11_stand_29 rfl ?_
  refine Zw_iconst (v := 0) dX11_stand_30 (by decide) ?_
  refine Zw_istore_4 dX11_stand_31 rfl ?_
  refine Zw_iconst (v := 0) dX11_stand_33 (by decide) ?_
  refine Zw_istore_5 dX11_stand_34 rfl ?_
  exact l_mstd2 hD1 (by rw [o1.fr (by decide) (by simp)]; exact hth) hT (h _ _ o1) 9 0 _ _ _ (by omega) (by omega) (Or.inl ⟨rfl, rfl⟩) rfl
