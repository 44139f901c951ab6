def m_fd (μ : zMu) (n : Nat) : Prop := n ≤ 5 ∧ μ 61 11 = nI n ∧ ∀ f, f < n → ∃ kd nu a : Nat, μ 67 f = nI kd ∧ kd < 6 ∧ μ 68 (3 * f) = nI nu ∧ nu < 10 ∧ μ 68 (3 * f + 1) = nI a ∧ a < 8
def m_ok (μ : zMu) (t n w : Nat) : Prop := (μ 61 4 = nI t ∧ t < 6 ∧ m_tx μ t) ∧ m_fd μ n ∧ μ 65 0 = nI w ∧ w < 2000 ∧ ∀ p, p < 8 → r8 (μ 66 p)
theorem m_ok.off {S : List Nat} {μ μ' : zMu} {t n w : Nat} (h : nOff S μ μ') (hx : m_ok μ t n w) (hS : 62 ∉ S ∧ 63 ∉ S ∧ 65 ∉ S ∧ 66 ∉ S ∧ 67 ∉ S ∧ 68 ∉ S) : m_ok μ' t n w := by
  obtain ⟨⟨a1, a2, a3⟩, ⟨b1, b2, b3⟩, c1, c2, c3⟩ := hx
  have hh : ∀ k, k ≠ 61 → k ∉ S → μ' k = μ k := fun k h1 h2 => h.1 k (by simp [h1, h2])
  refine ⟨⟨by rw [h.2 4 (Or.inl (by omega))]; exact a1, a2, m_tx_off h.1 (by simp [hS.1]) (by simp [hS.2.1]) a3⟩, ⟨b1, by rw [h.2 11 (Or.inl (by omega))]; exact b2, fun f hf => ?_⟩, ?_, c2, fun p hp => ?_⟩
  · rw [hh 67 (by decide) hS.2.2.2.2.1, hh 68 (by decide) hS.2.2.2.2.2]; exact b3 f hf
  · rw [hh 65 (by decide) hS.2.2.1]; exact c1
  · rw [hh 66 (by decide) hS.2.2.2.1]; exact c3 p hp
theorem r8_has1 : ∀ q, q < 8 → ∀ v, v < 256 → (((nI v >>> (nI q &&& 31)) &&& 1 = 1) ↔ q_has (nI v) q = true) := by decide +kernel
theorem r8_h1 {x : Int32} {q : Nat} (hx : r8 x) (hq : q < 8) : (((x >>> (nI q &&& 31)) &&& 1 = 1) ↔ q_has x q = true) := by
  obtain ⟨v, hv, rfl⟩ := hx
  exact r8_has1 q hq v hv
theorem shl0 : ∀ q, q < 32 → (0 : Int32) <<< (nI q &&& 31) = 0 := by decide +kernel
/-- as the reference lays them together -/
theorem q_next_m (sy : zSy) (ln : Nat → Int32) (ps wk : Int32) (p : Nat) : q_next sy ln ps wk p = if (if sy 1 (q_env (nI p) 0 wk 0 (q_bc (ln p)) ps) = true then q_bit p else 0) ||| q_orf (q_go sy ln ps wk p) 8 = 0 then q_bit p else (if sy 1 (q_env (nI p) 0 wk 0 (q_bc (ln p)) ps) = true then q_bit p else 0) ||| q_orf (q_go sy ln ps wk p) 8 := by
  unfold q_next
  by_cases h : sy 1 (q_env (nI p) 0 wk 0 (q_bc (ln p)) ps) = true
  · rw [if_pos (Or.inl h), if_pos h]
    split
    · rename_i h0
      have hc : q_bit p ||| q_orf (q_go sy ln ps wk p) 8 = q_orf (q_go sy ln ps wk p) 8 ||| q_bit p := Int32.or_comm ..
      rw [hc] at h0
      rw [h0]
      have hb : q_bit p = q_bit p &&& (q_orf (q_go sy ln ps wk p) 8 ||| q_bit p) := by
        apply Int32.toBitVec_inj.mp
        simp only [Int32.toBitVec_and, Int32.toBitVec_or]
        apply BitVec.eq_of_getLsbD_eq
        intro i hi
        simp only [BitVec.getLsbD_and, BitVec.getLsbD_or]
        cases (q_bit p).toBitVec.getLsbD i <;> simp
      rw [h0] at hb
      rw [hb]
      apply Int32.toBitVec_inj.mp
      simp
    · exact Int32.or_comm ..
  · rw [if_neg h, or_00]
    by_cases h0 : q_orf (q_go sy ln ps wk p) 8 = 0
    · rw [if_pos (Or.inr h0), if_pos h0, h0, or_00]
    · rw [if_neg (by simp [h, h0]), if_neg h0]
set_option maxRecDepth 20000 in
theorem l_cb {Q : zQ} {μ0 : zMu} {t n w p : Nat} {a0 : Int32} (hok : m_ok μ0 t n w) (hp : p < 8) (h : ∀ μ2 τ2, nOff [] μ0 μ2 → Q (some (.int (if a0 ||| q_orf (q_go (m_say μ0 t) (μ0 66) (μ0 65 1) (μ0 65 0) p) 8 = 0 then q_bit p else a0 ||| q_orf (q_go (m_say μ0 t) (μ0 66) (μ0 65 1) (μ0 65 0) p) 8))) μ2 τ2) : ∀ m i μ τ, 8 - i < m → i ≤ 8 → nOff [] μ0 μ → Zw 43 RX11 cX11_couldBe 4 (some .int) Q 21 [.ref 61, .int (nI p), .int (a0 ||| q_orf (q_go (m_say μ0 t) (μ0 66) (μ0 65 1) (μ0 65 0) p) i), .int (nI i)] [] μ τ
  | 0, i, _, _, hm, _, _ => absurd hm (by omega)
  | m + 1, i, μ, τ, hm, hi, hO => by
    have hokm := hok.off hO (by simp)
    have e66 : μ 66 = μ0 66 := hO.1 66 (by simp)
    have e650 : μ 65 0 = μ0 65 0 := by rw [hO.1 65 (by simp)]
    have e651 : μ 65 1 = μ0 65 1 := by rw [hO.1 65 (by simp)]
    have hms : m_say μ t = m_say μ0 t := m_say_off hO.1 (by simp) (by simp) (by simp; have := hok.1.2.1; omega) (by simp; have := hok.1.2.1; omega)
    have hl := hok.2.2.2.2 p hp
    rcases Nat.lt_or_ge i 8 with hlt | hge
    · refine Zw_iload_3 dX11_couldBe_21 ?_
      refine Zw_bipush (v := 8) dX11_couldBe_22 (by decide) ?_
      refine Zw_icmp_ge 68 dX11_couldBe_24 (by decide) (fun c24 => absurd c24 (fun e => absurd ((zle (N := 8) rfl (by decide) (by omega)).mp e) (by omega))) (fun c24 => ?_)
      refine Zw_aload_0 dX11_couldBe_27 ?_
      refine Zw_getr 66 lf_X11_26 dX11_couldBe_28 (by first | decide | assumption | omega) (by first | rfl | assumption) (by rfl) ?_
      refine Zw_iload_1 dX11_couldBe_31 ?_
      refine Zw_ialdnv (p) (μ0 66 p) dX11_couldBe_32 (by first | decide | assumption | omega) (by first | rfl | assumption) rfl (by omega) (by decide) (by rw [e66]) ?_
      refine Zw_iload_3 dX11_couldBe_33 ?_
      refine Zw_ishr dX11_couldBe_34 ?_
      refine Zw_iconst (v := 1) dX11_couldBe_35 (by decide) ?_
      refine Zw_iand dX11_couldBe_36 ?_
      refine Zw_iconst (v := 1) dX11_couldBe_37 (by decide) ?_
      refine Zw_icmp_ne 62 dX11_couldBe_38 (by decide) (fun c38 => ?_) (fun c38 => ?_)
      · refine Zw_iinc_3 dX11_couldBe_62 rfl (zincn _) ?_
        refine Zw_goto 21 dX11_couldBe_65 (by decide) ?_
        have hg : q_go (m_say μ0 t) (μ0 66) (μ0 65 1) (μ0 65 0) p i = 0 := by
          unfold q_go
          rw [if_neg (fun q => c38 ((r8_h1 hl hlt).mpr q.1))]
        have he : q_orf (q_go (m_say μ0 t) (μ0 66) (μ0 65 1) (μ0 65 0) p) i = q_orf (q_go (m_say μ0 t) (μ0 66) (μ0 65 1) (μ0 65 0) p) (i + 1) := by
          show _ = _ ||| _
          rw [hg, or_0]
        rw [he]
        refine Zw_drop (L' := [.ref 61, .int (nI p), .int (a0 ||| q_orf (q_go (m_say μ0 t) (μ0 66) (μ0 65 1) (μ0 65 0) p) (i + 1)), .int (nI (i + 1))]) ⟨Or.inr rfl, Or.inr rfl, Or.inr rfl, Or.inr rfl, trivial⟩ (Nat.le_of_ble_eq_true rfl) ?_
        exact l_cb hok hp h m (i + 1) μ τ (by omega) (by omega) hO
      · refine Zw_iload_2 dX11_couldBe_41 ?_
        refine Zw_aload_0 dX11_couldBe_42 ?_
        refine Zw_iconst (v := 0) dX11_couldBe_43 (by decide) ?_
        refine Zw_iload_1 dX11_couldBe_44 ?_
        refine Zw_iload_3 dX11_couldBe_45 ?_
        refine Zw_iconst (v := 0) dX11_couldBe_46 (by decide) ?_
        refine Zw_V4 (k := 42) lm_X11_332 dX11_couldBe_47 (by decide) (by first | decide | assumption | omega) (by first | rfl | assumption) (by rfl) (Nat.le_of_ble_eq_true rfl) ?_
        refine s_m_says0 hokm.1.1 hokm.1.2.1 hokm.1.2.2 hp (hokm.2.2.2.2 p hp) (fun s1 μ2 τ2 o2 => ?_) (fun s1 μ2 τ2 o2 => ?_)
        all_goals rw [hms] at s1
        · refine Zw_if_eq 59 dX11_couldBe_50 (by decide) (fun c => absurd c (by decide)) (fun _ => ?_)
          refine Zw_iconst (v := 1) dX11_couldBe_53 (by decide) ?_
          refine Zw_iload_3 dX11_couldBe_54 ?_
          refine Zw_ishl dX11_couldBe_55 ?_
          refine Zw_goto 60 dX11_couldBe_56 (by decide) ?_
          refine Zw_ior dX11_couldBe_60 ?_
          refine Zw_istore_2 dX11_couldBe_61 rfl ?_
          refine Zw_iinc_3 dX11_couldBe_62 rfl (zincn _) ?_
          refine Zw_goto 21 dX11_couldBe_65 (by decide) ?_
          rw [e66, e650, e651] at s1
          have hg : q_go (m_say μ0 t) (μ0 66) (μ0 65 1) (μ0 65 0) p i = (1 <<< (nI i &&& 31)) := by
            unfold q_go
            rw [if_pos ⟨(r8_h1 hl hlt).mp c38, s1⟩]; rfl
          have he : (a0 ||| q_orf (q_go (m_say μ0 t) (μ0 66) (μ0 65 1) (μ0 65 0) p) i) ||| (1 <<< (nI i &&& 31)) = a0 ||| q_orf (q_go (m_say μ0 t) (μ0 66) (μ0 65 1) (μ0 65 0) p) (i + 1) := by
            show _ = a0 ||| (_ ||| _)
            rw [hg, Int32.or_assoc]
          rw [he]
          refine Zw_drop (L' := [.ref 61, .int (nI p), .int (a0 ||| q_orf (q_go (m_say μ0 t) (μ0 66) (μ0 65 1) (μ0 65 0) p) (i + 1)), .int (nI (i + 1))]) ⟨Or.inr rfl, Or.inr rfl, Or.inr rfl, Or.inr rfl, trivial⟩ (Nat.le_of_ble_eq_true rfl) ?_
          exact l_cb hok hp h m (i + 1) μ2 τ2 (by omega) (by omega) (hO.tr o2)
        · refine Zw_if_eq 59 dX11_couldBe_50 (by decide) (fun _ => ?_) (fun c => absurd c (by decide))
          refine Zw_iconst (v := 0) dX11_couldBe_59 (by decide) ?_
          refine Zw_ior dX11_couldBe_60 ?_
          refine Zw_istore_2 dX11_couldBe_61 rfl ?_
          refine Zw_iinc_3 dX11_couldBe_62 rfl (zincn _) ?_
          refine Zw_goto 21 dX11_couldBe_65 (by decide) ?_
          rw [e66, e650, e651] at s1
          have hg : q_go (m_say μ0 t) (μ0 66) (μ0 65 1) (μ0 65 0) p i = 0 := by
            unfold q_go
            rw [if_neg (fun q => by rw [s1] at q; exact absurd q.2 (by decide))]
          have he : (a0 ||| q_orf (q_go (m_say μ0 t) (μ0 66) (μ0 65 1) (μ0 65 0) p) i) ||| 0 = a0 ||| q_orf (q_go (m_say μ0 t) (μ0 66) (μ0 65 1) (μ0 65 0) p) (i + 1) := by
            show _ = a0 ||| (_ ||| _)
            rw [hg, Int32.or_assoc]
          rw [he]
          refine Zw_drop (L' := [.ref 61, .int (nI p), .int (a0 ||| q_orf (q_go (m_say μ0 t) (μ0 66) (μ0 65 1) (μ0 65 0) p) (i + 1)), .int (nI (i + 1))]) ⟨Or.inr rfl, Or.inr rfl, Or.inr rfl, Or.inr rfl, trivial⟩ (Nat.le_of_ble_eq_true rfl) ?_
          exact l_cb hok hp h m (i + 1) μ2 τ2 (by omega) (by omega) (hO.tr o2)
    · have hi8 : i = 8 := by omega
      subst hi8
      refine Zw_iload_3 dX11_couldBe_21 ?_
      refine Zw_bipush (v := 8) dX11_couldBe_22 (by decide) ?_
      refine Zw_icmp_ge 68 dX11_couldBe_24 (by decide) (fun c24 => ?_) (fun c24 => absurd c24 (fun e => e (by decide)))
      refine Zw_iload_2 dX11_couldBe_68 ?_
      refine Zw_if_ne 78 dX11_couldBe_69 (by decide) (fun c69 => ?_) (fun c69 => ?_)
      · refine Zw_iload_2 dX11_couldBe_78 ?_
        refine Zw_ireturn dX11_couldBe_79 (by first | rfl | assumption) ?_
        have h := h μ τ hO
        rw [if_neg c69] at h
        exact h
      · refine Zw_iconst (v := 1) dX11_couldBe_72 (by decide) ?_
        refine Zw_iload_1 dX11_couldBe_73 ?_
        refine Zw_ishl dX11_couldBe_74 ?_
        refine Zw_goto 79 dX11_couldBe_75 (by decide) ?_
        refine Zw_ireturn dX11_couldBe_79 (by first | rfl | assumption) ?_
        have h := h μ τ hO
        rw [if_pos c69] at h
        exact h
set_option maxRecDepth 20000 in
theorem s_m_cb {t n w p : Nat} {Q : zQ} {μ : zMu} {τ : Int64} (hok : m_ok μ t n w) (hp : p < 8) (h : ∀ μ2 τ2, nOff [] μ μ2 → Q (some (.int (q_next (m_say μ t) (μ 66) (μ 65 1) (nI w) p))) μ2 τ2) : Zc 43 yX11_couldBe cX11_couldBe 4 (some .int) [.ref 61, .int (nI p)] μ τ Q := by
  refine Zc.mk 2 [.ref 61, .int (nI p), .null, .null] rfl (by decide) (Nat.le_of_ble_eq_true rfl) ?_
  refine Zw_aload_0 dX11_couldBe_0 ?_
  refine Zw_iconst (v := 1) dX11_couldBe_1 (by decide) ?_
  refine Zw_iload_1 dX11_couldBe_2 ?_
  refine Zw_iconst (v := 0) dX11_couldBe_3 (by decide) ?_
  refine Zw_iconst (v := 0) dX11_couldBe_4 (by decide) ?_
  refine Zw_V4 (k := 42) lm_X11_332 dX11_couldBe_5 (by decide) (by first | decide | assumption | omega) (by first | rfl | assumption) (by rfl) (Nat.le_of_ble_eq_true rfl) ?_
  refine s_m_says1 hok.1.1 hok.1.2.1 hok.1.2.2 hp (hok.2.2.2.2 p hp) (fun s1 μ1 τ1 o1 => ?_) (fun s1 μ1 τ1 o1 => ?_)
  · refine Zw_if_eq 17 dX11_couldBe_8 (by decide) (fun c => absurd c (by decide)) (fun _ => ?_)
    refine Zw_iconst (v := 1) dX11_couldBe_11 (by decide) ?_
    refine Zw_iload_1 dX11_couldBe_12 ?_
    refine Zw_ishl dX11_couldBe_13 ?_
    refine Zw_goto 18 dX11_couldBe_14 (by decide) ?_
    refine Zw_istore_2 dX11_couldBe_18 rfl ?_
    refine Zw_iconst (v := 0) dX11_couldBe_19 (by decide) ?_
    refine Zw_istore_3 dX11_couldBe_20 rfl ?_
    rw [show (1 <<< (nI p &&& 31)) = (1 <<< (nI p &&& 31)) ||| q_orf (q_go (m_say μ t) (μ 66) (μ 65 1) (μ 65 0) p) 0 from (or_0 _).symm]
    refine Zw_drop (L' := [.ref 61, .int (nI p), .int ((1 <<< (nI p &&& 31)) ||| q_orf (q_go (m_say μ t) (μ 66) (μ 65 1) (μ 65 0) p) 0), .int (nI 0)]) ⟨Or.inr rfl, Or.inr rfl, Or.inr rfl, Or.inr rfl, trivial⟩ (Nat.le_of_ble_eq_true rfl) ?_
    have hok2 := hok.off o1 (by simp)
    have e66 : μ1 66 = μ 66 := o1.1 66 (by simp)
    have e65 : μ1 65 = μ 65 := o1.1 65 (by simp)
    have hms : m_say μ1 t = m_say μ t := m_say_off o1.1 (by simp) (by simp) (by simp; have := hok.1.2.1; omega) (by simp; have := hok.1.2.1; omega)
    rw [← hms, ← e66, ← e65]
    refine l_cb hok2 hp (fun μ2 τ2 o2 => ?_) 9 0 μ1 τ1 (by omega) (by omega) (nOff.refl _ _)
    rw [hms, e66, e65]
    have hq := h μ2 τ2 (o1.tr o2)
    have hs0 : (if m_say μ t 1 (q_env (nI p) 0 (μ 65 0) 0 (q_bc (μ 66 p)) (μ 65 1)) = true then q_bit p else 0) = q_bit p := if_pos s1
    rw [q_next_m, ← hok.2.2.1, hs0] at hq
    exact hq
  · refine Zw_if_eq 17 dX11_couldBe_8 (by decide) (fun _ => ?_) (fun c => absurd c (by decide))
    refine Zw_iconst (v := 0) dX11_couldBe_17 (by decide) ?_
    refine Zw_istore_2 dX11_couldBe_18 rfl ?_
    refine Zw_iconst (v := 0) dX11_couldBe_19 (by decide) ?_
    refine Zw_istore_3 dX11_couldBe_20 rfl ?_
    refine Zw_drop (L' := [.ref 61, .int (nI p), .int (0 ||| q_orf (q_go (m_say μ t) (μ 66) (μ 65 1) (μ 65 0) p) 0), .int (nI 0)]) ⟨Or.inr rfl, Or.inr rfl, Or.inr (congrArg Value.int (or_0 _)), Or.inr rfl, trivial⟩ (Nat.le_of_ble_eq_true rfl) ?_
    have hok2 := hok.off o1 (by simp)
    have e66 : μ1 66 = μ 66 := o1.1 66 (by simp)
    have e65 : μ1 65 = μ 65 := o1.1 65 (by simp)
    have hms : m_say μ1 t = m_say μ t := m_say_off o1.1 (by simp) (by simp) (by simp; have := hok.1.2.1; omega) (by simp; have := hok.1.2.1; omega)
    rw [← hms, ← e66, ← e65]
    refine l_cb hok2 hp (fun μ2 τ2 o2 => ?_) 9 0 μ1 τ1 (by omega) (by omega) (nOff.refl _ _)
    rw [hms, e66, e65]
    have hq := h μ2 τ2 (o1.tr o2)
    have hs0 : (if m_say μ t 1 (q_env (nI p) 0 (μ 65 0) 0 (q_bc (μ 66 p)) (μ 65 1)) = true then q_bit p else 0) = 0 := if_neg (by rw [s1]; decide)
    rw [q_next_m, ← hok.2.2.1, hs0] at hq
    exact hq
abbrev mK (μ : zMu) (f : Nat) : Nat := (μ 67 f).toNatClampNeg
abbrev mN (μ : zMu) (f : Nat) : Nat := (μ 68 (3 * f)).toNatClampNeg
abbrev mA (μ : zMu) (f : Nat) : Nat := (μ 68 (3 * f + 1)).toNatClampNeg
abbrev m_mv (μ : zMu) (t w : Nat) : Nat → Int32 := fun p => q_next (m_say μ t) (μ 66) (μ 65 1) (nI w) p
abbrev m_see (μ : zMu) (t w kd nu p : Nat) : Bool := q_sees (m_say μ t) (μ 66) (μ 65 1) w kd nu p
abbrev m_wt (μ : zMu) (t n w : Nat) : Int32 := q_watch (m_say μ t) (μ 66) (μ 65 1) w n (mK μ) (mN μ) (mA μ)
set_option maxRecDepth 20000 in
theorem s_m_see0 {t n w f p nu : Nat} {Q : zQ} {μ : zMu} {τ : Int64} (hok : m_ok μ t n w) (hf : f < 5) (hp : p < 8) (hkd : μ 67 f = nI 0) (hnu : μ 68 (3 * f) = nI nu) (hn10 : nu < 10) (h1 : m_see μ t w 0 nu p = true → ∀ μ2 τ2, nOff [] μ μ2 → Q (some (.int 1)) μ2 τ2) (h0 : m_see μ t w 0 nu p = false → ∀ μ2 τ2, nOff [] μ μ2 → Q (some (.int 0)) μ2 τ2) : Zc 43 yX11_seesAt cX11_seesAt 7 (some .boolean) [.ref 61, .int (nI f), .int (nI p)] μ τ Q := by
  refine Zc.mk 4 [.ref 61, .int (nI f), .int (nI p), .null, .null, .null, .null] rfl (by decide) (Nat.le_of_ble_eq_true rfl) ?_
  have hw := hok.2.2.1
  have hw2 := hok.2.2.2.1
  refine Zw_aload_0 dX11_seesAt_0 ?_
  refine Zw_getr 67 lf_X11_29 dX11_seesAt_1 (by first | decide | assumption | omega) (by first | rfl | assumption) (by rfl) ?_
  refine Zw_iload_1 dX11_seesAt_4 ?_
  refine Zw_ialdnv (f) (nI 0) dX11_seesAt_5 (by first | decide | assumption | omega) (by first | rfl | assumption) rfl (by omega) (by decide) hkd ?_
  refine Zw_istore_3 dX11_seesAt_6 rfl ?_
  refine Zw_aload_0 dX11_seesAt_7 ?_
  refine Zw_getr 68 lf_X11_32 dX11_seesAt_8 (by first | decide | assumption | omega) (by first | rfl | assumption) (by rfl) ?_
  refine Zw_iconst (v := 3) dX11_seesAt_11 (by decide) ?_
  refine Zw_iload_1 dX11_seesAt_12 ?_
  refine Zw_nmul (3) (f) dX11_seesAt_13 rfl rfl ?_
  refine Zw_ialdnv ((3 * f)) (nI nu) dX11_seesAt_14 (by first | decide | assumption | omega) (by first | rfl | assumption) rfl (by omega) (by decide) hnu ?_
  refine Zw_istore_4 dX11_seesAt_15 rfl ?_
  refine Zw_iload_3 dX11_seesAt_17 ?_
  refine Zw_iconst (v := 3) dX11_seesAt_18 (by decide) ?_
  refine Zw_icmp_eq 27 dX11_seesAt_19 (by decide) (fun c => absurd c (by decide)) (fun _ => ?_)
  refine Zw_iload_3 dX11_seesAt_22 ?_
  refine Zw_iconst (v := 5) dX11_seesAt_23 (by decide) ?_
  refine Zw_icmp_ne 49 dX11_seesAt_24 (by decide) (fun _ => ?_) (fun c => absurd c (by decide))
  refine Zw_aload_0 dX11_seesAt_49 ?_
  refine Zw_iconst (v := 2) dX11_seesAt_50 (by decide) ?_
  refine Zw_iload_2 dX11_seesAt_51 ?_
  refine Zw_iconst (v := 0) dX11_seesAt_52 (by decide) ?_
  refine Zw_iload_4 dX11_seesAt_53 ?_
  refine Zw_V4 (k := 42) lm_X11_332 dX11_seesAt_55 (by decide) (by first | decide | assumption | omega) (by first | rfl | assumption) (by rfl) (Nat.le_of_ble_eq_true rfl) ?_
  refine s_m_says2 hok.1.1 hok.1.2.1 hok.1.2.2 hp (hok.2.2.2.2 p hp) (fun s1 μ1 τ1 o1 => ?_) (fun s1 μ1 τ1 o1 => ?_)
  · refine Zw_istore_5 dX11_seesAt_58 rfl ?_
    refine Zw_iload_5 dX11_seesAt_60 ?_
    refine Zw_if_eq 75 dX11_seesAt_62 (by decide) (fun c => absurd c (by decide)) (fun _ => ?_)
    refine Zw_iload_2 dX11_seesAt_65 ?_
    refine Zw_iconst (v := 2) dX11_seesAt_66 (by decide) ?_
    refine Zw_nrem (p) (2) dX11_seesAt_67 rfl rfl (by omega) (by omega) (by omega) ?_
    refine Zw_nif_ne ((p % 2)) 75 dX11_seesAt_68 (by decide) rfl (by omega) (fun c68 => ?_) (fun c68 => ?_)
    · refine Zw_iconst (v := 0) dX11_seesAt_75 (by decide) ?_
      refine Zw_istore_6 dX11_seesAt_76 rfl ?_
      refine Zw_iload_3 dX11_seesAt_78 ?_
      refine Zw_iconst (v := 1) dX11_seesAt_79 (by decide) ?_
      refine Zw_icmp_ne 105 dX11_seesAt_80 (by decide) (fun _ => ?_) (fun c => absurd c (by decide))
      refine Zw_iload_3 dX11_seesAt_105 ?_
      refine Zw_iconst (v := 2) dX11_seesAt_106 (by decide) ?_
      refine Zw_icmp_ne 115 dX11_seesAt_107 (by decide) (fun _ => ?_) (fun c => absurd c (by decide))
      refine Zw_iload_3 dX11_seesAt_115 ?_
      refine Zw_iconst (v := 4) dX11_seesAt_116 (by decide) ?_
      refine Zw_icmp_ne 144 dX11_seesAt_117 (by decide) (fun _ => ?_) (fun c => absurd c (by decide))
      refine Zw_iload_5 dX11_seesAt_144 ?_
      refine Zw_ireturn dX11_seesAt_146 (by first | rfl | assumption) ?_
      exact h1 (by unfold m_see q_sees; rw [← hw, s1]; unfold q_see; rfl) μ1 τ1 o1
    · refine Zw_iconst (v := 1) dX11_seesAt_71 (by decide) ?_
      refine Zw_goto 76 dX11_seesAt_72 (by decide) ?_
      refine Zw_istore_6 dX11_seesAt_76 rfl ?_
      refine Zw_iload_3 dX11_seesAt_78 ?_
      refine Zw_iconst (v := 1) dX11_seesAt_79 (by decide) ?_
      refine Zw_icmp_ne 105 dX11_seesAt_80 (by decide) (fun _ => ?_) (fun c => absurd c (by decide))
      refine Zw_iload_3 dX11_seesAt_105 ?_
      refine Zw_iconst (v := 2) dX11_seesAt_106 (by decide) ?_
      refine Zw_icmp_ne 115 dX11_seesAt_107 (by decide) (fun _ => ?_) (fun c => absurd c (by decide))
      refine Zw_iload_3 dX11_seesAt_115 ?_
      refine Zw_iconst (v := 4) dX11_seesAt_116 (by decide) ?_
      refine Zw_icmp_ne 144 dX11_seesAt_117 (by decide) (fun _ => ?_) (fun c => absurd c (by decide))
      refine Zw_iload_5 dX11_seesAt_144 ?_
      refine Zw_ireturn dX11_seesAt_146 (by first | rfl | assumption) ?_
      exact h1 (by unfold m_see q_sees; rw [← hw, s1]; unfold q_see; rfl) μ1 τ1 o1
  · refine Zw_istore_5 dX11_seesAt_58 rfl ?_
    refine Zw_iload_5 dX11_seesAt_60 ?_
    refine Zw_if_eq 75 dX11_seesAt_62 (by decide) (fun _ => ?_) (fun c => absurd c (by decide))
    refine Zw_iconst (v := 0) dX11_seesAt_75 (by decide) ?_
    refine Zw_istore_6 dX11_seesAt_76 rfl ?_
    refine Zw_iload_3 dX11_seesAt_78 ?_
    refine Zw_iconst (v := 1) dX11_seesAt_79 (by decide) ?_
    refine Zw_icmp_ne 105 dX11_seesAt_80 (by decide) (fun _ => ?_) (fun c => absurd c (by decide))
    refine Zw_iload_3 dX11_seesAt_105 ?_
    refine Zw_iconst (v := 2) dX11_seesAt_106 (by decide) ?_
    refine Zw_icmp_ne 115 dX11_seesAt_107 (by decide) (fun _ => ?_) (fun c => absurd c (by decide))
    refine Zw_iload_3 dX11_seesAt_115 ?_
    refine Zw_iconst (v := 4) dX11_seesAt_116 (by decide) ?_
    refine Zw_icmp_ne 144 dX11_seesAt_117 (by decide) (fun _ => ?_) (fun c => absurd c (by decide))
    refine Zw_iload_5 dX11_seesAt_144 ?_
    refine Zw_ireturn dX11_seesAt_146 (by first | rfl | assumption) ?_
    exact h0 (by unfold m_see q_sees; rw [← hw, s1]; unfold q_see; rfl) μ1 τ1 o1
set_option maxRecDepth 20000 in
theorem s_m_see1 {t n w f p nu : Nat} {Q : zQ} {μ : zMu} {τ : Int64} (hok : m_ok μ t n w) (hf : f < 5) (hp : p < 8) (hkd : μ 67 f = nI 1) (hnu : μ 68 (3 * f) = nI nu) (hn10 : nu < 10) (h1 : m_see μ t w 1 nu p = true → ∀ μ2 τ2, nOff [] μ μ2 → Q (some (.int 1)) μ2 τ2) (h0 : m_see μ t w 1 nu p = false → ∀ μ2 τ2, nOff [] μ μ2 → Q (some (.int 0)) μ2 τ2) : Zc 43 yX11_seesAt cX11_seesAt 7 (some .boolean) [.ref 61, .int (nI f), .int (nI p)] μ τ Q := by
  refine Zc.mk 4 [.ref 61, .int (nI f), .int (nI p), .null, .null, .null, .null] rfl (by decide) (Nat.le_of_ble_eq_true rfl) ?_
  have hw := hok.2.2.1
  have hw2 := hok.2.2.2.1
  refine Zw_aload_0 dX11_seesAt_0 ?_
  refine Zw_getr 67 lf_X11_29 dX11_seesAt_1 (by first | decide | assumption | omega) (by first | rfl | assumption) (by rfl) ?_
  refine Zw_iload_1 dX11_seesAt_4 ?_
  refine Zw_ialdnv (f) (nI 1) dX11_seesAt_5 (by first | decide | assumption | omega) (by first | rfl | assumption) rfl (by omega) (by decide) hkd ?_
  refine Zw_istore_3 dX11_seesAt_6 rfl ?_
  refine Zw_aload_0 dX11_seesAt_7 ?_
  refine Zw_getr 68 lf_X11_32 dX11_seesAt_8 (by first | decide | assumption | omega) (by first | rfl | assumption) (by rfl) ?_
  refine Zw_iconst (v := 3) dX11_seesAt_11 (by decide) ?_
  refine Zw_iload_1 dX11_seesAt_12 ?_
  refine Zw_nmul (3) (f) dX11_seesAt_13 rfl rfl ?_
  refine Zw_ialdnv ((3 * f)) (nI nu) dX11_seesAt_14 (by first | decide | assumption | omega) (by first | rfl | assumption) rfl (by omega) (by decide) hnu ?_
  refine Zw_istore_4 dX11_seesAt_15 rfl ?_
  refine Zw_iload_3 dX11_seesAt_17 ?_
  refine Zw_iconst (v := 3) dX11_seesAt_18 (by decide) ?_
  refine Zw_icmp_eq 27 dX11_seesAt_19 (by decide) (fun c => absurd c (by decide)) (fun _ => ?_)
  refine Zw_iload_3 dX11_seesAt_22 ?_
  refine Zw_iconst (v := 5) dX11_seesAt_23 (by decide) ?_
  refine Zw_icmp_ne 49 dX11_seesAt_24 (by decide) (fun _ => ?_) (fun c => absurd c (by decide))
  refine Zw_aload_0 dX11_seesAt_49 ?_
  refine Zw_iconst (v := 2) dX11_seesAt_50 (by decide) ?_
  refine Zw_iload_2 dX11_seesAt_51 ?_
  refine Zw_iconst (v := 0) dX11_seesAt_52 (by decide) ?_
  refine Zw_iload_4 dX11_seesAt_53 ?_
  refine Zw_V4 (k := 42) lm_X11_332 dX11_seesAt_55 (by decide) (by first | decide | assumption | omega) (by first | rfl | assumption) (by rfl) (Nat.le_of_ble_eq_true rfl) ?_
  refine s_m_says2 hok.1.1 hok.1.2.1 hok.1.2.2 hp (hok.2.2.2.2 p hp) (fun s1 μ1 τ1 o1 => ?_) (fun s1 μ1 τ1 o1 => ?_)
  · refine Zw_istore_5 dX11_seesAt_58 rfl ?_
    refine Zw_iload_5 dX11_seesAt_60 ?_
    refine Zw_if_eq 75 dX11_seesAt_62 (by decide) (fun c => absurd c (by decide)) (fun _ => ?_)
    refine Zw_iload_2 dX11_seesAt_65 ?_
    refine Zw_iconst (v := 2) dX11_seesAt_66 (by decide) ?_
    refine Zw_nrem (p) (2) dX11_seesAt_67 rfl rfl (by omega) (by omega) (by omega) ?_
    refine Zw_nif_ne ((p % 2)) 75 dX11_seesAt_68 (by decide) rfl (by omega) (fun c68 => ?_) (fun c68 => ?_)
    · refine Zw_iconst (v := 0) dX11_seesAt_75 (by decide) ?_
      refine Zw_istore_6 dX11_seesAt_76 rfl ?_
      refine Zw_iload_3 dX11_seesAt_78 ?_
      refine Zw_iconst (v := 1) dX11_seesAt_79 (by decide) ?_
      refine Zw_icmp_ne 105 dX11_seesAt_80 (by decide) (fun c => absurd c (by decide)) (fun _ => ?_)
      refine Zw_iload_5 dX11_seesAt_83 ?_
      refine Zw_if_ne 97 dX11_seesAt_85 (by decide) (fun _ => ?_) (fun c => absurd c (by decide))
      refine Zw_iconst (v := 1) dX11_seesAt_97 (by decide) ?_
      refine Zw_goto 146 dX11_seesAt_98 (by decide) ?_
      refine Zw_ireturn dX11_seesAt_146 (by first | rfl | assumption) ?_
      exact h1 (by unfold m_see q_sees; rw [← hw, s1]; unfold q_see; rfl) μ1 τ1 o1
    · refine Zw_iconst (v := 1) dX11_seesAt_71 (by decide) ?_
      refine Zw_goto 76 dX11_seesAt_72 (by decide) ?_
      refine Zw_istore_6 dX11_seesAt_76 rfl ?_
      refine Zw_iload_3 dX11_seesAt_78 ?_
      refine Zw_iconst (v := 1) dX11_seesAt_79 (by decide) ?_
      refine Zw_icmp_ne 105 dX11_seesAt_80 (by decide) (fun c => absurd c (by decide)) (fun _ => ?_)
      refine Zw_iload_5 dX11_seesAt_83 ?_
      refine Zw_if_ne 97 dX11_seesAt_85 (by decide) (fun _ => ?_) (fun c => absurd c (by decide))
      refine Zw_iconst (v := 1) dX11_seesAt_97 (by decide) ?_
      refine Zw_goto 146 dX11_seesAt_98 (by decide) ?_
      refine Zw_ireturn dX11_seesAt_146 (by first | rfl | assumption) ?_
      exact h1 (by unfold m_see q_sees; rw [← hw, s1]; unfold q_see; rfl) μ1 τ1 o1
  · refine Zw_istore_5 dX11_seesAt_58 rfl ?_
    refine Zw_iload_5 dX11_seesAt_60 ?_
    refine Zw_if_eq 75 dX11_seesAt_62 (by decide) (fun _ => ?_) (fun c => absurd c (by decide))
    refine Zw_iconst (v := 0) dX11_seesAt_75 (by decide) ?_
    refine Zw_istore_6 dX11_seesAt_76 rfl ?_
    refine Zw_iload_3 dX11_seesAt_78 ?_
    refine Zw_iconst (v := 1) dX11_seesAt_79 (by decide) ?_
    refine Zw_icmp_ne 105 dX11_seesAt_80 (by decide) (fun c => absurd c (by decide)) (fun _ => ?_)
    refine Zw_iload_5 dX11_seesAt_83 ?_
    refine Zw_if_ne 97 dX11_seesAt_85 (by decide) (fun c => absurd c (by decide)) (fun _ => ?_)
    refine Zw_iload_2 dX11_seesAt_88 ?_
    refine Zw_iload_4 dX11_seesAt_89 ?_
    refine Zw_bipush (v := 8) dX11_seesAt_91 (by decide) ?_
    refine Zw_nrem (nu) (8) dX11_seesAt_93 rfl rfl (by omega) (by omega) (by omega) ?_
    refine Zw_nicmp_ne (p) ((nu % 8)) 101 dX11_seesAt_94 (by decide) rfl rfl (by omega) (by omega) (fun c94 => ?_) (fun c94 => ?_)
    · refine Zw_iconst (v := 0) dX11_seesAt_101 (by decide) ?_
      refine Zw_goto 146 dX11_seesAt_102 (by decide) ?_
      refine Zw_ireturn dX11_seesAt_146 (by first | rfl | assumption) ?_
      exact h0 (by unfold m_see q_sees; rw [← hw, s1]; unfold q_see; exact decide_eq_false c94) μ1 τ1 o1
    · refine Zw_iconst (v := 1) dX11_seesAt_97 (by decide) ?_
      refine Zw_goto 146 dX11_seesAt_98 (by decide) ?_
      refine Zw_ireturn dX11_seesAt_146 (by first | rfl | assumption) ?_
      exact h1 (by unfold m_see q_sees; rw [← hw, s1]; unfold q_see; exact decide_eq_true c94) μ1 τ1 o1
set_option maxRecDepth 20000 in
theorem s_m_see2 {t n w f p nu : Nat} {Q : zQ} {μ : zMu} {τ : Int64} (hok : m_ok μ t n w) (hf : f < 5) (hp : p < 8) (hkd : μ 67 f = nI 2) (hnu : μ 68 (3 * f) = nI nu) (hn10 : nu < 10) (h1 : m_see μ t w 2 nu p = true → ∀ μ2 τ2, nOff [] μ μ2 → Q (some (.int 1)) μ2 τ2) (h0 : m_see μ t w 2 nu p = false → ∀ μ2 τ2, nOff [] μ μ2 → Q (some (.int 0)) μ2 τ2) : Zc 43 yX11_seesAt cX11_seesAt 7 (some .boolean) [.ref 61, .int (nI f), .int (nI p)] μ τ Q := by
  refine Zc.mk 4 [.ref 61, .int (nI f), .int (nI p), .null, .null, .null, .null] rfl (by decide) (Nat.le_of_ble_eq_true rfl) ?_
  have hw := hok.2.2.1
  have hw2 := hok.2.2.2.1
  refine Zw_aload_0 dX11_seesAt_0 ?_
  refine Zw_getr 67 lf_X11_29 dX11_seesAt_1 (by first | decide | assumption | omega) (by first | rfl | assumption) (by rfl) ?_
  refine Zw_iload_1 dX11_seesAt_4 ?_
  refine Zw_ialdnv (f) (nI 2) dX11_seesAt_5 (by first | decide | assumption | omega) (by first | rfl | assumption) rfl (by omega) (by decide) hkd ?_
  refine Zw_istore_3 dX11_seesAt_6 rfl ?_
  refine Zw_aload_0 dX11_seesAt_7 ?_
  refine Zw_getr 68 lf_X11_32 dX11_seesAt_8 (by first | decide | assumption | omega) (by first | rfl | assumption) (by rfl) ?_
  refine Zw_iconst (v := 3) dX11_seesAt_11 (by decide) ?_
  refine Zw_iload_1 dX11_seesAt_12 ?_
  refine Zw_nmul (3) (f) dX11_seesAt_13 rfl rfl ?_
  refine Zw_ialdnv ((3 * f)) (nI nu) dX11_seesAt_14 (by first | decide | assumption | omega) (by first | rfl | assumption) rfl (by omega) (by decide) hnu ?_
  refine Zw_istore_4 dX11_seesAt_15 rfl ?_
  refine Zw_iload_3 dX11_seesAt_17 ?_
  refine Zw_iconst (v := 3) dX11_seesAt_18 (by decide) ?_
  refine Zw_icmp_eq 27 dX11_seesAt_19 (by decide) (fun c => absurd c (by decide)) (fun _ => ?_)
  refine Zw_iload_3 dX11_seesAt_22 ?_
  refine Zw_iconst (v := 5) dX11_seesAt_23 (by decide) ?_
  refine Zw_icmp_ne 49 dX11_seesAt_24 (by decide) (fun _ => ?_) (fun c => absurd c (by decide))
  refine Zw_aload_0 dX11_seesAt_49 ?_
  refine Zw_iconst (v := 2) dX11_seesAt_50 (by decide) ?_
  refine Zw_iload_2 dX11_seesAt_51 ?_
  refine Zw_iconst (v := 0) dX11_seesAt_52 (by decide) ?_
  refine Zw_iload_4 dX11_seesAt_53 ?_
  refine Zw_V4 (k := 42) lm_X11_332 dX11_seesAt_55 (by decide) (by first | decide | assumption | omega) (by first | rfl | assumption) (by rfl) (Nat.le_of_ble_eq_true rfl) ?_
  refine s_m_says2 hok.1.1 hok.1.2.1 hok.1.2.2 hp (hok.2.2.2.2 p hp) (fun s1 μ1 τ1 o1 => ?_) (fun s1 μ1 τ1 o1 => ?_)
  · refine Zw_istore_5 dX11_seesAt_58 rfl ?_
    refine Zw_iload_5 dX11_seesAt_60 ?_
    refine Zw_if_eq 75 dX11_seesAt_62 (by decide) (fun c => absurd c (by decide)) (fun _ => ?_)
    refine Zw_iload_2 dX11_seesAt_65 ?_
    refine Zw_iconst (v := 2) dX11_seesAt_66 (by decide) ?_
    refine Zw_nrem (p) (2) dX11_seesAt_67 rfl rfl (by omega) (by omega) (by omega) ?_
    refine Zw_nif_ne ((p % 2)) 75 dX11_seesAt_68 (by decide) rfl (by omega) (fun c68 => ?_) (fun c68 => ?_)
    · refine Zw_iconst (v := 0) dX11_seesAt_75 (by decide) ?_
      refine Zw_istore_6 dX11_seesAt_76 rfl ?_
      refine Zw_iload_3 dX11_seesAt_78 ?_
      refine Zw_iconst (v := 1) dX11_seesAt_79 (by decide) ?_
      refine Zw_icmp_ne 105 dX11_seesAt_80 (by decide) (fun _ => ?_) (fun c => absurd c (by decide))
      refine Zw_iload_3 dX11_seesAt_105 ?_
      refine Zw_iconst (v := 2) dX11_seesAt_106 (by decide) ?_
      refine Zw_icmp_ne 115 dX11_seesAt_107 (by decide) (fun c => absurd c (by decide)) (fun _ => ?_)
      refine Zw_iload_6 dX11_seesAt_110 ?_
      refine Zw_goto 146 dX11_seesAt_112 (by decide) ?_
      refine Zw_ireturn dX11_seesAt_146 (by first | rfl | assumption) ?_
      exact h0 (by unfold m_see q_sees; rw [← hw, s1]; unfold q_see; exact decide_eq_false c68) μ1 τ1 o1
    · refine Zw_iconst (v := 1) dX11_seesAt_71 (by decide) ?_
      refine Zw_goto 76 dX11_seesAt_72 (by decide) ?_
      refine Zw_istore_6 dX11_seesAt_76 rfl ?_
      refine Zw_iload_3 dX11_seesAt_78 ?_
      refine Zw_iconst (v := 1) dX11_seesAt_79 (by decide) ?_
      refine Zw_icmp_ne 105 dX11_seesAt_80 (by decide) (fun _ => ?_) (fun c => absurd c (by decide))
      refine Zw_iload_3 dX11_seesAt_105 ?_
      refine Zw_iconst (v := 2) dX11_seesAt_106 (by decide) ?_
      refine Zw_icmp_ne 115 dX11_seesAt_107 (by decide) (fun c => absurd c (by decide)) (fun _ => ?_)
      refine Zw_iload_6 dX11_seesAt_110 ?_
      refine Zw_goto 146 dX11_seesAt_112 (by decide) ?_
      refine Zw_ireturn dX11_seesAt_146 (by first | rfl | assumption) ?_
      exact h1 (by unfold m_see q_sees; rw [← hw, s1]; unfold q_see; exact decide_eq_true c68) μ1 τ1 o1
  · refine Zw_istore_5 dX11_seesAt_58 rfl ?_
    refine Zw_iload_5 dX11_seesAt_60 ?_
    refine Zw_if_eq 75 dX11_seesAt_62 (by decide) (fun _ => ?_) (fun c => absurd c (by decide))
    refine Zw_iconst (v := 0) dX11_seesAt_75 (by decide) ?_
    refine Zw_istore_6 dX11_seesAt_76 rfl ?_
    refine Zw_iload_3 dX11_seesAt_78 ?_
    refine Zw_iconst (v := 1) dX11_seesAt_79 (by decide) ?_
    refine Zw_icmp_ne 105 dX11_seesAt_80 (by decide) (fun _ => ?_) (fun c => absurd c (by decide))
    refine Zw_iload_3 dX11_seesAt_105 ?_
    refine Zw_iconst (v := 2) dX11_seesAt_106 (by decide) ?_
    refine Zw_icmp_ne 115 dX11_seesAt_107 (by decide) (fun c => absurd c (by decide)) (fun _ => ?_)
    refine Zw_iload_6 dX11_seesAt_110 ?_
    refine Zw_goto 146 dX11_seesAt_112 (by decide) ?_
    refine Zw_ireturn dX11_seesAt_146 (by first | rfl | assumption) ?_
    exact h0 (by unfold m_see q_sees; rw [← hw, s1]; unfold q_see; rfl) μ1 τ1 o1
set_option maxRecDepth 20000 in
theorem s_m_see3 {t n w f p nu : Nat} {Q : zQ} {μ : zMu} {τ : Int64} (hok : m_ok μ t n w) (hf : f < 5) (hp : p < 8) (hkd : μ 67 f = nI 3) (hnu : μ 68 (3 * f) = nI nu) (hn10 : nu < 10) (h1 : m_see μ t w 3 nu p = true → ∀ μ2 τ2, nOff [] μ μ2 → Q (some (.int 1)) μ2 τ2) (h0 : m_see μ t w 3 nu p = false → ∀ μ2 τ2, nOff [] μ μ2 → Q (some (.int 0)) μ2 τ2) : Zc 43 yX11_seesAt cX11_seesAt 7 (some .boolean) [.ref 61, .int (nI f), .int (nI p)] μ τ Q := by
  refine Zc.mk 4 [.ref 61, .int (nI f), .int (nI p), .null, .null, .null, .null] rfl (by decide) (Nat.le_of_ble_eq_true rfl) ?_
  have hw := hok.2.2.1
  have hw2 := hok.2.2.2.1
  refine Zw_aload_0 dX11_seesAt_0 ?_
  refine Zw_getr 67 lf_X11_29 dX11_seesAt_1 (by first | decide | assumption | omega) (by first | rfl | assumption) (by rfl) ?_
  refine Zw_iload_1 dX11_seesAt_4 ?_
  refine Zw_ialdnv (f) (nI 3) dX11_seesAt_5 (by first | decide | assumption | omega) (by first | rfl | assumption) rfl (by omega) (by decide) hkd ?_
  refine Zw_istore_3 dX11_seesAt_6 rfl ?_
  refine Zw_aload_0 dX11_seesAt_7 ?_
  refine Zw_getr 68 lf_X11_32 dX11_seesAt_8 (by first | decide | assumption | omega) (by first | rfl | assumption) (by rfl) ?_
  refine Zw_iconst (v := 3) dX11_seesAt_11 (by decide) ?_
  refine Zw_iload_1 dX11_seesAt_12 ?_
  refine Zw_nmul (3) (f) dX11_seesAt_13 rfl rfl ?_
  refine Zw_ialdnv ((3 * f)) (nI nu) dX11_seesAt_14 (by first | decide | assumption | omega) (by first | rfl | assumption) rfl (by omega) (by decide) hnu ?_
  refine Zw_istore_4 dX11_seesAt_15 rfl ?_
  refine Zw_iload_3 dX11_seesAt_17 ?_
  refine Zw_iconst (v := 3) dX11_seesAt_18 (by decide) ?_
  refine Zw_icmp_eq 27 dX11_seesAt_19 (by decide) (fun _ => ?_) (fun c => absurd c (by decide))
  refine Zw_iload_3 dX11_seesAt_27 ?_
  refine Zw_iconst (v := 3) dX11_seesAt_28 (by decide) ?_
  refine Zw_icmp_ne 47 dX11_seesAt_29 (by decide) (fun c => absurd c (by decide)) (fun _ => ?_)
  refine Zw_aload_0 dX11_seesAt_32 ?_
  refine Zw_getr 65 lf_X11_23 dX11_seesAt_33 (by first | decide | assumption | omega) (by first | rfl | assumption) (by rfl) ?_
  refine Zw_iconst (v := 1) dX11_seesAt_36 (by decide) ?_
  refine Zw_ialdnv (1) (μ 65 1) dX11_seesAt_37 (by first | decide | assumption | omega) (by first | rfl | assumption) rfl (by omega) (by decide) rfl ?_
  refine Zw_iload_4 dX11_seesAt_38 ?_
  refine Zw_icmp_eq 47 dX11_seesAt_40 (by decide) (fun c40 => ?_) (fun c40 => ?_)
  · refine Zw_iconst (v := 0) dX11_seesAt_47 (by decide) ?_
    refine Zw_ireturn dX11_seesAt_48 (by first | rfl | assumption) ?_
    exact h0 (by unfold m_see q_sees q_see; exact decide_eq_false (fun q => q c40)) μ τ (nOff.refl _ _)
  · refine Zw_iconst (v := 1) dX11_seesAt_43 (by decide) ?_
    refine Zw_goto 48 dX11_seesAt_44 (by decide) ?_
    refine Zw_ireturn dX11_seesAt_48 (by first | rfl | assumption) ?_
    exact h1 (by unfold m_see q_sees q_see; exact decide_eq_true c40) μ τ (nOff.refl _ _)
set_option maxRecDepth 20000 in
theorem s_m_see4 {t n w f p nu : Nat} {Q : zQ} {μ : zMu} {τ : Int64} (hok : m_ok μ t n w) (hf : f < 5) (hp : p < 8) (hkd : μ 67 f = nI 4) (hnu : μ 68 (3 * f) = nI nu) (hn10 : nu < 10) (h1 : m_see μ t w 4 nu p = true → ∀ μ2 τ2, nOff [] μ μ2 → Q (some (.int 1)) μ2 τ2) (h0 : m_see μ t w 4 nu p = false → ∀ μ2 τ2, nOff [] μ μ2 → Q (some (.int 0)) μ2 τ2) : Zc 43 yX11_seesAt cX11_seesAt 7 (some .boolean) [.ref 61, .int (nI f), .int (nI p)] μ τ Q := by
  refine Zc.mk 4 [.ref 61, .int (nI f), .int (nI p), .null, .null, .null, .null] rfl (by decide) (Nat.le_of_ble_eq_true rfl) ?_
  have hw := hok.2.2.1
  have hw2 := hok.2.2.2.1
  refine Zw_aload_0 dX11_seesAt_0 ?_
  refine Zw_getr 67 lf_X11_29 dX11_seesAt_1 (by first | decide | assumption | omega) (by first | rfl | assumption) (by rfl) ?_
  refine Zw_iload_1 dX11_seesAt_4 ?_
  refine Zw_ialdnv (f) (nI 4) dX11_seesAt_5 (by first | decide | assumption | omega) (by first | rfl | assumption) rfl (by omega) (by decide) hkd ?_
  refine Zw_istore_3 dX11_seesAt_6 rfl ?_
  refine Zw_aload_0 dX11_seesAt_7 ?_
  refine Zw_getr 68 lf_X11_32 dX11_seesAt_8 (by first | decide | assumption | omega) (by first | rfl | assumption) (by rfl) ?_
  refine Zw_iconst (v := 3) dX11_seesAt_11 (by decide) ?_
  refine Zw_iload_1 dX11_seesAt_12 ?_
  refine Zw_nmul (3) (f) dX11_seesAt_13 rfl rfl ?_
  refine Zw_ialdnv ((3 * f)) (nI nu) dX11_seesAt_14 (by first | decide | assumption | omega) (by first | rfl | assumption) rfl (by omega) (by decide) hnu ?_
  refine Zw_istore_4 dX11_seesAt_15 rfl ?_
  refine Zw_iload_3 dX11_seesAt_17 ?_
  refine Zw_iconst (v := 3) dX11_seesAt_18 (by decide) ?_
  refine Zw_icmp_eq 27 dX11_seesAt_19 (by decide) (fun c => absurd c (by decide)) (fun _ => ?_)
  refine Zw_iload_3 dX11_seesAt_22 ?_
  refine Zw_iconst (v := 5) dX11_seesAt_23 (by decide) ?_
  refine Zw_icmp_ne 49 dX11_seesAt_24 (by decide) (fun _ => ?_) (fun c => absurd c (by decide))
  refine Zw_aload_0 dX11_seesAt_49 ?_
  refine Zw_iconst (v := 2) dX11_seesAt_50 (by decide) ?_
  refine Zw_iload_2 dX11_seesAt_51 ?_
  refine Zw_iconst (v := 0) dX11_seesAt_52 (by decide) ?_
  refine Zw_iload_4 dX11_seesAt_53 ?_
  refine Zw_V4 (k := 42) lm_X11_332 dX11_seesAt_55 (by decide) (by first | decide | assumption | omega) (by first | rfl | assumption) (by rfl) (Nat.le_of_ble_eq_true rfl) ?_
  refine s_m_says2 hok.1.1 hok.1.2.1 hok.1.2.2 hp (hok.2.2.2.2 p hp) (fun s1 μ1 τ1 o1 => ?_) (fun s1 μ1 τ1 o1 => ?_)
  · refine Zw_istore_5 dX11_seesAt_58 rfl ?_
    refine Zw_iload_5 dX11_seesAt_60 ?_
    refine Zw_if_eq 75 dX11_seesAt_62 (by decide) (fun c => absurd c (by decide)) (fun _ => ?_)
    refine Zw_iload_2 dX11_seesAt_65 ?_
    refine Zw_iconst (v := 2) dX11_seesAt_66 (by decide) ?_
    refine Zw_nrem (p) (2) dX11_seesAt_67 rfl rfl (by omega) (by omega) (by omega) ?_
    refine Zw_nif_ne ((p % 2)) 75 dX11_seesAt_68 (by decide) rfl (by omega) (fun c68 => ?_) (fun c68 => ?_)
    · refine Zw_iconst (v := 0) dX11_seesAt_75 (by decide) ?_
      refine Zw_istore_6 dX11_seesAt_76 rfl ?_
      refine Zw_iload_3 dX11_seesAt_78 ?_
      refine Zw_iconst (v := 1) dX11_seesAt_79 (by decide) ?_
      refine Zw_icmp_ne 105 dX11_seesAt_80 (by decide) (fun _ => ?_) (fun c => absurd c (by decide))
      refine Zw_iload_3 dX11_seesAt_105 ?_
      refine Zw_iconst (v := 2) dX11_seesAt_106 (by decide) ?_
      refine Zw_icmp_ne 115 dX11_seesAt_107 (by decide) (fun _ => ?_) (fun c => absurd c (by decide))
      refine Zw_iload_3 dX11_seesAt_115 ?_
      refine Zw_iconst (v := 4) dX11_seesAt_116 (by decide) ?_
      refine Zw_icmp_ne 144 dX11_seesAt_117 (by decide) (fun c => absurd c (by decide)) (fun _ => ?_)
      refine Zw_iload_6 dX11_seesAt_120 ?_
      refine Zw_if_ne 136 dX11_seesAt_122 (by decide) (fun c => absurd c (by decide)) (fun _ => ?_)
      refine Zw_aload_0 dX11_seesAt_125 ?_
      refine Zw_getr 65 lf_X11_23 dX11_seesAt_126 (by first | decide | assumption | omega) (by first | rfl | assumption) (by rfl) ?_
      refine Zw_iconst (v := 0) dX11_seesAt_129 (by decide) ?_
      have hw1 : μ1 65 0 = nI w := by rw [o1.1 65 (by simp)]; exact hw
      refine Zw_ialdnv (0) (nI w) dX11_seesAt_130 (by first | decide | assumption | omega) (by first | rfl | assumption) rfl (by omega) (by decide) hw1 ?_
      refine Zw_iconst (v := 4) dX11_seesAt_131 (by decide) ?_
      refine Zw_nrem (w) (4) dX11_seesAt_132 rfl rfl (by omega) (by omega) (by omega) ?_
      refine Zw_nif_ne ((w % 4)) 140 dX11_seesAt_133 (by decide) rfl (by omega) (fun c133 => ?_) (fun c133 => ?_)
      · refine Zw_iconst (v := 0) dX11_seesAt_140 (by decide) ?_
        refine Zw_goto 146 dX11_seesAt_141 (by decide) ?_
        refine Zw_ireturn dX11_seesAt_146 (by first | rfl | assumption) ?_
        exact h0 (by unfold m_see q_sees; rw [← hw, s1]; unfold q_see; show (decide (p % 2 = 0) || decide (w % 4 = 0)) = _; rw [decide_eq_false c68]; show decide (w % 4 = 0) = _; exact decide_eq_false c133) μ1 τ1 o1
      · refine Zw_iconst (v := 1) dX11_seesAt_136 (by decide) ?_
        refine Zw_goto 146 dX11_seesAt_137 (by decide) ?_
        refine Zw_ireturn dX11_seesAt_146 (by first | rfl | assumption) ?_
        exact h1 (by unfold m_see q_sees; rw [← hw, s1]; unfold q_see; show (decide (p % 2 = 0) || decide (w % 4 = 0)) = _; rw [decide_eq_false c68]; show decide (w % 4 = 0) = _; exact decide_eq_true c133) μ1 τ1 o1
    · refine Zw_iconst (v := 1) dX11_seesAt_71 (by decide) ?_
      refine Zw_goto 76 dX11_seesAt_72 (by decide) ?_
      refine Zw_istore_6 dX11_seesAt_76 rfl ?_
      refine Zw_iload_3 dX11_seesAt_78 ?_
      refine Zw_iconst (v := 1) dX11_seesAt_79 (by decide) ?_
      refine Zw_icmp_ne 105 dX11_seesAt_80 (by decide) (fun _ => ?_) (fun c => absurd c (by decide))
      refine Zw_iload_3 dX11_seesAt_105 ?_
      refine Zw_iconst (v := 2) dX11_seesAt_106 (by decide) ?_
      refine Zw_icmp_ne 115 dX11_seesAt_107 (by decide) (fun _ => ?_) (fun c => absurd c (by decide))
      refine Zw_iload_3 dX11_seesAt_115 ?_
      refine Zw_iconst (v := 4) dX11_seesAt_116 (by decide) ?_
      refine Zw_icmp_ne 144 dX11_seesAt_117 (by decide) (fun c => absurd c (by decide)) (fun _ => ?_)
      refine Zw_iload_6 dX11_seesAt_120 ?_
      refine Zw_if_ne 136 dX11_seesAt_122 (by decide) (fun _ => ?_) (fun c => absurd c (by decide))
      refine Zw_iconst (v := 1) dX11_seesAt_136 (by decide) ?_
      refine Zw_goto 146 dX11_seesAt_137 (by decide) ?_
      refine Zw_ireturn dX11_seesAt_146 (by first | rfl | assumption) ?_
      exact h1 (by unfold m_see q_sees; rw [← hw, s1]; unfold q_see; show (decide (p % 2 = 0) || decide (w % 4 = 0)) = _; rw [decide_eq_true c68]; rfl) μ1 τ1 o1
  · refine Zw_istore_5 dX11_seesAt_58 rfl ?_
    refine Zw_iload_5 dX11_seesAt_60 ?_
    refine Zw_if_eq 75 dX11_seesAt_62 (by decide) (fun _ => ?_) (fun c => absurd c (by decide))
    refine Zw_iconst (v := 0) dX11_seesAt_75 (by decide) ?_
    refine Zw_istore_6 dX11_seesAt_76 rfl ?_
    refine Zw_iload_3 dX11_seesAt_78 ?_
    refine Zw_iconst (v := 1) dX11_seesAt_79 (by decide) ?_
    refine Zw_icmp_ne 105 dX11_seesAt_80 (by decide) (fun _ => ?_) (fun c => absurd c (by decide))
    refine Zw_iload_3 dX11_seesAt_105 ?_
    refine Zw_iconst (v := 2) dX11_seesAt_106 (by decide) ?_
    refine Zw_icmp_ne 115 dX11_seesAt_107 (by decide) (fun _ => ?_) (fun c => absurd c (by decide))
    refine Zw_iload_3 dX11_seesAt_115 ?_
    refine Zw_iconst (v := 4) dX11_seesAt_116 (by decide) ?_
    refine Zw_icmp_ne 144 dX11_seesAt_117 (by decide) (fun c => absurd c (by decide)) (fun _ => ?_)
    refine Zw_iload_6 dX11_seesAt_120 ?_
    refine Zw_if_ne 136 dX11_seesAt_122 (by decide) (fun c => absurd c (by decide)) (fun _ => ?_)
    refine Zw_aload_0 dX11_seesAt_125 ?_
    refine Zw_getr 65 lf_X11_23 dX11_seesAt_126 (by first | decide | assumption | omega) (by first | rfl | assumption) (by rfl) ?_
    refine Zw_iconst (v := 0) dX11_seesAt_129 (by decide) ?_
    have hw1 : μ1 65 0 = nI w := by rw [o1.1 65 (by simp)]; exact hw
    refine Zw_ialdnv (0) (nI w) dX11_seesAt_130 (by first | decide | assumption | omega) (by first | rfl | assumption) rfl (by omega) (by decide) hw1 ?_
    refine Zw_iconst (v := 4) dX11_seesAt_131 (by decide) ?_
    refine Zw_nrem (w) (4) dX11_seesAt_132 rfl rfl (by omega) (by omega) (by omega) ?_
    refine Zw_nif_ne ((w % 4)) 140 dX11_seesAt_133 (by decide) rfl (by omega) (fun c133 => ?_) (fun c133 => ?_)
    · refine Zw_iconst (v := 0) dX11_seesAt_140 (by decide) ?_
      refine Zw_goto 146 dX11_seesAt_141 (by decide) ?_
      refine Zw_ireturn dX11_seesAt_146 (by first | rfl | assumption) ?_
      exact h0 (by unfold m_see q_sees; rw [← hw, s1]; unfold q_see; show (false || decide (w % 4 = 0)) = _; show decide (w % 4 = 0) = _; exact decide_eq_false c133) μ1 τ1 o1
    · refine Zw_iconst (v := 1) dX11_seesAt_136 (by decide) ?_
      refine Zw_goto 146 dX11_seesAt_137 (by decide) ?_
      refine Zw_ireturn dX11_seesAt_146 (by first | rfl | assumption) ?_
      exact h1 (by unfold m_see q_sees; rw [← hw, s1]; unfold q_see; show (false || decide (w % 4 = 0)) = _; show decide (w % 4 = 0) = _; exact decide_eq_true c133) μ1 τ1 o1
set_option maxRecDepth 20000 in
theorem s_m_see5 {t n w f p nu : Nat} {Q : zQ} {μ : zMu} {τ : Int64} (hok : m_ok μ t n w) (hf : f < 5) (hp : p < 8) (hkd : μ 67 f = nI 5) (hnu : μ 68 (3 * f) = nI nu) (hn10 : nu < 10) (h1 : m_see μ t w 5 nu p = true → ∀ μ2 τ2, nOff [] μ μ2 → Q (some (.int 1)) μ2 τ2) (h0 : m_see μ t w 5 nu p = false → ∀ μ2 τ2, nOff [] μ μ2 → Q (some (.int 0)) μ2 τ2) : Zc 43 yX11_seesAt cX11_seesAt 7 (some .boolean) [.ref 61, .int (nI f), .int (nI p)] μ τ Q := by
  refine Zc.mk 4 [.ref 61, .int (nI f), .int (nI p), .null, .null, .null, .null] rfl (by decide) (Nat.le_of_ble_eq_true rfl) ?_
  have hw := hok.2.2.1
  have hw2 := hok.2.2.2.1
  refine Zw_aload_0 dX11_seesAt_0 ?_
  refine Zw_getr 67 lf_X11_29 dX11_seesAt_1 (by first | decide | assumption | omega) (by first | rfl | assumption) (by rfl) ?_
  refine Zw_iload_1 dX11_seesAt_4 ?_
  refine Zw_ialdnv (f) (nI 5) dX11_seesAt_5 (by first | decide | assumption | omega) (by first | rfl | assumption) rfl (by omega) (by decide) hkd ?_
  refine Zw_istore_3 dX11_seesAt_6 rfl ?_
  refine Zw_aload_0 dX11_seesAt_7 ?_
  refine Zw_getr 68 lf_X11_32 dX11_seesAt_8 (by first | decide | assumption | omega) (by first | rfl | assumption) (by rfl) ?_
  refine Zw_iconst (v := 3) dX11_seesAt_11 (by decide) ?_
  refine Zw_iload_1 dX11_seesAt_12 ?_
  refine Zw_nmul (3) (f) dX11_seesAt_13 rfl rfl ?_
  refine Zw_ialdnv ((3 * f)) (nI nu) dX11_seesAt_14 (by first | decide | assumption | omega) (by first | rfl | assumption) rfl (by omega) (by decide) hnu ?_
  refine Zw_istore_4 dX11_seesAt_15 rfl ?_
  refine Zw_iload_3 dX11_seesAt_17 ?_
  refine Zw_iconst (v := 3) dX11_seesAt_18 (by decide) ?_
  refine Zw_icmp_eq 27 dX11_seesAt_19 (by decide) (fun c => absurd c (by decide)) (fun _ => ?_)
  refine Zw_iload_3 dX11_seesAt_22 ?_
  refine Zw_iconst (v := 5) dX11_seesAt_23 (by decide) ?_
  refine Zw_icmp_ne 49 dX11_seesAt_24 (by decide) (fun c => absurd c (by decide)) (fun _ => ?_)
  refine Zw_iload_3 dX11_seesAt_27 ?_
  refine Zw_iconst (v := 3) dX11_seesAt_28 (by decide) ?_
  refine Zw_icmp_ne 47 dX11_seesAt_29 (by decide) (fun _ => ?_) (fun c => absurd c (by decide))
  refine Zw_iconst (v := 0) dX11_seesAt_47 (by decide) ?_
  refine Zw_ireturn dX11_seesAt_48 (by first | rfl | assumption) ?_
  exact h0 rfl μ τ (nOff.refl _ _)
theorem s_m_see {t n w f p kd nu : Nat} {Q : zQ} {μ : zMu} {τ : Int64} (hok : m_ok μ t n w) (hf : f < 5) (hp : p < 8) (hkd : μ 67 f = nI kd) (hk6 : kd < 6) (hnu : μ 68 (3 * f) = nI nu) (hn10 : nu < 10) (h1 : m_see μ t w kd nu p = true → ∀ μ2 τ2, nOff [] μ μ2 → Q (some (.int 1)) μ2 τ2) (h0 : m_see μ t w kd nu p = false → ∀ μ2 τ2, nOff [] μ μ2 → Q (some (.int 0)) μ2 τ2) : Zc 43 yX11_seesAt cX11_seesAt 7 (some .boolean) [.ref 61, .int (nI f), .int (nI p)] μ τ Q := by
  match kd, hk6 with
  | 0, _ => exact s_m_see0 hok hf hp hkd hnu hn10 h1 h0
  | 1, _ => exact s_m_see1 hok hf hp hkd hnu hn10 h1 h0
  | 2, _ => exact s_m_see2 hok hf hp hkd hnu hn10 h1 h0
  | 3, _ => exact s_m_see3 hok hf hp hkd hnu hn10 h1 h0
  | 4, _ => exact s_m_see4 hok hf hp hkd hnu hn10 h1 h0
  | 5, _ => exact s_m_see5 hok hf hp hkd hnu hn10 h1 h0
  | kd + 6, hk => exact absurd hk (by omega)
