/-! weeks told: sets of starts, and sets -/
theorem q_has_and {x y : Int32} {p : Nat} (hx : r8 x) (hy : r8 y) (hp : p < 8) : q_has (x &&& y) p = (q_has x p && q_has y p) := by
  obtain ⟨a, ha, rfl⟩ := hx
  obtain ⟨b, hb, rfl⟩ := hy
  have e : nI a &&& nI b = nI (a &&& b) := by
    apply Int32.toBitVec_inj.mp
    apply BitVec.eq_of_toNat_eq
    have hle : a &&& b ≤ a := Nat.and_le_left
    rw [Int32.toBitVec_and, BitVec.toNat_and, pk_tn (by omega), pk_tn (by omega), pk_tn (by omega)]
  have hle : a &&& b ≤ a := Nat.and_le_left
  rw [e, q_has_tb p hp _ (by omega), q_has_tb p hp a ha, q_has_tb p hp b hb, Nat.testBit_and]
theorem m1_tn : (-1 : Int32).toBitVec.toNat = 2 ^ 32 - 1 := by decide
theorem q_has_andn {x y : Int32} {p : Nat} (hx : r8 x) (hy : r8 y) (hp : p < 8) : q_has (x &&& (y ^^^ (-1))) p = (q_has x p && !q_has y p) := by
  obtain ⟨a, ha, rfl⟩ := hx
  obtain ⟨b, hb, rfl⟩ := hy
  have hle : a &&& (b ^^^ (2 ^ 32 - 1)) ≤ a := Nat.and_le_left
  have e : nI a &&& (nI b ^^^ (-1)) = nI (a &&& (b ^^^ (2 ^ 32 - 1))) := by
    apply Int32.toBitVec_inj.mp
    apply BitVec.eq_of_toNat_eq
    rw [Int32.toBitVec_and, BitVec.toNat_and, Int32.toBitVec_xor, BitVec.toNat_xor, m1_tn, pk_tn (by omega), pk_tn (by omega), pk_tn (by omega)]
  rw [e, q_has_tb p hp _ (by omega), q_has_tb p hp a ha, q_has_tb p hp b hb, Nat.testBit_and, Nat.testBit_xor, Nat.testBit_two_pow_sub_one]
  have h32 : decide (p < 32) = true := by simp; omega
  rw [h32]
  simp
theorem q_fits_flt {wt set v : Int32} {p : Nat} (hs : r8 set) (hw : r8 wt) (hp : p < 8) : q_has (c_flt wt set v) p = (q_has set p && q_fits v wt p) := by
  unfold c_flt q_fits
  by_cases h1 : v = -1
  · rw [if_pos h1, if_pos h1, q_has_andn hs hw hp]
  · rw [if_neg h1, if_neg h1]
    by_cases h2 : q_in v 8 = true
    · rw [if_pos h2]
      obtain ⟨j, hj, rfl⟩ := vp_in_of (q_in_iff.mp h2) (by decide)
      show q_has (set &&& wt &&& q_bit j) p = _
      rw [q_has_and (r8_and hs) (r8_bit j hj) hp, q_has_and hs hw hp, q_has_bit p hp j hj, Bool.and_assoc]
      congr 2
      apply decide_eq_decide.mpr
      exact (nI_eq (by omega) (by omega)).symm
    · rw [if_neg h2, q_has0 p hp]
      have : decide (nI p = v) = false := decide_eq_false (fun e => h2 (q_in_iff.mpr (by rw [← e]; exact vp_in_nI hp (by decide))))
      rw [this]
      simp
theorem q_tmv_has {mv s : Nat → Int32} (hs : ∀ p, p < 8 → r8 (s p)) {to a : Nat} (ha : a < 8) : q_has (q_tmv mv s to) a = true ↔ ∃ q, q < 8 ∧ q_has (mv q) to = true ∧ q_has (s q) a = true := by
  unfold q_tmv
  rw [q_has_orf ha 8 (fun i hi => by split; exact hs i hi; exact r8_0)]
  constructor
  · rintro ⟨i, hi, e⟩
    by_cases h : q_has (mv i) to = true
    · rw [if_pos h] at e; exact ⟨i, hi, h, e⟩
    · rw [if_neg h, q_has0 a ha] at e; cases e
  · rintro ⟨i, hi, h, e⟩
    exact ⟨i, hi, by rw [if_pos h]; exact e⟩
theorem r8_n0 {x : Int32} (hx : r8 x) : x ≠ 0 ↔ ∃ a, a < 8 ∧ q_has x a = true := by
  constructor
  · intro h
    apply Classical.byContradiction
    intro hn
    apply h
    refine r8_ext hx r8_0 (fun p hp => ?_)
    rw [q_has0 p hp]
    cases hq : q_has x p
    · rfl
    · exact absurd ⟨p, hp, hq⟩ hn
  · rintro ⟨a, ha, e⟩ rfl
    rw [q_has0 a ha] at e; cases e
theorem q_last_has {s : Nat → Int32} (hs : ∀ p, p < 8 → r8 (s p)) {p : Nat} (hp : p < 8) : q_has (q_last s) p = true ↔ ∃ a, a < 8 ∧ q_has (s p) a = true := by
  unfold q_last
  rw [q_has_orf hp 8 (fun i hi => by split; exact r8_0; exact r8_bit i hi), ← r8_n0 (hs p hp)]
  constructor
  · rintro ⟨i, hi, e⟩
    by_cases h : s i = 0
    · rw [if_pos h, q_has0 p hp] at e; cases e
    · rw [if_neg h, q_has_bit p hp i hi, decide_eq_true_iff] at e
      subst e; exact h
  · intro h
    exact ⟨p, hp, by rw [if_neg h, q_has_bit p hp p hp]; simp⟩
theorem r8_last (s : Nat → Int32) : r8 (q_last s) := r8_orf 8 (fun p hp => by split; exact r8_0; exact r8_bit p hp)
def t_rel (A : Int32) (s : Nat → Int32) (set : Int32) : Prop := r8 set ∧ (∀ p, p < 8 → r8 (s p)) ∧ ∀ p, p < 8 → (q_has set p = true ↔ ∃ a, a < 8 ∧ q_has A a = true ∧ q_has (s p) a = true)
abbrev c_tst (C : mC) (w : Nat) (it : Nat → Int32) : Nat → (Nat → Int32) → Nat → Int32 := q_tst C.1 C.2.1 C.2.2.1 (cN C) (cK C) (cU C) (cA C) w it
theorem c_tst_e (C : mC) (w : Nat) (it : Nat → Int32) (i : Nat) (s : Nat → Int32) (p : Nat) : c_tst C w it i s p = if q_fits (it i) (c_wt C (w + i + 1)) p then q_tmv (c_mv C (w + i)) s p else 0 := rfl
theorem r8_tst {C : mC} {w : Nat} {it : Nat → Int32} {i : Nat} {s : Nat → Int32} (hs : ∀ p, p < 8 → r8 (s p)) (p : Nat) : r8 (c_tst C w it i s p) := by
  rw [c_tst_e]
  split
  · exact r8_orf 8 (fun q hq => by split; exact hs q hq; exact r8_0)
  · exact r8_0
theorem t_step {C : mC} {w : Nat} {it : Nat → Int32} (hwt : ∀ v, r8 (c_wt C v)) {A : Int32} {i : Nat} {s : Nat → Int32} {set : Int32} (h : t_rel A s set) : t_rel A (c_tst C w it i s) (m_go1 C it w i set) := by
  obtain ⟨h1, h2, h3⟩ := h
  have hmv : ∀ p, p < 8 → r8 (c_mv C (w + i) p) := fun p hp => r8_mv C (w + i) hp
  refine ⟨r8_flt (r8_spread hmv set), fun p _ => r8_tst h2 p, fun p hp => ?_⟩
  unfold m_go1
  rw [q_fits_flt (r8_spread hmv set) (hwt _) hp, Bool.and_eq_true, q_spread_has hmv hp, c_tst_e]
  constructor
  · rintro ⟨⟨q, hq, e1, e2⟩, e3⟩
    obtain ⟨a, ha, f1, f2⟩ := (h3 q hq).mp e1
    refine ⟨a, ha, f1, ?_⟩
    rw [if_pos e3, q_tmv_has h2 ha]
    exact ⟨q, hq, e2, f2⟩
  · rintro ⟨a, ha, f1, f2⟩
    by_cases e3 : q_fits (it i) (c_wt C (w + i + 1)) p = true
    · rw [if_pos e3, q_tmv_has h2 ha] at f2
      obtain ⟨q, hq, e2, f3⟩ := f2
      exact ⟨⟨q, hq, (h3 q hq).mpr ⟨a, ha, f1, f3⟩, e2⟩, e3⟩
    · rw [if_neg e3, q_has0 a ha] at f2; cases f2
theorem c_flt0 (wt v : Int32) : c_flt wt 0 v = 0 := by
  unfold c_flt
  split
  · exact and_0 _
  · split
    · rw [and_0, and_0]
    · rfl
theorem m_go1_0 (C : mC) (it : Nat → Int32) (w i : Nat) : m_go1 C it w i 0 = 0 := by unfold m_go1; rw [q_spread0, c_flt0]
theorem m_go_0 (C : mC) (it : Nat → Int32) (w : Nat) : ∀ m i fn, (m_go C it w m i 0 fn).1 = 0 ∧ (fn ≠ -1 → (m_go C it w m i 0 fn).2 = fn)
  | 0, _, _ => ⟨rfl, fun _ => rfl⟩
  | m + 1, i, fn => by
    rw [m_go_s, m_go1_0]
    obtain ⟨h1, h2⟩ := m_go_0 C it w m (i + 1) (if fn = -1 ∧ (0 : Int32) = 0 then nI i else fn)
    refine ⟨h1, fun hf => ?_⟩
    rw [if_neg (fun e => hf e.1)] at h2 ⊢
    exact h2 hf
theorem t_255 : ∀ a, a < 8 → q_has 255 a = true := by decide +kernel
theorem t_last {s : Nat → Int32} {set : Int32} (h : t_rel 255 s set) : set = q_last s := by
  refine r8_ext h.1 (r8_last s) (fun p hp => ?_)
  apply Bool.eq_iff_iff.mpr
  rw [h.2.2 p hp, q_last_has h.2.1 hp]
  exact ⟨fun ⟨a, h1, _, h3⟩ => ⟨a, h1, h3⟩, fun ⟨a, h1, h3⟩ => ⟨a, h1, t_255 a h1, h3⟩⟩
theorem t_all {C : mC} {w : Nat} {it : Nat → Int32} (hwt : ∀ v, r8 (c_wt C v)) : ∀ m i s set, i + m < 2 ^ 31 → t_rel 255 s set → m_go C it w m i set (-1) = (q_last (q_fol (c_tst C w it) m i s).1, (q_fol (c_tst C w it) m i s).2)
  | 0, i, s, set, _, h => by
    show (set, (-1 : Int32)) = (q_last s, -1)
    rw [t_last h]
  | m + 1, i, s, set, hb, h => by
    have hs := t_step hwt (it := it) (w := w) (i := i) h
    have hl := t_last hs
    rw [m_go_s, q_fol_s]
    by_cases h0 : q_last (c_tst C w it i s) = 0
    · rw [if_pos h0, hl, h0, if_pos ⟨rfl, rfl⟩]
      obtain ⟨e1, e2⟩ := m_go_0 C it w m (i + 1) (nI i)
      exact Prod.ext e1 (e2 (nI_m1 (by omega)))
    · rw [if_neg h0, if_neg (fun e => h0 (by rw [← hl]; exact e.2))]
      exact t_all hwt m (i + 1) _ _ (by omega) hs
theorem t_fn (st : Nat → (Nat → Int32) → Nat → Int32) : ∀ m i s, i + m < 2 ^ 31 → q_last s ≠ 0 → ((q_fol st m i s).2 = -1 ↔ q_last (q_fol st m i s).1 ≠ 0)
  | 0, _, s, _, h => ⟨fun _ => h, fun _ => rfl⟩
  | m + 1, i, s, hb, _ => by
    rw [q_fol_s]
    by_cases h0 : q_last (st i s) = 0
    · rw [if_pos h0]
      exact ⟨fun e => absurd e (nI_m1 (by omega)), fun e => absurd h0 e⟩
    · rw [if_neg h0]
      exact t_fn st m (i + 1) _ (by omega) h0
theorem t_zero {s : Nat → Int32} (hs : ∀ p, p < 8 → r8 (s p)) (h : q_last s = 0) {p a : Nat} (hp : p < 8) (ha : a < 8) : q_has (s p) a = false := by
  cases hq : q_has (s p) a
  · rfl
  · have := (q_last_has hs hp).mpr ⟨a, ha, hq⟩
    rw [h, q_has0 p hp] at this; cases this
theorem t_one {C : mC} {w : Nat} {it : Nat → Int32} (hwt : ∀ v, r8 (c_wt C v)) {a : Nat} (ha : a < 8) : ∀ m i s set fn, t_rel (q_bit a) s set → ((m_go C it w m i set fn).1 ≠ 0 ↔ ∃ p, p < 8 ∧ q_has ((q_fol (c_tst C w it) m i s).1 p) a = true)
  | 0, i, s, set, fn, h => by
    show set ≠ 0 ↔ ∃ p, p < 8 ∧ q_has (s p) a = true
    rw [r8_n0 h.1]
    constructor
    · rintro ⟨p, hp, e⟩
      obtain ⟨b, hb, f1, f2⟩ := (h.2.2 p hp).mp e
      rw [q_has_bit b hb a ha, decide_eq_true_iff] at f1
      subst f1
      exact ⟨p, hp, f2⟩
    · rintro ⟨p, hp, e⟩
      exact ⟨p, hp, (h.2.2 p hp).mpr ⟨a, ha, by rw [q_has_bit a ha a ha]; simp, e⟩⟩
  | m + 1, i, s, set, fn, h => by
    have hs := t_step hwt (it := it) (w := w) (i := i) h
    rw [m_go_s, q_fol_s]
    by_cases h0 : q_last (c_tst C w it i s) = 0
    · rw [if_pos h0]
      have hz : m_go1 C it w i set = 0 := by
        apply Classical.byContradiction
        intro hn
        obtain ⟨p, hp, e⟩ := (r8_n0 hs.1).mp hn
        obtain ⟨b, hb, _, f2⟩ := (hs.2.2 p hp).mp e
        rw [t_zero hs.2.1 h0 hp hb] at f2; cases f2
      rw [hz, (m_go_0 C it w m (i + 1) _).1]
      constructor
      · intro e; exact absurd rfl e
      · rintro ⟨p, hp, e⟩
        rw [t_zero hs.2.1 h0 hp ha] at e; cases e
    · rw [if_neg h0]
      exact t_one hwt ha m (i + 1) _ _ _ hs
theorem r8_fol {C : mC} {w : Nat} {it : Nat → Int32} : ∀ m i s, (∀ p, p < 8 → r8 (s p)) → ∀ p, p < 8 → r8 ((q_fol (c_tst C w it) m i s).1 p)
  | 0, _, _, h => h
  | m + 1, i, s, h => by
    rw [q_fol_s]
    split
    · exact fun p _ => r8_tst h p
    · exact r8_fol m (i + 1) _ (fun p _ => r8_tst h p)
theorem t_rel0 {A : Int32} (hA : r8 A) : t_rel A (fun p => q_bit p) A := by
  refine ⟨hA, fun p hp => r8_bit p hp, fun p hp => ?_⟩
  constructor
  · intro e; exact ⟨p, hp, e, by rw [q_has_bit p hp p hp]; simp⟩
  · rintro ⟨a, ha, e1, e2⟩
    rw [q_has_bit a ha p hp, decide_eq_true_iff] at e2
    subst e2; exact e1
theorem q_now_has {s : Nat → Int32} (hs : ∀ p, p < 8 → r8 (s p)) {a : Nat} (ha : a < 8) : q_has (q_now s) a = true ↔ ∃ p, p < 8 ∧ q_has (s p) a = true := by
  unfold q_now
  rw [q_has_orf ha 8 (fun i hi => by split; exact r8_0; exact hs i hi)]
  constructor
  · rintro ⟨i, hi, e⟩
    by_cases h : s i = 0
    · rw [if_pos h, q_has0 a ha] at e; cases e
    · rw [if_neg h] at e; exact ⟨i, hi, e⟩
  · rintro ⟨i, hi, e⟩
    refine ⟨i, hi, ?_⟩
    rw [if_neg (fun h => by rw [h, q_has0 a ha] at e; cases e)]
    exact e
/-- what tells() answers, by both -/
theorem t_tel {C : mC} {w k : Nat} {it : Nat → Int32} (hwt : ∀ v, r8 (c_wt C v)) (hk : k < 2 ^ 31) : m_go C it w k 0 255 (-1) = (q_last (q_fol (c_tst C w it) k 0 (fun p => q_bit p)).1, (q_fol (c_tst C w it) k 0 (fun p => q_bit p)).2) := t_all hwt k 0 _ _ (by omega) (t_rel0 ⟨255, by decide, rfl⟩)
theorem t_now {C : mC} {w k : Nat} {it : Nat → Int32} (hwt : ∀ v, r8 (c_wt C v)) : x_fits (fun p => decide ((m_go C it w k 0 (q_bit p) (-1)).1 ≠ 0)) 8 = q_now (q_fol (c_tst C w it) k 0 (fun p => q_bit p)).1 := by
  have hr := r8_fol (C := C) (w := w) (it := it) k 0 (fun p => q_bit p) (fun p hp => r8_bit p hp)
  refine r8_ext (r8_orf 8 (fun p hp => by split; exact r8_bit p hp; exact r8_0)) (r8_orf 8 (fun p hp => by split; exact r8_0; exact hr p hp)) (fun a ha => ?_)
  apply Bool.eq_iff_iff.mpr
  show q_has (q_orf (fun v => if decide ((m_go C it w k 0 (q_bit v) (-1)).1 ≠ 0) = true then q_bit v else 0) 8) a = true ↔ _
  rw [q_now_has hr ha, ← t_one hwt ha k 0 _ _ (-1) (t_rel0 (r8_bit a ha)), q_has_orf ha 8 (fun p hp => by split; exact r8_bit p hp; exact r8_0)]
  constructor
  · rintro ⟨i, hi, e⟩
    by_cases h : decide ((m_go C it w k 0 (q_bit i) (-1)).1 ≠ 0) = true
    · rw [if_pos h, q_has_bit a ha i hi, decide_eq_true_iff] at e
      subst e; exact of_decide_eq_true h
    · rw [if_neg h, q_has0 a ha] at e; cases e
  · intro h
    exact ⟨a, ha, by rw [if_pos (decide_eq_true h), q_has_bit a ha a ha]; simp⟩
theorem t_last0 : q_last (fun p => q_bit p) ≠ 0 := by decide +kernel
theorem t_fit {C : mC} {w k : Nat} {it : Nat → Int32} (hwt : ∀ v, r8 (c_wt C v)) (hk : k < 2 ^ 31) : decide ((m_go C it w k 0 255 (-1)).1 ≠ 0) = decide ((q_fol (c_tst C w it) k 0 (fun p => q_bit p)).2 = -1) := by
  rw [t_tel hwt hk]
  exact decide_eq_decide.mpr (t_fn (c_tst C w it) k 0 _ (by omega) t_last0).symm
