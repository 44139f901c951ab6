/-! the search by breadth, and the weeks to none -/
def b_R (wy : Nat → Nat → Bool) (nx : Nat → Nat → Nat) : Nat → Nat → Nat → Prop
  | 0, _, S => S = 0
  | k + 1, a, S => S = 0 ∨ ∃ p, p < 8 ∧ wy a p = true ∧ b_R wy nx k p (nx S p)
theorem b_R_s (wy : Nat → Nat → Bool) (nx : Nat → Nat → Nat) (k a S : Nat) : b_R wy nx (k + 1) a S ↔ (S = 0 ∨ ∃ p, p < 8 ∧ wy a p = true ∧ b_R wy nx k p (nx S p)) := Iff.rfl
theorem b_R_z (wy : Nat → Nat → Bool) (nx : Nat → Nat → Nat) : ∀ k a, b_R wy nx k a 0
  | 0, _ => rfl
  | _ + 1, _ => Or.inl rfl
theorem b_R_up {wy : Nat → Nat → Bool} {nx : Nat → Nat → Nat} : ∀ {k a S}, b_R wy nx k a S → b_R wy nx (k + 1) a S
  | 0, _, _, h => Or.inl h
  | k + 1, a, S, h => by
    rcases h with h | ⟨p, h1, h2, h3⟩
    · exact Or.inl h
    · exact Or.inr ⟨p, h1, h2, b_R_up h3⟩
theorem b_R_le {wy : Nat → Nat → Bool} {nx : Nat → Nat → Nat} {k j a S : Nat} (h : b_R wy nx k a S) (hj : k ≤ j) : b_R wy nx j a S := by
  induction hj with
  | refl => exact h
  | step _ ih => exact b_R_up ih
theorem b_ds {wy : Nat → Nat → Bool} {nx : Nat → Nat → Nat} : ∀ k, k < 1000 → (∀ a S, m_ds wy nx k a S ≤ k → b_R wy nx (m_ds wy nx k a S) a S) ∧ (∀ j a S, j ≤ k → b_R wy nx j a S → m_ds wy nx k a S ≤ j)
  | 0, _ => by
    constructor
    · intro a S h
      have e : m_ds wy nx 0 a S = if S = 0 then 0 else 1000000 := rfl
      by_cases hS : S = 0
      · subst hS; exact b_R_z _ _ _ _
      · rw [e, if_neg hS] at h; omega
    · intro j a S hj h
      obtain rfl : j = 0 := by omega
      have hS : S = 0 := h
      subst hS
      exact Nat.le_refl 0
  | k + 1, hk => by
    obtain ⟨i1, i2⟩ := b_ds k (by omega) (wy := wy) (nx := nx)
    have hle := fun a S => m_ds_le wy nx k a S
    constructor
    · intro a S h
      rw [m_ds_s] at h ⊢
      by_cases hc : m_ds wy nx k a S = 1000000 ∧ m_ex (fun p => wy a p && decide (m_ds wy nx k p (nx S p) = k)) 8 0 = true
      · rw [if_pos hc]
        obtain ⟨p, _, hp, hg⟩ := (m_ex_iff _ _ _).mp hc.2
        rw [Bool.and_eq_true, decide_eq_true_iff] at hg
        have := i1 p (nx S p) (by omega)
        rw [hg.2] at this
        exact Or.inr ⟨p, by omega, hg.1, this⟩
      · rw [if_neg hc] at h ⊢
        rcases hle a S with q | q
        · exact i1 a S q
        · omega
    · intro j a S hj h
      rw [m_ds_s]
      by_cases hF : m_ds wy nx k a S = 1000000
      · by_cases hjk : j ≤ k
        · have := i2 j a S hjk h; omega
        · obtain rfl : j = k + 1 := by omega
          rcases h with h | ⟨p, h1, h2, h3⟩
          · subst h; rw [m_ds_0] at hF; omega
          · have h4 := i2 k p (nx S p) (Nat.le_refl _) h3
            have h5 : m_ds wy nx k p (nx S p) = k := by
              apply Classical.byContradiction
              intro hne
              have h6 := i1 p (nx S p) h4
              have h7 : b_R wy nx (m_ds wy nx k p (nx S p) + 1) a S := Or.inr ⟨p, h1, h2, h6⟩
              have h8 := i2 _ a S (by omega) h7
              omega
            rw [if_pos ⟨hF, (m_ex_iff _ _ _).mpr ⟨p, by omega, by omega, by rw [h2, h5]; simp⟩⟩]
            exact Nat.le_refl _
      · rw [if_neg (fun e => hF e.1)]
        rcases hle a S with q | q
        · by_cases hjk : j ≤ k
          · exact i2 j a S hjk h
          · omega
        · exact absurd q hF
theorem b_len {l : List Nat} {n : Nat} (h : l.Nodup) (hb : ∀ x ∈ l, x < n) : l.length ≤ n := by
  have := h.length_le_of_subset (l₂ := List.range n) (fun x hx => List.mem_range.mpr (hb x hx))
  rwa [List.length_range] at this
def b_inv (s : h_S) : Prop := (∀ x, x < 2048 → (s.1 x ≠ -1 ↔ x ∈ s.2.1)) ∧ s.2.1.Nodup ∧ ∀ x ∈ s.2.1, x < 2048
/-- a state behind another one: more in the queue, nothing that was known lost -/
def b_ext (s s' : h_S) (e : List Nat) : Prop := b_inv s' ∧ s'.2.1 = s.2.1 ++ e ∧ s'.2.2 = s.2.2 ∧ ∀ z, s.1 z ≠ -1 → s'.1 z = s.1 z
theorem b_ext.tr {s s' s2 : h_S} {e e2 : List Nat} (h : b_ext s s' e) (h2 : b_ext s' s2 e2) : b_ext s s2 (e ++ e2) := by
  obtain ⟨a1, a2, a3, a4⟩ := h
  obtain ⟨c1, c2, c3, c4⟩ := h2
  refine ⟨c1, by rw [c2, a2, List.append_assoc], by rw [c3, a3], fun z hz => ?_⟩
  rw [c4 z (by rw [a4 z hz]; exact hz), a4 z hz]
theorem b_ext.rf {s : h_S} (h : b_inv s) : b_ext s s [] := ⟨h, by simp, rfl, fun _ _ => rfl⟩
theorem b_enq {s : h_S} {y bh : Nat} (h : b_inv s) (hy : y < 2048) (hb : bh < 2048) : (s.1 y ≠ -1 → h_enq s y bh = s) ∧ (s.1 y = -1 → b_ext s (h_enq s y bh) [y] ∧ (h_enq s y bh).1 y = nI bh) := by
  obtain ⟨h1, h2, h3⟩ := h
  constructor
  · intro hn
    unfold h_enq
    rw [if_neg (fun e => hn e.1)]
  · intro hn
    have hny : y ∉ s.2.1 := fun m => (h1 y hy).mpr m hn
    have hlen : s.2.1.length < 2048 := by
      have hnd : (y :: s.2.1).Nodup := List.nodup_cons.mpr ⟨hny, h2⟩
      have := b_len hnd (n := 2048) (fun x hx => by
        rcases List.mem_cons.mp hx with e | e
        · subst e; exact hy
        · exact h3 x e)
      simp at this
      omega
    have e : h_enq s y bh = (upd s.1 y (nI bh), s.2.1 ++ [y], s.2.2) := by
      unfold h_enq; rw [if_pos ⟨hn, hlen⟩]
    rw [e]
    refine ⟨⟨⟨fun x hx => ?_, ?_, fun x hx => ?_⟩, rfl, rfl, fun z hz => ?_⟩, ?_⟩
    · show upd s.1 y (nI bh) x ≠ -1 ↔ x ∈ s.2.1 ++ [y]
      rw [List.mem_append, List.mem_singleton, upd]
      by_cases hxy : x = y
      · rw [if_pos hxy]
        exact ⟨fun _ => Or.inr hxy, fun _ => nI_m1 (by omega)⟩
      · rw [if_neg hxy, h1 x hx]
        exact ⟨Or.inl, fun q => q.elim id (fun e => absurd e hxy)⟩
    · show (s.2.1 ++ [y]).Nodup
      rw [List.nodup_append]
      refine ⟨h2, by simp, fun a ha b hb => ?_⟩
      rw [List.mem_singleton] at hb
      subst hb
      intro e; subst e; exact hny ha
    · rcases List.mem_append.mp hx with q | q
      · exact h3 x q
      · rw [List.mem_singleton] at q; subst q; exact hy
    · show upd s.1 y (nI bh) z = s.1 z
      rw [upd, if_neg (fun e => hz (by rw [e]; exact hn))]
    · show upd s.1 y (nI bh) y = nI bh
      rw [upd, if_pos rfl]
def b_sc (nx : Nat → Nat → Nat) (x p : Nat) : Nat := p * 256 + nx (x % 256) p
theorem b_sc_d {nx : Nat → Nat → Nat} (hnx : ∀ S p, S < 256 → nx S p < 256) (x p : Nat) : b_sc nx x p / 256 = p ∧ b_sc nx x p % 256 = nx (x % 256) p := by
  have := hnx (x % 256) p (Nat.mod_lt _ (by decide))
  unfold b_sc
  omega
theorem b_sc_lt {nx : Nat → Nat → Nat} (hnx : ∀ S p, S < 256 → nx S p < 256) {x p : Nat} (hp : p < 8) : b_sc nx x p < 2048 := by
  have := hnx (x % 256) p (Nat.mod_lt _ (by decide))
  unfold b_sc
  omega
theorem h_one_n {wy : Nat → Nat → Bool} {nx : Nat → Nat → Nat} {x p : Nat} {s : h_S} (h : wy (x / 256) p = false) : h_one wy nx x p s = s := by
  unfold h_one; rw [h]; simp
theorem h_one_y {wy : Nat → Nat → Bool} {nx : Nat → Nat → Nat} {x p : Nat} {s : h_S} (h : wy (x / 256) p = true) (h0 : nx (x % 256) p ≠ 0) : h_one wy nx x p s = h_enq s (b_sc nx x p) x := by
  unfold h_one b_sc; rw [if_pos h, if_neg h0]
theorem h_one_z {wy : Nat → Nat → Bool} {nx : Nat → Nat → Nat} {x p : Nat} {s : h_S} (h : wy (x / 256) p = true) (h0 : nx (x % 256) p = 0) : h_one wy nx x p s = ((h_enq s (p * 256) x).1, (h_enq s (p * 256) x).2.1, nI (p * 256)) := by
  unfold h_one; rw [if_pos h, if_pos h0, h0, Nat.add_zero]
section BF
variable {wy : Nat → Nat → Bool} {nx : Nat → Nat → Nat} (hnx : ∀ S p, S < 256 → nx S p < 256)
/-- no way from x to none in one week -/
def b_ng (wy : Nat → Nat → Bool) (nx : Nat → Nat → Nat) (x : Nat) : Prop := ∀ p, p < 8 → wy (x / 256) p = true → nx (x % 256) p ≠ 0
def b_es (wy : Nat → Nat → Bool) (nx : Nat → Nat → Nat) (x p : Nat) (e : List Nat) : Prop := ∀ z ∈ e, ∃ q, p ≤ q ∧ q < 8 ∧ wy (x / 256) q = true ∧ z = b_sc nx x q
theorem b_expN (hnx : ∀ S p, S < 256 → nx S p < 256) {x : Nat} (hx : x < 2048) (hg : b_ng wy nx x) : ∀ m p s, m + p = 8 → b_inv s → s.2.2 = -1 → ∃ e, b_ext s (h_exp wy nx x m p s) e ∧ b_es wy nx x p e
  | 0, p, s, _, hi, _ => ⟨[], b_ext.rf hi, fun z hz => by cases hz⟩
  | m + 1, p, s, hm, hi, h1 => by
    rw [h_exp_s, if_pos h1]
    have hst : ∃ e, b_ext s (h_one wy nx x p s) e ∧ ∀ z ∈ e, wy (x / 256) p = true ∧ z = b_sc nx x p := by
      cases hw : wy (x / 256) p
      · rw [h_one_n hw]; exact ⟨[], b_ext.rf hi, fun z hz => by cases hz⟩
      · rw [h_one_y hw (hg p (by omega) hw)]
        by_cases hv : s.1 (b_sc nx x p) = -1
        · exact ⟨_, ((b_enq hi (b_sc_lt hnx (by omega)) hx).2 hv).1, fun z hz => ⟨rfl, by rwa [List.mem_singleton] at hz⟩⟩
        · rw [(b_enq hi (b_sc_lt hnx (by omega)) hx).1 hv]; exact ⟨[], b_ext.rf hi, fun z hz => by cases hz⟩
    obtain ⟨e, he, hz⟩ := hst
    obtain ⟨e2, he2, hz2⟩ := b_expN hnx hx hg m (p + 1) (h_one wy nx x p s) (by omega) he.1 (by rw [he.2.2.1]; exact h1)
    refine ⟨e ++ e2, he.tr he2, fun z hm2 => ?_⟩
    rcases List.mem_append.mp hm2 with q | q
    · obtain ⟨a1, a2⟩ := hz z q; exact ⟨p, by omega, by omega, a1, a2⟩
    · obtain ⟨q2, a1, a2, a3, a4⟩ := hz2 z q; exact ⟨q2, by omega, a2, a3, a4⟩
/-- the first good one that comes into the queue from x -/
theorem b_expG (hnx : ∀ S p, S < 256 → nx S p < 256) {x Pp : Nat} {good : Nat → Prop} (hx : x < 2048) (hg : b_ng wy nx x) (hP : Pp < 8) (hw : wy (x / 256) Pp = true) : ∀ m p s, m + p = 8 → p ≤ Pp → (∀ q, p ≤ q → q < Pp → wy (x / 256) q = true → ¬ good (b_sc nx x q)) → b_inv s → s.2.2 = -1 → s.1 (b_sc nx x Pp) = -1 → ∃ e1 e2, b_ext s (h_exp wy nx x m p s) (e1 ++ b_sc nx x Pp :: e2) ∧ (∀ z ∈ e1, ¬ good z) ∧ (h_exp wy nx x m p s).1 (b_sc nx x Pp) = nI x
  | 0, p, s, hm, hp, _, _, _, _ => by omega
  | m + 1, p, s, hm, hp, hl, hi, h1, hu => by
    rw [h_exp_s, if_pos h1]
    by_cases hpp : p = Pp
    · subst hpp
      rw [h_one_y hw (hg p (by omega) hw)]
      obtain ⟨b1, b2⟩ := (b_enq hi (b_sc_lt hnx (by omega)) hx).2 hu
      obtain ⟨e2, c1, _⟩ := b_expN hnx hx hg m (p + 1) _ (by omega) b1.1 (by rw [b1.2.2.1]; exact h1)
      refine ⟨[], e2, b1.tr c1, fun z hz => (by cases hz), ?_⟩
      rw [c1.2.2.2 _ (by rw [b2]; exact nI_m1 (by omega)), b2]
    · have hst : ∃ e, b_ext s (h_one wy nx x p s) e ∧ (∀ z ∈ e, ¬ good z) ∧ (h_one wy nx x p s).1 (b_sc nx x Pp) = -1 := by
        cases hwp : wy (x / 256) p
        · rw [h_one_n hwp]; exact ⟨[], b_ext.rf hi, fun z hz => (by cases hz), hu⟩
        · rw [h_one_y hwp (hg p (by omega) hwp)]
          by_cases hv : s.1 (b_sc nx x p) = -1
          · have hb := ((b_enq hi (b_sc_lt hnx (by omega)) hx).2 hv).1
            refine ⟨_, hb, fun z hz => by rw [List.mem_singleton] at hz; subst hz; exact hl p (by omega) (by omega) hwp, ?_⟩
            apply Classical.byContradiction
            intro hne
            have hm2 := (hb.1.1 _ (b_sc_lt hnx hP)).mp hne
            rw [hb.2.1, List.mem_append, List.mem_singleton] at hm2
            rcases hm2 with q | q
            · exact ((hi.1 _ (b_sc_lt hnx hP)).mpr q) hu
            · have d1 := (b_sc_d hnx x Pp).1
              have d2 := (b_sc_d hnx x p).1
              rw [q, d2] at d1
              exact hpp d1
          · rw [(b_enq hi (b_sc_lt hnx (by omega)) hx).1 hv]; exact ⟨[], b_ext.rf hi, fun z hz => (by cases hz), hu⟩
      obtain ⟨e, he, hz, hu2⟩ := hst
      obtain ⟨e1, e2, c1, c2, c3⟩ := b_expG hnx hx hg hP hw m (p + 1) (h_one wy nx x p s) (by omega) (by omega) (fun q a b => hl q (by omega) b) he.1 (by rw [he.2.2.1]; exact h1) hu2
      refine ⟨e ++ e1, e2, ?_, fun z hm2 => ?_, c3⟩
      · have := he.tr c1
        rwa [← List.append_assoc] at this
      · rcases List.mem_append.mp hm2 with q | q
        · exact hz z q
        · exact c2 z q
/-- the goal from x -/
theorem b_expZ (hnx : ∀ S p, S < 256 → nx S p < 256) {x Pp : Nat} (hx : x < 2048) (hP : Pp < 8) (hw : wy (x / 256) Pp = true) (h0 : nx (x % 256) Pp = 0) : ∀ m p s, m + p = 8 → p ≤ Pp → (∀ q, p ≤ q → q < Pp → wy (x / 256) q = true → nx (x % 256) q ≠ 0) → b_inv s → s.2.2 = -1 → s.1 (Pp * 256) = -1 → (h_exp wy nx x m p s).2.2 = nI (Pp * 256) ∧ (h_exp wy nx x m p s).1 (Pp * 256) = nI x ∧ ∀ z, s.1 z ≠ -1 → (h_exp wy nx x m p s).1 z = s.1 z
  | 0, p, s, hm, hp, _, _, _, _ => by omega
  | m + 1, p, s, hm, hp, hl, hi, h1, hu => by
    rw [h_exp_s, if_pos h1]
    by_cases hpp : p = Pp
    · subst hpp
      rw [h_one_z hw h0]
      have hlt : p * 256 < 2048 := by omega
      obtain ⟨b1, b2⟩ := (b_enq hi hlt hx).2 hu
      rw [h_exp_g wy nx x m (p + 1) _ (by show nI (p * 256) ≠ -1; exact nI_m1 (by omega))]
      exact ⟨rfl, b2, fun z hz => b1.2.2.2 z hz⟩
    · have hst : ∃ e, b_ext s (h_one wy nx x p s) e ∧ (h_one wy nx x p s).1 (Pp * 256) = -1 := by
        cases hwp : wy (x / 256) p
        · rw [h_one_n hwp]; exact ⟨[], b_ext.rf hi, hu⟩
        · rw [h_one_y hwp (hl p (by omega) (by omega) hwp)]
          by_cases hv : s.1 (b_sc nx x p) = -1
          · have hb := ((b_enq hi (b_sc_lt hnx (by omega)) hx).2 hv).1
            refine ⟨_, hb, ?_⟩
            apply Classical.byContradiction
            intro hne
            have hm2 := (hb.1.1 _ (by omega)).mp hne
            rw [hb.2.1, List.mem_append, List.mem_singleton] at hm2
            rcases hm2 with q | q
            · exact ((hi.1 _ (by omega)).mpr q) hu
            · have d2 := (b_sc_d hnx x p).1
              rw [← q] at d2
              omega
          · rw [(b_enq hi (b_sc_lt hnx (by omega)) hx).1 hv]; exact ⟨[], b_ext.rf hi, hu⟩
      obtain ⟨e, he, hu2⟩ := hst
      obtain ⟨c1, c2, c3⟩ := b_expZ hnx hx hP hw h0 m (p + 1) (h_one wy nx x p s) (by omega) (by omega) (fun q a b => hl q (by omega) b) he.1 (by rw [he.2.2.1]; exact h1) hu2
      exact ⟨c1, c2, fun z hz => by rw [c3 z (by rw [he.2.2.2 z hz]; exact hz), he.2.2.2 z hz]⟩
/-! a level, as a list -/
def b_lv (wy : Nat → Nat → Bool) (nx : Nat → Nat → Nat) : List Nat → h_S → h_S
  | [], s => s
  | x :: l, s => if (h_exp wy nx x 8 0 s).2.2 = -1 then b_lv wy nx l (h_exp wy nx x 8 0 s) else h_exp wy nx x 8 0 s
theorem b_lv_s (wy : Nat → Nat → Bool) (nx : Nat → Nat → Nat) (x : Nat) (l : List Nat) (s : h_S) : b_lv wy nx (x :: l) s = if (h_exp wy nx x 8 0 s).2.2 = -1 then b_lv wy nx l (h_exp wy nx x 8 0 s) else h_exp wy nx x 8 0 s := rfl
theorem h_enq_q (s : h_S) (y bh : Nat) : ∃ e, (h_enq s y bh).2.1 = s.2.1 ++ e := by
  unfold h_enq
  split
  · exact ⟨[y], rfl⟩
  · exact ⟨[], by simp⟩
theorem h_one_q (x p : Nat) (s : h_S) : ∃ e, (h_one wy nx x p s).2.1 = s.2.1 ++ e := by
  unfold h_one
  split
  · split
    · exact h_enq_q s _ _
    · exact h_enq_q s _ _
  · exact ⟨[], by simp⟩
theorem h_exp_q (x : Nat) : ∀ m p s, ∃ e, (h_exp wy nx x m p s).2.1 = s.2.1 ++ e
  | 0, _, s => ⟨[], by show s.2.1 = _; simp⟩
  | m + 1, p, s => by
    rw [h_exp_s]
    split
    · obtain ⟨e, he⟩ := h_one_q (wy := wy) (nx := nx) x p s
      obtain ⟨e2, he2⟩ := h_exp_q x m (p + 1) (h_one wy nx x p s)
      exact ⟨e ++ e2, by rw [he2, he, List.append_assoc]⟩
    · exact ⟨[], by simp⟩
theorem b_lv_of : ∀ (lev : List Nat) (pre ext : List Nat) (s : h_S), s.2.1 = pre ++ (lev ++ ext) → h_lvl wy nx lev.length pre.length s = b_lv wy nx lev s
  | [], _, _, _, _ => rfl
  | x :: l, pre, ext, s, h => by
    have hx : s.2.1.getD pre.length 0 = x := by
      rw [h, List.getD_eq_getElem?_getD, List.getElem?_append_right (Nat.le_refl _)]
      simp
    show h_lvl wy nx (l.length + 1) pre.length s = _
    rw [h_lvl_s, b_lv_s, hx]
    split
    · obtain ⟨e, he⟩ := h_exp_q (wy := wy) (nx := nx) x 8 0 s
      have := b_lv_of l (pre ++ [x]) (ext ++ e) (h_exp wy nx x 8 0 s) (by rw [he, h]; simp)
      rw [List.length_append] at this
      exact this
    · rfl
theorem b_lvN (hnx : ∀ S p, S < 256 → nx S p < 256) : ∀ (lev : List Nat) (s : h_S), (∀ x ∈ lev, x < 2048 ∧ b_ng wy nx x) → b_inv s → s.2.2 = -1 → ∃ e, b_ext s (b_lv wy nx lev s) e ∧ ∀ z ∈ e, ∃ x ∈ lev, ∃ q, q < 8 ∧ wy (x / 256) q = true ∧ z = b_sc nx x q
  | [], s, _, hi, _ => ⟨[], b_ext.rf hi, fun z hz => by cases hz⟩
  | x :: l, s, hl, hi, h1 => by
    obtain ⟨a1, a2⟩ := hl x List.mem_cons_self
    obtain ⟨e, he, hz⟩ := b_expN hnx a1 a2 8 0 s rfl hi h1
    rw [b_lv_s, if_pos (by rw [he.2.2.1]; exact h1)]
    obtain ⟨e2, he2, hz2⟩ := b_lvN hnx l _ (fun y hy => hl y (List.mem_cons_of_mem _ hy)) he.1 (by rw [he.2.2.1]; exact h1)
    refine ⟨e ++ e2, he.tr he2, fun z hm => ?_⟩
    rcases List.mem_append.mp hm with q | q
    · obtain ⟨q2, _, b2, b3, b4⟩ := hz z q; exact ⟨x, List.mem_cons_self, q2, b2, b3, b4⟩
    · obtain ⟨y, b1, b2⟩ := hz2 z q; exact ⟨y, List.mem_cons_of_mem _ b1, b2⟩
theorem b_lv_app : ∀ (l1 l2 : List Nat) (s : h_S), (b_lv wy nx l1 s).2.2 = -1 → b_lv wy nx (l1 ++ l2) s = b_lv wy nx l2 (b_lv wy nx l1 s)
  | [], _, _, _ => rfl
  | x :: l, l2, s, h => by
    show b_lv wy nx (x :: (l ++ l2)) s = _
    rw [b_lv_s] at h ⊢
    rw [b_lv_s]
    by_cases hc : (h_exp wy nx x 8 0 s).2.2 = -1
    · rw [if_pos hc] at h ⊢
      rw [if_pos hc]
      exact b_lv_app l l2 _ h
    · rw [if_neg hc] at h
      exact absurd h hc
theorem b_nin {s s' : h_S} {e : List Nat} (h : b_ext s s' e) (hi : b_inv s) {y : Nat} (hy : y < 2048) (h1 : s.1 y = -1) (h2 : y ∉ e) : s'.1 y = -1 := by
  apply Classical.byContradiction
  intro hne
  have hm := (h.1.1 y hy).mp hne
  rw [h.2.1, List.mem_append] at hm
  rcases hm with q | q
  · exact ((hi.1 y hy).mpr q) h1
  · exact h2 q
theorem b_lvG (hnx : ∀ S p, S < 256 → nx S p < 256) {x Pp : Nat} {good : Nat → Prop} {l1 l2 : List Nat} {s : h_S} (hl : ∀ y ∈ l1 ++ x :: l2, y < 2048 ∧ b_ng wy nx y) (hi : b_inv s) (h1 : s.2.2 = -1) (hP : Pp < 8) (hw : wy (x / 256) Pp = true) (hlow : ∀ q, q < Pp → wy (x / 256) q = true → ¬ good (b_sc nx x q)) (hgd : good (b_sc nx x Pp)) (hb : ∀ y ∈ l1, ∀ q, q < 8 → wy (y / 256) q = true → ¬ good (b_sc nx y q)) (hu : s.1 (b_sc nx x Pp) = -1) : ∃ e1 e2, b_ext s (b_lv wy nx (l1 ++ x :: l2) s) (e1 ++ b_sc nx x Pp :: e2) ∧ (∀ z ∈ e1, ¬ good z) ∧ (b_lv wy nx (l1 ++ x :: l2) s).1 (b_sc nx x Pp) = nI x ∧ ∀ z ∈ e1 ++ b_sc nx x Pp :: e2, ∃ y ∈ l1 ++ x :: l2, ∃ q, q < 8 ∧ wy (y / 256) q = true ∧ z = b_sc nx y q := by
  obtain ⟨f1, g1, g2⟩ := b_lvN hnx l1 s (fun y hy => hl y (List.mem_append_left _ hy)) hi h1
  have hx := hl x (List.mem_append_right _ List.mem_cons_self)
  have hf1 : ∀ z ∈ f1, ¬ good z := fun z hz => by
    obtain ⟨y, b1, q, b2, b3, b4⟩ := g2 z hz
    rw [b4]; exact hb y b1 q b2 b3
  have hu1 := b_nin g1 hi (b_sc_lt hnx hP) hu (fun m => hf1 _ m hgd)
  have hg1 : (b_lv wy nx l1 s).2.2 = -1 := by rw [g1.2.2.1]; exact h1
  obtain ⟨e1, e2, c1, c2, c3⟩ := b_expG hnx (good := good) hx.1 hx.2 hP hw 8 0 _ rfl (by omega) (fun q _ b => hlow q b) g1.1 hg1 hu1
  have hg2 : (h_exp wy nx x 8 0 (b_lv wy nx l1 s)).2.2 = -1 := by rw [c1.2.2.1]; exact hg1
  obtain ⟨f2, k1, k2⟩ := b_lvN hnx l2 _ (fun y hy => hl y (List.mem_append_right _ (List.mem_cons_of_mem _ hy))) c1.1 hg2
  obtain ⟨e3, n1, n2⟩ := b_lvN hnx (l1 ++ x :: l2) s hl hi h1
  have hall : b_lv wy nx (l1 ++ x :: l2) s = b_lv wy nx l2 (h_exp wy nx x 8 0 (b_lv wy nx l1 s)) := by
    rw [b_lv_app l1 (x :: l2) s hg1, b_lv_s, if_pos hg2]
  have hext := (g1.tr c1).tr k1
  have hshape : f1 ++ (e1 ++ b_sc nx x Pp :: e2) ++ f2 = (f1 ++ e1) ++ b_sc nx x Pp :: (e2 ++ f2) := by simp
  rw [hshape, ← hall] at hext
  have he3 : e3 = (f1 ++ e1) ++ b_sc nx x Pp :: (e2 ++ f2) := by
    have := n1.2.1
    rw [hext.2.1] at this
    exact (List.append_cancel_left this).symm
  refine ⟨f1 ++ e1, e2 ++ f2, hext, fun z hz => ?_, ?_, fun z hz => n2 z (by rw [he3]; exact hz)⟩
  · rcases List.mem_append.mp hz with q | q
    · exact hf1 z q
    · exact c2 z q
  · rw [hall, k1.2.2.2 _ (by rw [c3]; exact nI_m1 (by omega)), c3]
theorem b_lvZ (hnx : ∀ S p, S < 256 → nx S p < 256) {x Pp : Nat} {l1 l2 : List Nat} {s : h_S} (hl : ∀ y ∈ l1, y < 2048 ∧ b_ng wy nx y) (hx : x < 2048) (hi : b_inv s) (h1 : s.2.2 = -1) (hP : Pp < 8) (hw : wy (x / 256) Pp = true) (h0 : nx (x % 256) Pp = 0) (hlow : ∀ q, q < Pp → wy (x / 256) q = true → nx (x % 256) q ≠ 0) (hu : s.1 (Pp * 256) = -1) : (b_lv wy nx (l1 ++ x :: l2) s).2.2 = nI (Pp * 256) ∧ (b_lv wy nx (l1 ++ x :: l2) s).1 (Pp * 256) = nI x ∧ ∀ z, s.1 z ≠ -1 → (b_lv wy nx (l1 ++ x :: l2) s).1 z = s.1 z := by
  obtain ⟨f1, g1, g2⟩ := b_lvN hnx l1 s hl hi h1
  have hu1 := b_nin g1 hi (y := Pp * 256) (by omega) hu (fun m => by
    obtain ⟨y, b1, q, b2, b3, b4⟩ := g2 _ m
    have d := b_sc_d hnx y q
    rw [← b4] at d
    exact (hl y b1).2 q b2 b3 (by omega))
  have hg1 : (b_lv wy nx l1 s).2.2 = -1 := by rw [g1.2.2.1]; exact h1
  obtain ⟨c1, c2, c3⟩ := b_expZ hnx hx hP hw h0 8 0 _ rfl (by omega) (fun q _ b => hlow q b) g1.1 hg1 hu1
  have hall : b_lv wy nx (l1 ++ x :: l2) s = h_exp wy nx x 8 0 (b_lv wy nx l1 s) := by
    rw [b_lv_app l1 (x :: l2) s hg1, b_lv_s, if_neg (by rw [c1]; exact nI_m1 (by omega))]
  rw [hall]
  exact ⟨c1, c2, fun z hz => by rw [c3 z (by rw [g1.2.2.2 z hz]; exact hz), g1.2.2.2 z hz]⟩
end BF
/-! the way back along the chain -/
def b_ch (ah : Nat → Int32) : List Nat → Prop
  | [] => True
  | [_] => True
  | x :: y :: l => ah x = nI y ∧ b_ch ah (y :: l)
def b_val : List Nat → Int32
  | [] => 0
  | x :: l => 10 * b_val l + nI (x / 256) + 1
theorem b_div {x : Nat} (h : x < 2048) : nI x / 256 = nI (x / 256) := by
  have key : ∀ x, x < 2048 → nI x / 256 = nI (x / 256) := by decide +kernel
  exact key x h
theorem b_ring1 (acc un v p : Int32) : acc + (p + 1) * un + un * 10 * v = acc + un * (10 * v + p + 1) := by grind
theorem b_way {ah : Nat → Int32} : ∀ (l : List Nat) (x : Nat) (un acc : Int32), (∀ y ∈ x :: l, y < 2048) → b_ch ah (x :: l) → h_way ah (l.length + 1) (nI x) un acc = acc + un * b_val (x :: l)
  | [], x, un, acc, hb, _ => by
    have hx := hb x List.mem_cons_self
    rw [h_way_s, if_neg (nI_m1 (by omega)), b_div hx]
    show acc + (nI (x / 256) + 1) * un = acc + un * (10 * 0 + nI (x / 256) + 1)
    have := b_ring1 acc un 0 (nI (x / 256))
    rw [← this, Int32.mul_zero, Int32.add_zero]
  | y :: l, x, un, acc, hb, hc => by
    have hx := hb x List.mem_cons_self
    obtain ⟨c1, c2⟩ := hc
    show h_way ah (l.length + 1 + 1) (nI x) un acc = _
    rw [h_way_s, if_neg (nI_m1 (by omega)), b_div hx, nI_clamp (by omega), c1, b_way l y _ _ (fun z hz => hb z (List.mem_cons_of_mem _ hz)) c2]
    exact b_ring1 acc un (b_val (y :: l)) (nI (x / 256))
theorem b_ch_cg {ah ah' : Nat → Int32} : ∀ (l : List Nat), (∀ x ∈ l, ah' x = ah x) → b_ch ah l → b_ch ah' l
  | [], _, _ => trivial
  | [_], _, _ => trivial
  | x :: y :: l, h, hc => ⟨by rw [h x List.mem_cons_self]; exact hc.1, b_ch_cg (y :: l) (fun z hz => h z (List.mem_cons_of_mem _ hz)) hc.2⟩
abbrev bR (wy : Nat → Nat → Bool) (nx : Nat → Nat → Nat) (k x : Nat) : Prop := b_R wy nx k (x / 256) (x % 256)
theorem bR_sc {wy : Nat → Nat → Bool} {nx : Nat → Nat → Nat} (hnx : ∀ S p, S < 256 → nx S p < 256) {k x q : Nat} (hq : q < 8) (hw : wy (x / 256) q = true) (h : bR wy nx k (b_sc nx x q)) : bR wy nx (k + 1) x := by
  unfold bR at h
  rw [(b_sc_d hnx x q).1, (b_sc_d hnx x q).2] at h
  exact Or.inr ⟨q, hq, hw, h⟩
section BR
variable {wy : Nat → Nat → Bool} {nx : Nat → Nat → Nat}
theorem b_lev {n dn : Nat} {s : h_S} (hd : dn ≤ s.2.1.length) : ∃ pre lev, s.2.1 = pre ++ lev ∧ pre.length = dn ∧ lev.length = s.2.1.length - dn := ⟨s.2.1.take dn, s.2.1.drop dn, (List.take_append_drop dn _).symm, by rw [List.length_take]; omega, by rw [List.length_drop]⟩
theorem b_ngR (hnx : ∀ S p, S < 256 → nx S p < 256) {x0 wk N y : Nat} (hwk : 1 ≤ wk) (hwN : wk ≤ N) (hy : ∀ r, bR wy nx r y → bR wy nx (wk - 1 + r) x0) (hno : ∀ j, j ≤ N → ¬ bR wy nx j x0) : b_ng wy nx y := by
  intro p hp hw h0
  have h1 : bR wy nx 1 y := Or.inr ⟨p, hp, hw, by rw [h0]; exact b_R_z _ _ _ _⟩
  have h2 := hy 1 h1
  rw [show wk - 1 + 1 = wk by omega] at h2
  exact hno wk hwN h2
theorem b_nb (hnx : ∀ S p, S < 256 → nx S p < 256) {x0 wk : Nat} (hwk : 1 ≤ wk) {Qq lev e : List Nat} (hq : ∀ y ∈ Qq, ∀ r, bR wy nx r y → bR wy nx (wk - 1 + r) x0) (hl : ∀ y ∈ lev, y ∈ Qq) (he : ∀ z ∈ e, ∃ x ∈ lev, ∃ q, q < 8 ∧ wy (x / 256) q = true ∧ z = b_sc nx x q) : ∀ y ∈ Qq ++ e, ∀ r, bR wy nx r y → bR wy nx (wk + 1 - 1 + r) x0 := by
  intro y hy r hr
  rcases List.mem_append.mp hy with m | m
  · exact b_R_le (hq y m r hr) (by omega)
  · obtain ⟨x, h1, q, h2, h3, h4⟩ := he y m
    rw [h4] at hr
    have := hq x (hl x h1) (r + 1) (bR_sc hnx h2 h3 hr)
    rwa [show wk - 1 + (r + 1) = wk + 1 - 1 + r by omega] at this
theorem b_runU (hnx : ∀ S p, S < 256 → nx S p < 256) {x0 N : Nat} (hno : ∀ j, j ≤ N → ¬ bR wy nx j x0) : ∀ m wk dn s, wk - 1 + m = N → 1 ≤ wk → b_inv s → s.2.2 = -1 → dn ≤ s.2.1.length → (∀ y ∈ s.2.1, ∀ r, bR wy nx r y → bR wy nx (wk - 1 + r) x0) → (h_run wy nx m wk dn s).1 = -1
  | 0, _, _, _, _, _, _, _, _, _ => rfl
  | m + 1, wk, dn, s, hm, hwk, hi, h1, hd, hq => by
    obtain ⟨pre, lev, e1, e2, e3⟩ := b_lev (n := 0) hd
    have hlv := b_lv_of (wy := wy) (nx := nx) lev pre [] s (by rw [List.append_nil]; exact e1)
    rw [e2, e3] at hlv
    have hlm : ∀ y ∈ lev, y ∈ s.2.1 := fun y hy => by rw [e1]; exact List.mem_append_right _ hy
    obtain ⟨e, g1, g2⟩ := b_lvN hnx lev s (fun y hy => ⟨hi.2.2 y (hlm y hy), b_ngR hnx hwk (by omega) (hq y (hlm y hy)) hno⟩) hi h1
    rw [h_run_s, hlv, if_pos (by rw [g1.2.2.1]; exact h1)]
    refine b_runU hnx hno m (wk + 1) _ _ (by omega) (by omega) g1.1 (by rw [g1.2.2.1]; exact h1) (by rw [g1.2.1, List.length_append]; omega) ?_
    rw [g1.2.1]
    exact b_nb hnx hwk hq hlm g2
end BR
section BS
variable {wy : Nat → Nat → Bool} {nx : Nat → Nat → Nat}
theorem b_dsK {K r a S : Nat} (hK : K < 1000) (hr : r ≤ K) : b_R wy nx r a S ↔ m_ds wy nx K a S ≤ r := by
  obtain ⟨i1, i2⟩ := b_ds (wy := wy) (nx := nx) K hK
  exact ⟨i2 r a S hr, fun h => b_R_le (i1 a S (Nat.le_trans h hr)) h⟩
theorem b_dsR {r a S : Nat} (hr : r ≤ 40) : b_R wy nx r a S ↔ m_ds wy nx 40 a S ≤ r := b_dsK (K := 40) (by decide) hr
theorem b_ds0 {a S : Nat} (h : m_ds wy nx 40 a S = 0) : S = 0 := by
  have := (b_dsR (wy := wy) (nx := nx) (a := a) (S := S) (r := 0) (by omega)).mpr (by omega)
  exact this
theorem b_runR (hnx : ∀ S p, S < 256 → nx S p < 256) {x0 D : Nat} {W : Int32} (hD : D ≤ 40) (hno : ∀ j, j < D → ¬ bR wy nx j x0) : ∀ r m wk s x l pre l1 l2, wk + r = D → r < m → 1 ≤ wk → b_inv s → s.2.2 = -1 → (∀ y ∈ s.2.1, ∀ r, bR wy nx r y → bR wy nx (wk - 1 + r) x0) → s.2.1 = pre ++ (l1 ++ x :: l2) → (∀ y ∈ l1, ¬ bR wy nx (r + 1) y) → bR wy nx (r + 1) x → l.length + 1 = wk → (∀ y ∈ l, y ∈ s.2.1) → b_ch s.1 l → (∀ y l', l = y :: l' → y = x) → m_wy wy nx (m_ds wy nx 40) (r + 1) (x / 256) (x % 256) (b_val l) = W → (h_run wy nx m wk pre.length s).1 = nI D ∧ h_way (h_run wy nx m wk pre.length s).2.1 D (h_run wy nx m wk pre.length s).2.2.2 1 0 = W
  | r, 0, _, _, _, _, _, _, _, _, h, _, _, _, _, _, _, _, _, _, _, _, _ => by omega
  | 0, m + 1, wk, s, x, l, pre, l1, l2, hwD, _, hwk, hi, h1, hq, hs, hl1, hx, hlen, hlm, hch, hhd, hW => by
    have hmem : ∀ y ∈ l1 ++ x :: l2, y ∈ s.2.1 := fun y hy => by rw [hs]; exact List.mem_append_right _ hy
    have hxm := hmem x (List.mem_append_right _ List.mem_cons_self)
    have hx2 := hi.2.2 x hxm
    have hx0 : x % 256 ≠ 0 := fun e => hno (wk - 1) (by omega) (hq x hxm 0 e)
    have hlv := b_lv_of (wy := wy) (nx := nx) (l1 ++ x :: l2) pre [] s (by rw [List.append_nil]; exact hs)
    have hlen2 : s.2.1.length - pre.length = (l1 ++ x :: l2).length := by rw [hs, List.length_append]; omega
    have hex : ∃ p, 0 ≤ p ∧ p < 0 + 8 ∧ m_wg wy nx (m_ds wy nx 40) 0 (x / 256) (x % 256) p = true := by
      rcases hx with e | ⟨p, a1, a2, a3⟩
      · exact absurd e hx0
      · have a3 : nx (x % 256) p = 0 := a3
        exact ⟨p, by omega, by omega, by unfold m_wg; rw [a2, a3, m_ds_0]; simp⟩
    obtain ⟨_, p2, p3, p4⟩ := m_pk_in hex
    rw [m_wy_s] at hW
    generalize m_pk (m_wg wy nx (m_ds wy nx 40) 0 (x / 256) (x % 256)) 8 0 = Pp at p2 p3 p4 hW
    unfold m_wg at p3 p4
    rw [Bool.and_eq_true, decide_eq_true_iff] at p3
    have hz := b_ds0 p3.2
    have hu : s.1 (Pp * 256) = -1 := by
      apply Classical.byContradiction
      intro hne
      have hm2 := (hi.1 _ (by omega)).mp hne
      exact hno (wk - 1) (by omega) (hq _ hm2 0 (by show Pp * 256 % 256 = 0; omega))
    obtain ⟨c1, c2, c3⟩ := b_lvZ hnx (x := x) (Pp := Pp) (l1 := l1) (l2 := l2) (s := s) (fun y hy => ⟨hi.2.2 y (hmem y (List.mem_append_left _ hy)), fun p a1 a2 a3 => hl1 y hy (Or.inr ⟨p, a1, a2, a3⟩)⟩) hx2 hi h1 (by omega) p3.1 hz (fun q a1 a2 a3 => by
      have := p4 q (by omega) a1
      rw [a2, a3, m_ds_0] at this
      simp at this) hu
    have hrun : h_run wy nx (m + 1) wk pre.length s = (nI wk, b_lv wy nx (l1 ++ x :: l2) s) := by
      rw [h_run_s, hlen2, hlv, if_neg (by rw [c1]; exact nI_m1 (by omega))]
    rw [hrun]
    refine ⟨by rw [show wk = D by omega], ?_⟩
    show h_way (b_lv wy nx (l1 ++ x :: l2) s).1 D (b_lv wy nx (l1 ++ x :: l2) s).2.2 1 0 = W
    rw [c1, show D = l.length + 1 by omega]
    have hvis : ∀ y ∈ l, s.1 y ≠ -1 := fun y hy => (hi.1 y (hi.2.2 y (hlm y hy))).mpr (hlm y hy)
    rw [b_way l (Pp * 256) 1 0 (fun y hy => by
      rcases List.mem_cons.mp hy with e | e
      · subst e; omega
      · exact hi.2.2 y (hlm y e)) (by
      cases l with
      | nil => trivial
      | cons y l' =>
        refine ⟨?_, b_ch_cg (y :: l') (fun z hz => c3 z (hvis z hz)) hch⟩
        rw [c2, hhd y l' rfl])]
    rw [← hW]
    show 0 + 1 * (10 * b_val l + nI (Pp * 256 / 256) + 1) = 10 * b_val l + nI Pp + 1
    rw [show Pp * 256 / 256 = Pp by omega, Int32.zero_add, Int32.one_mul]
  | r + 1, m + 1, wk, s, x, l, pre, l1, l2, hwD, hrm, hwk, hi, h1, hq, hs, hl1, hx, hlen, hlm, hch, hhd, hW => by
    have hmem : ∀ y ∈ l1 ++ x :: l2, y ∈ s.2.1 := fun y hy => by rw [hs]; exact List.mem_append_right _ hy
    have hxm := hmem x (List.mem_append_right _ List.mem_cons_self)
    have hx2 := hi.2.2 x hxm
    have hx0 : x % 256 ≠ 0 := fun e => hno (wk - 1) (by omega) (hq x hxm 0 e)
    have hlv := b_lv_of (wy := wy) (nx := nx) (l1 ++ x :: l2) pre [] s (by rw [List.append_nil]; exact hs)
    have hlen2 : s.2.1.length - pre.length = (l1 ++ x :: l2).length := by rw [hs, List.length_append]; omega
    have hsm : ∀ q j, q < 8 → wy (x / 256) q = true → m_ds wy nx 40 q (nx (x % 256) q) = j → r + 1 ≤ j := fun q j a1 a2 a3 => by
      apply Classical.byContradiction
      intro hne
      have b1 : b_R wy nx j q (nx (x % 256) q) := (b_dsR (by omega)).mpr (by omega)
      have b2 : bR wy nx (j + 1) x := Or.inr ⟨q, a1, a2, b1⟩
      exact hno (wk - 1 + (j + 1)) (by omega) (hq x hxm (j + 1) b2)
    have hex : ∃ p, 0 ≤ p ∧ p < 0 + 8 ∧ m_wg wy nx (m_ds wy nx 40) (r + 1) (x / 256) (x % 256) p = true := by
      rcases hx with e | ⟨p, a1, a2, a3⟩
      · exact absurd e hx0
      · have b1 := (b_dsR (by omega)).mp a3
        have b2 := hsm p _ a1 a2 rfl
        exact ⟨p, by omega, by omega, by unfold m_wg; rw [a2, show m_ds wy nx 40 p (nx (x % 256) p) = r + 1 by omega]; simp⟩
    obtain ⟨_, p2, p3, p4⟩ := m_pk_in hex
    rw [m_wy_s] at hW
    generalize m_pk (m_wg wy nx (m_ds wy nx 40) (r + 1) (x / 256) (x % 256)) 8 0 = Pp at p2 p3 p4 hW
    unfold m_wg at p3 p4
    rw [Bool.and_eq_true, decide_eq_true_iff] at p3
    have hdc := b_sc_d hnx x Pp
    have hgd : bR wy nx (r + 1) (b_sc nx x Pp) := by
      unfold bR
      rw [hdc.1, hdc.2]
      exact (b_dsR (by omega)).mpr (by omega)
    have hu : s.1 (b_sc nx x Pp) = -1 := by
      apply Classical.byContradiction
      intro hne
      have hm2 := (hi.1 _ (b_sc_lt hnx (by omega))).mp hne
      exact hno (wk - 1 + (r + 1)) (by omega) (hq _ hm2 (r + 1) hgd)
    obtain ⟨e1, e2, c1, c2, c3, c4⟩ := b_lvG hnx (x := x) (Pp := Pp) (good := bR wy nx (r + 1)) (l1 := l1) (l2 := l2) (s := s) (fun y hy => ⟨hi.2.2 y (hmem y hy), b_ngR hnx (N := D - 1) hwk (by omega) (hq y (hmem y hy)) (fun j hj => hno j (by omega))⟩) hi h1 (by omega) p3.1 (fun q a1 a2 a3 => by
      have := p4 q (by omega) a1
      rw [a2] at this
      have d := b_sc_d hnx x q
      unfold bR at a3
      rw [d.1, d.2] at a3
      have b1 := (b_dsR (by omega)).mp a3
      have b2 := hsm q _ (by omega) a2 rfl
      rw [show m_ds wy nx 40 q (nx (x % 256) q) = r + 1 by omega] at this
      simp at this) hgd (fun y hy q a1 a2 a3 => hl1 y hy (bR_sc hnx a1 a2 a3)) hu
    have hrun : h_run wy nx (m + 1) wk pre.length s = h_run wy nx m (wk + 1) s.2.1.length (b_lv wy nx (l1 ++ x :: l2) s) := by
      rw [h_run_s, hlen2, hlv, if_pos (by rw [c1.2.2.1]; exact h1)]
    rw [hrun]
    have hvis : ∀ y ∈ l, s.1 y ≠ -1 := fun y hy => (hi.1 y (hi.2.2 y (hlm y hy))).mpr (hlm y hy)
    refine b_runR hnx hD hno r m (wk + 1) _ (b_sc nx x Pp) (b_sc nx x Pp :: l) s.2.1 e1 e2 (by omega) (by omega) (by omega) c1.1 (by rw [c1.2.2.1]; exact h1) ?_ c1.2.1 c2 hgd (by simp; omega) (fun y hy => ?_) ?_ (fun y l' e => (List.cons.inj e).1.symm) ?_
    · rw [c1.2.1]
      exact b_nb hnx hwk hq hmem c4
    · rw [c1.2.1]
      rcases List.mem_cons.mp hy with e | e
      · subst e; exact List.mem_append_right _ (List.mem_append_right _ List.mem_cons_self)
      · exact List.mem_append_left _ (hlm y e)
    · cases l with
      | nil => trivial
      | cons y l' =>
        refine ⟨by rw [c3, hhd y l' rfl], b_ch_cg (y :: l') (fun z hz => c1.2.2.2 z (hvis z hz)) hch⟩
    · rw [hdc.1, hdc.2]
      have hv : b_val (b_sc nx x Pp :: l) = 10 * b_val l + nI Pp + 1 := by
        show 10 * b_val l + nI (b_sc nx x Pp / 256) + 1 = _
        rw [hdc.1]
      rw [hv]
      exact hW
end BS
theorem x_few_D {C : mC} {w f a n T : Nat} (ha : a < 8) (hT : T < 256) (hn : n ≤ 40) : x_few C.1 C.2.1 C.2.2.1 w (cK C f) (cU C f) a n T = (if c_D C w f 40 (8 * T + a) = 1000000 ∨ n < c_D C w f 40 (8 * T + a) then -1 else nI (c_D C w f 40 (8 * T + a))) ∧ x_way C.1 C.2.1 C.2.2.1 w (cK C f) (cU C f) a n T = (if c_D C w f 40 (8 * T + a) = 1000000 ∨ n < c_D C w f 40 (8 * T + a) ∨ 9 < c_D C w f 40 (8 * T + a) then -1 else c_way C w f T a) := by
  have hnx := c_nx_lt C w f
  rw [c_D_at ha]
  unfold c_way x_few x_way
  rw [c_D_at ha]
  generalize hd : m_ds (c_wy C) (c_nx C w f) 40 a T = D
  by_cases hT0 : T = 0
  · subst hT0
    rw [m_ds_0] at hd
    subst hd
    rw [if_pos rfl, if_neg (by omega), if_pos rfl, if_neg (by omega)]
    exact ⟨rfl, rfl⟩
  · rw [if_neg hT0, if_neg hT0]
    have hx0 : (a * 256 + T) / 256 = a ∧ (a * 256 + T) % 256 = T := by omega
    have hR : ∀ j, j ≤ 40 → (bR (c_wy C) (c_nx C w f) j (a * 256 + T) ↔ D ≤ j) := fun j hj => by
      unfold bR
      rw [hx0.1, hx0.2, b_dsR hj, hd]
    have hinv : b_inv (upd (fun _ => (-1 : Int32)) (a * 256 + T) (nI (a * 256 + T)), [a * 256 + T], (-1 : Int32)) := by
      refine ⟨fun x hx => ?_, by simp, fun x hx => ?_⟩
      · show upd (fun _ => (-1 : Int32)) (a * 256 + T) (nI (a * 256 + T)) x ≠ -1 ↔ x ∈ [a * 256 + T]
        rw [List.mem_singleton, upd]
        by_cases e : x = a * 256 + T
        · rw [if_pos e]; exact ⟨fun _ => e, fun _ => nI_m1 (by omega)⟩
        · rw [if_neg e]; exact ⟨fun h => absurd rfl h, fun h => absurd h e⟩
      · have hx : x ∈ [a * 256 + T] := hx
        rw [List.mem_singleton] at hx; omega
    have hqq : ∀ y ∈ [a * 256 + T], ∀ r, bR (c_wy C) (c_nx C w f) r y → bR (c_wy C) (c_nx C w f) (1 - 1 + r) (a * 256 + T) := fun y hy r hr => by
      rw [List.mem_singleton] at hy; subst hy; rw [show 1 - 1 + r = r by omega]; exact hr
    have hDb : D ≤ 40 ∨ D = 1000000 := by rw [← hd]; exact m_ds_le _ _ _ _ _
    have hD0 : D ≠ 0 := fun e => hT0 (b_ds0 (by rw [hd, e]))
    show (h_run (c_wy C) (c_nx C w f) n 1 0 (upd (fun _ => (-1 : Int32)) (a * 256 + T) (nI (a * 256 + T)), [a * 256 + T], (-1 : Int32))).1 = _ ∧ (if (h_run (c_wy C) (c_nx C w f) n 1 0 (upd (fun _ => (-1 : Int32)) (a * 256 + T) (nI (a * 256 + T)), [a * 256 + T], (-1 : Int32))).1 = -1 ∨ 9 < (h_run (c_wy C) (c_nx C w f) n 1 0 (upd (fun _ => (-1 : Int32)) (a * 256 + T) (nI (a * 256 + T)), [a * 256 + T], (-1 : Int32))).1.toNatClampNeg then -1 else h_way (h_run (c_wy C) (c_nx C w f) n 1 0 (upd (fun _ => (-1 : Int32)) (a * 256 + T) (nI (a * 256 + T)), [a * 256 + T], (-1 : Int32))).2.1 (h_run (c_wy C) (c_nx C w f) n 1 0 (upd (fun _ => (-1 : Int32)) (a * 256 + T) (nI (a * 256 + T)), [a * 256 + T], (-1 : Int32))).1.toNatClampNeg (h_run (c_wy C) (c_nx C w f) n 1 0 (upd (fun _ => (-1 : Int32)) (a * 256 + T) (nI (a * 256 + T)), [a * 256 + T], (-1 : Int32))).2.2.2 1 0) = _
    by_cases hc : D = 1000000 ∨ n < D
    · have hu := b_runU hnx (x0 := a * 256 + T) (N := n) (fun j hj h => by
        have := (hR j (by omega)).mp h
        omega) n 1 0 _ (by omega) (by omega) hinv rfl (by simp) hqq
      rw [hu, if_pos hc, if_pos (Or.inl rfl), if_pos (by omega)]
      exact ⟨rfl, rfl⟩
    · have hu := b_runR hnx (x0 := a * 256 + T) (D := D) (W := m_wy (c_wy C) (c_nx C w f) (m_ds (c_wy C) (c_nx C w f) 40) D a T 0) (by omega) (fun j hj h => by
        have := (hR j (by omega)).mp h
        omega) (D - 1) n 1 _ (a * 256 + T) [] [] [] [] (by omega) (by omega) (by omega) hinv rfl hqq rfl (fun y hy => by cases hy) ((hR _ (by omega)).mpr (by omega)) rfl (fun y hy => by cases hy) trivial (fun y l' e => by cases e) (by rw [hx0.1, hx0.2, show D - 1 + 1 = D by omega]; rfl)
      obtain ⟨u1, u2⟩ := hu
      rw [show ([] : List Nat).length = 0 from rfl] at u1 u2
      rw [u1, nI_clamp (by omega), if_neg hc]
      refine ⟨rfl, ?_⟩
      by_cases h9 : 9 < D
      · rw [if_pos (Or.inr h9), if_pos (by omega)]
      · rw [if_neg (by intro e; rcases e with e | e; exact nI_m1 (by omega) e; exact h9 e), if_neg (by omega)]
        exact u2
theorem c_sf_few {C : mC} {w f a T : Nat} (ha : a < 8) (hT : T < 256) : x_few C.1 C.2.1 C.2.2.1 w (cK C f) (cU C f) a 40 T = c_sf C w f T a := by
  rw [(x_few_D ha hT (Nat.le_refl 40)).1]
  unfold c_sf
  have h := c_D_le C w f 40 (8 * T + a)
  by_cases e : c_D C w f 40 (8 * T + a) = 1000000
  · rw [if_pos (Or.inl e), if_pos e]
  · rw [if_neg (by omega), if_neg e]
