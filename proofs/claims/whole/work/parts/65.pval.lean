/-! what a text's bytes say hangs on its bytes alone -/
section CG
variable {b b' : Nat → Int32} {n : Nat} (hb : ∀ i, i < n → b i = b' i)
theorem k_run_cg (hb : ∀ i, i < n → b i = b' i) (p : Int32 → Bool) : ∀ m i, k_run p b n m i = k_run p b' n m i
  | 0, _ => rfl
  | m + 1, i => by
    show (if i < n ∧ p (b i) = true then k_run p b n m (i + 1) else i) = if i < n ∧ p (b' i) = true then k_run p b' n m (i + 1) else i
    by_cases h : i < n
    · rw [hb i h, k_run_cg hb p m (i + 1)]
    · rw [if_neg (fun e => h e.1), if_neg (fun e => h e.1)]
theorem k_end_cg (hb : ∀ i, i < n → b i = b' i) (p : Int32 → Bool) (i : Nat) : k_end p b n i = k_end p b' n i := k_run_cg hb p _ i
theorem k_isl_cg (hb : ∀ i, i < n → b i = b' i) {p ln w : Nat} (h : p + ln ≤ n) : ∀ m i, k_isl b p ln w m i = k_isl b' p ln w m i
  | 0, _ => rfl
  | m + 1, i => by
    rw [k_isl_s, k_isl_s, k_isl_cg hb h m (i + 1)]
    by_cases hi : i < ln
    · rw [hb (p + i) (by omega)]
    · simp only [if_neg hi]
theorem k_wi_cg (hb : ∀ i, i < n → b i = b' i) {p e : Nat} (hpe : p ≤ e) (he : e ≤ n) : ∀ m w r, k_wi b p e m w r = k_wi b' p e m w r
  | 0, _, _ => rfl
  | m + 1, w, r => by
    have hw : k_isw b p e w = k_isw b' p e w := by
      unfold k_isw
      rw [k_isl_cg hb (by omega)]
    rw [k_wi_s, k_wi_s, hw, k_wi_cg hb hpe he m (w + 1)]
theorem k_word_cg (hb : ∀ i, i < n → b i = b' i) {p e : Nat} (hpe : p ≤ e) (he : e ≤ n) : k_word b p e = k_word b' p e := k_wi_cg hb hpe he _ _ _
theorem k_nv_cg (hb : ∀ i, i < n → b i = b' i) : ∀ m i v, i + m ≤ n → k_nv b m i v = k_nv b' m i v
  | 0, _, _, _ => rfl
  | m + 1, i, v, h => by
    show k_nv b m (i + 1) (v * 10 + b i - 48) = k_nv b' m (i + 1) (v * 10 + b' i - 48)
    rw [hb i (by omega), k_nv_cg hb m (i + 1) _ (by omega)]
theorem k_pl_cg (hb : ∀ i, i < n → b i = b' i) (i : Nat) : k_pl b n i = k_pl b' n i := k_end_cg hb _ i
theorem k_tok_cg (hb : ∀ i, i < n → b i = b' i) (i : Nat) : k_tok b n i = k_tok b' n i := by
  unfold k_tok k_tokP
  rw [k_pl_cg hb i]
  by_cases h : n ≤ k_pl b' n i
  · rw [if_pos h, if_pos h]
  · rw [if_neg h, if_neg h, hb _ (by omega), k_end_cg hb, k_end_cg hb, k_word_cg hb k_end_ge (k_end_le (by omega))]
theorem k_nx_cg (hb : ∀ i, i < n → b i = b' i) (i : Nat) : k_nx b n i = k_nx b' n i := by
  unfold k_nx k_nxP
  rw [k_pl_cg hb i]
  by_cases h : n ≤ k_pl b' n i
  · rw [if_pos h, if_pos h]
  · rw [if_neg h, if_neg h, hb _ (by omega), k_end_cg hb, k_end_cg hb]
theorem k_val_cg (hb : ∀ i, i < n → b i = b' i) {i : Nat} (ht : k_tok b n i ≠ 18) : k_val b n i = k_val b' n i := by
  have hl := k_tok18 ht
  unfold k_val k_valP
  rw [← k_pl_cg hb i, hb _ hl, ← k_end_cg hb, ← k_end_cg hb, k_word_cg hb k_end_ge (k_end_le (by omega)), k_nv_cg hb]
  have h1 := k_end_ge (p := k_dig) (b := b) (n := n) (i := k_pl b n i)
  have h2 := k_end_le (p := k_dig) (b := b) (n := n) (i := k_pl b n i) (by omega)
  omega
theorem y_part_cg (hb : ∀ i, i < n → b i = b' i) : ∀ m pos want s c, y_part b n m pos want s c = y_part b' n m pos want s c
  | 0, _, _, _, _ => rfl
  | m + 1, pos, want, s, c => by
    rw [y_part_s, y_part_s, k_tok_cg hb pos, k_nx_cg hb pos, k_pl_cg hb pos]
    rw [y_part_cg hb m, y_part_cg hb m, y_part_cg hb m, y_part_cg hb m]
    by_cases h : k_tok b' n pos = 16 ∨ k_tok b' n pos = 17
    · rw [k_val_cg hb (by rw [k_tok_cg hb pos]; omega)]
    · rw [if_neg h, if_neg h]
theorem y_r0_cg (hb : ∀ i, i < n → b i = b' i) : y_r0 b n = y_r0 b' n := by
  have h1 : ∀ p pos c, y_p1 b n p pos c = y_p1 b' n p pos c := fun p pos c => by
    unfold y_p1
    rw [k_tok_cg hb, k_nx_cg hb, k_pl_cg hb, y_part_cg hb]
  have h3 : ∀ pos r, y_e b n pos r = y_e b' n pos r := fun pos r => by unfold y_e; rw [k_tok_cg hb, k_pl_cg hb]
  have h4 : ∀ pos c1 c2, y_r2 b n pos c1 c2 = y_r2 b' n pos c1 c2 := fun pos c1 c2 => by
    unfold y_r2
    rw [h1]
    cases y_p1 b' n 2 pos c2 with
    | inl f => rfl
    | inr x => exact h3 _ _
  have h5 : ∀ pos c1, y_r1 b n pos c1 = y_r1 b' n pos c1 := fun pos c1 => by
    unfold y_r1
    rw [h1]
    cases y_p1 b' n 1 pos c1 with
    | inl f => rfl
    | inr x => exact h4 _ _ _
  unfold y_r0
  rw [h1]
  cases y_p1 b' n 0 0 [] with
  | inl f => rfl
  | inr x => exact h5 _ _
end CG
/-! the code says what the descent tells -/
def x_lr (nm : Nat → Int32) : List Int32 → (Nat → Int32) × Nat → (Nat → Int32) × Nat
  | [], s => s
  | x :: c, s => x_step nm (x_lr nm c s) x
theorem x_lr_app (nm : Nat → Int32) : ∀ a c s, x_lr nm (a ++ c) s = x_lr nm a (x_lr nm c s)
  | [], _, _ => rfl
  | x :: a, c, s => by show x_step nm (x_lr nm (a ++ c) s) x = x_step nm (x_lr nm a (x_lr nm c s)) x; rw [x_lr_app nm a c s]
def Ev (nm : Nat → Int32) (k : Nat) (cx : List Int32) (v : Int32) : Prop := ∀ f tp, tp + k ≤ 64 → ∃ f', x_lr nm cx (f, tp) = (f', tp + 1) ∧ f' tp = v ∧ ∀ j, j < tp → f' j = f j
theorem Ev.mono {nm : Nat → Int32} {k k' : Nat} {cx : List Int32} {v : Int32} (h : Ev nm k cx v) (hk : k ≤ k') : Ev nm k' cx v := fun f tp ht => h f tp (by omega)
theorem Ev_push {nm : Nat → Int32} {x v : Int32} (h : 0 ≤ x ∨ x ≤ -100) (hv : (if 0 ≤ x then x else q_nameOf nm (-100 - x)) = v) : Ev nm 1 [x] v := by
  intro f tp ht
  refine ⟨upd f tp v, ?_, if_pos rfl, fun j hj => if_neg (by omega)⟩
  show x_step nm (f, tp) x = _
  unfold x_step
  rw [if_pos h, if_pos (by show tp < 64; omega), hv]
theorem ev_nm : ∀ j, j < 6 → ¬ 0 ≤ (-100 - nI j : Int32) ∧ (-100 - nI j : Int32) ≤ -100 ∧ (-100 - (-100 - nI j) : Int32) = nI j ∧ (0 : Int32) ≤ nI j ∧ nI j < 6 ∧ (nI j).toNatClampNeg = j ∧ ((-100 - nI j : Int32) = -102 ↔ j = 2) := by decide +kernel
theorem Ev_name {nm : Nat → Int32} {j : Nat} (hj : j < 6) : Ev nm 1 [-100 - nI j] (nm j) := by
  obtain ⟨h1, h2, h3, h4, h5, h6, _⟩ := ev_nm j hj
  refine Ev_push (Or.inr h2) ?_
  rw [if_neg h1, h3]
  unfold q_nameOf
  rw [if_pos ⟨h4, h5⟩, h6]
theorem ev_op : ∀ t, t < 10 → t ≠ 0 → ¬ ((0 : Int32) ≤ -(nI t) ∨ -(nI t) ≤ (-100 : Int32)) ∧ (-(-(nI t)) : Int32) = nI t ∧ (((nI t = 3 ∨ nI t = 9) ↔ (t = 3 ∨ t = 9))) ∧ (-(nI t) : Int32) ≠ -102 := by decide +kernel
theorem Ev_turn {nm : Nat → Int32} {t k : Nat} {cx : List Int32} {v : Int32} (ht : t = 3 ∨ t = 9) (h : Ev nm k cx v) : Ev nm k (-(nI t) :: cx) (q_turned (nI t) v) := by
  intro f tp hk
  obtain ⟨f1, e1, e2, e3⟩ := h f tp hk
  obtain ⟨a1, a2, a3, _⟩ := ev_op t (by omega) (by omega)
  refine ⟨upd f1 tp (q_turned (nI t) v), ?_, if_pos rfl, fun j hj => by rw [upd, if_neg (by omega)]; exact e3 j hj⟩
  show x_step nm (x_lr nm cx (f, tp)) (-(nI t)) = _
  rw [e1]
  unfold x_step
  rw [if_neg a1, a2, if_pos (a3.mpr ht), if_pos (by show 1 ≤ tp + 1; omega)]
  show (upd f1 (tp + 1 - 1) (q_turned (nI t) (f1 (tp + 1 - 1))), tp + 1) = _
  rw [show tp + 1 - 1 = tp by omega, e2]
theorem Ev_jn {nm : Nat → Int32} {t k k2 : Nat} {cx cx2 : List Int32} {v v2 : Int32} (ht : 1 ≤ t ∧ t ≤ 8 ∧ t ≠ 3) (h : Ev nm k cx v) (hk : k ≤ k2 + 1) (h2 : Ev nm k2 cx2 v2) : Ev nm (k2 + 1) (-(nI t) :: (cx2 ++ cx)) (q_joined (nI t) v v2) := by
  intro f tp hb
  obtain ⟨f1, e1, e2, e3⟩ := h f tp (by omega)
  obtain ⟨f2, g1, g2, g3⟩ := h2 f1 (tp + 1) (by omega)
  obtain ⟨a1, a2, a3, _⟩ := ev_op t (by omega) (by omega)
  refine ⟨upd f2 tp (q_joined (nI t) v v2), ?_, if_pos rfl, fun j hj => by rw [upd, if_neg (by omega), g3 j (by omega)]; exact e3 j hj⟩
  show x_step nm (x_lr nm (cx2 ++ cx) (f, tp)) (-(nI t)) = _
  rw [x_lr_app, e1, g1]
  unfold x_step
  rw [if_neg a1, a2, if_neg (by rw [a3]; omega), if_pos (by show 2 ≤ tp + 1 + 1; omega)]
  show (upd f2 (tp + 1 + 1 - 1 - 1) (q_joined (nI t) (f2 (tp + 1 + 1 - 1 - 1)) (f2 (tp + 1 + 1 - 1))), tp + 1 + 1 - 1) = _
  rw [show tp + 1 + 1 - 1 - 1 = tp by omega, show tp + 1 + 1 - 1 = tp + 1 by omega, g2, g3 tp (by omega), e2]
theorem dig_of {x : Int32} (h : k_dig x = true) : ∃ d, d ≤ 9 ∧ x = nI (48 + d) := by
  have h := of_decide_eq_true h
  obtain ⟨j, hj, rfl⟩ := vp_in_of (x := x) (n := 58) (vp_in_iff.mpr (by omega)) (by decide)
  rw [nI_toInt (by omega)] at h
  exact ⟨j - 48, by omega, by rw [show 48 + (j - 48) = j by omega]⟩
theorem nI_dig (v d : Nat) : nI v * 10 + nI (48 + d) - 48 = nI (v * 10 + d) := by
  rw [show (10 : Int32) = nI 10 from rfl, show (48 : Int32) = nI 48 from rfl]
  have e1 : nI v * nI 10 = nI (v * 10) := by
    apply Int32.toBitVec_inj.mp
    simp [nI]
  rw [e1, ← nI_add 48 d, ← nI_add (v * 10) d]
  grind
theorem k_nv_b (b : Nat → Int32) : ∀ m p v, (∀ j, j < m → k_dig (b (p + j)) = true) → ∃ x, x < (v + 1) * 10 ^ m ∧ k_nv b m p (nI v) = nI x
  | 0, p, v, _ => ⟨v, by simp, rfl⟩
  | m + 1, p, v, h => by
    obtain ⟨d, hd, e⟩ := dig_of (h 0 (by omega))
    obtain ⟨x, hx, ex⟩ := k_nv_b b m (p + 1) (v * 10 + d) (fun j hj => by rw [show p + 1 + j = p + (j + 1) by omega]; exact h (j + 1) (by omega))
    refine ⟨x, ?_, ?_⟩
    · have h1 : (v * 10 + d + 1) * 10 ^ m ≤ (v + 1) * 10 * 10 ^ m := Nat.mul_le_mul_right _ (by omega)
      rw [Nat.pow_succ, Nat.mul_comm (10 ^ m) 10, ← Nat.mul_assoc]
      omega
    · show k_nv b m (p + 1) (nI v * 10 + b p - 48) = nI x
      rw [show b p = nI (48 + d) from e, nI_dig, ex]
theorem k_val16 {b : Nat → Int32} {n pos : Nat} (h : k_tok b n pos = 16) : 0 ≤ k_val b n pos := by
  have hl := k_tok18 (b := b) (n := n) (i := pos) (by omega)
  unfold k_tok k_tokP at h
  rw [if_neg (by omega)] at h
  by_cases hlt : k_let (b (k_pl b n pos)) = true
  · rw [if_pos hlt] at h
    have := k_wt_in (k_word b (k_pl b n pos) (k_end k_let b n (k_pl b n pos)))
    omega
  · rw [if_neg hlt] at h
    by_cases hd : k_dig (b (k_pl b n pos)) = true
    · rw [if_pos hd] at h
      by_cases h4 : 4 < k_end k_dig b n (k_pl b n pos) - k_pl b n pos
      · rw [if_pos h4] at h; omega
      · unfold k_val k_valP
        rw [if_neg hlt]
        obtain ⟨x, hx, e⟩ := k_nv_b b (k_end k_dig b n (k_pl b n pos) - k_pl b n pos) (k_pl b n pos) 0 (fun j hj => k_run_all k_dig b n _ (k_pl b n pos) (k_pl b n pos + j) (by omega) (by show k_pl b n pos + j < k_end k_dig b n (k_pl b n pos); omega))
        rw [show (0 : Int32) = nI 0 from rfl, e]
        have hp : 10 ^ (k_end k_dig b n (k_pl b n pos) - k_pl b n pos) ≤ 10 ^ 4 := Nat.pow_le_pow_right (by decide) (by omega)
        exact nI_le (Nat.zero_le _) (by omega)
    · rw [if_neg hd] at h
      have := (k_sgn_ne (b (k_pl b n pos))).2.1
      omega
theorem k_val17 {b : Nat → Int32} {n pos : Nat} (h : k_tok b n pos = 17) : ∃ j, j < 6 ∧ k_val b n pos = nI j := by
  obtain ⟨w, h1, h2, h3⟩ := mw_name_ex h
  exact ⟨w - 6, by omega, ((mw_name h1 h2).mp h3).2⟩
section EV
variable {b nm : Nat → Int32} {n : Nat}
def dEv (nm : Nat → Int32) (k : Nat) (f : Nat → dR) : Prop := ∀ pos v cx q, f pos = .inr (v, cx, q) → Ev nm k cx v
theorem ev_atom {k : Nat} {can : Bool} {sa se : Nat → dR} (hk : 1 ≤ k) (ha : can = true → dEv nm k sa) (he : can = true → dEv nm k se) : dEv nm k (d_atom b nm n can sa se) := by
  intro pos v cx q h
  unfold d_atom at h
  by_cases h7 : k_tok b n pos = 7
  · rw [if_pos h7] at h
    cases hc : can
    · rw [hc, if_neg (by simp)] at h; cases h
    · rw [hc, if_pos rfl] at h
      cases hs : sa (k_nx b n pos) with
      | inl f => rw [hs] at h; cases h
      | inr x =>
        obtain ⟨v1, c1, q1⟩ := x
        rw [hs] at h
        have e := ha hc _ _ _ _ hs
        cases h
        have := Ev_turn (t := 9) (Or.inr rfl) e
        have hq : q_turned (nI 9) v1 = -v1 := if_pos rfl
        rw [hq] at this
        exact this
  · rw [if_neg h7] at h
    by_cases h10 : k_tok b n pos = 10
    · rw [if_pos h10] at h
      cases hc : can
      · rw [hc, if_neg (by simp)] at h; cases h
      · rw [hc, if_pos rfl] at h
        cases hs : se (k_nx b n pos) with
        | inl f => rw [hs] at h; cases h
        | inr x =>
          obtain ⟨v1, c1, q1⟩ := x
          rw [hs] at h
          have e := he hc _ _ _ _ hs
          unfold d_clo at h
          dsimp only at h
          split at h
          · cases h; exact e
          · cases h
    · rw [if_neg h10] at h
      by_cases h16 : k_tok b n pos = 16
      · rw [if_pos h16] at h
        cases h
        have h0 := k_val16 h16
        exact (Ev_push (Or.inl h0) (if_pos h0)).mono hk
      · rw [if_neg h16] at h
        by_cases h17 : k_tok b n pos = 17
        · rw [if_pos h17] at h
          cases h
          obtain ⟨j, hj, e⟩ := k_val17 h17
          rw [e, (ev_nm j hj).2.2.2.2.2.1]
          exact (Ev_name hj).mono hk
        · rw [if_neg h17] at h; cases h
theorem ev_loop {k : Nat} {ts : Nat → Bool} {sub : Nat → dR} (hs : dEv nm k sub) (hts : ∀ t, ts t = true → 1 ≤ t ∧ t ≤ 8 ∧ t ≠ 3) : ∀ m v c q v2 c2 q2, Ev nm (k + 1) c v → d_loop b n ts sub m v c q = .inr (v2, c2, q2) → Ev nm (k + 1) c2 v2
  | 0, v, c, q, v2, c2, q2, he, h => by cases h; exact he
  | m + 1, v, c, q, v2, c2, q2, he, h => by
    rw [d_loop_s] at h
    cases ht : ts (k_tok b n q)
    · rw [ht, if_neg (by simp)] at h
      cases h; exact he
    · rw [ht, if_pos rfl] at h
      cases hu : sub (k_nx b n q) with
      | inl f => rw [hu] at h; cases h
      | inr x =>
        obtain ⟨v3, c3, q3⟩ := x
        rw [hu] at h
        exact ev_loop hs hts m _ _ _ v2 c2 q2 (Ev_jn (hts _ ht) he (Nat.le_refl _) (hs _ _ _ _ hu)) h
theorem ev_bin {k : Nat} {ts : Nat → Bool} {sub : Nat → dR} (hs : dEv nm k sub) (hts : ∀ t, ts t = true → 1 ≤ t ∧ t ≤ 8 ∧ t ≠ 3) : dEv nm (k + 1) (d_bin b n ts sub) := by
  intro pos v cx q h
  unfold d_bin at h
  cases hu : sub pos with
  | inl f => rw [hu] at h; cases h
  | inr x =>
    obtain ⟨v3, c3, q3⟩ := x
    rw [hu] at h
    exact ev_loop hs hts 161 v3 c3 q3 v cx q ((hs _ _ _ _ hu).mono (by omega)) h
theorem ev_not {k : Nat} {can : Bool} {ad sn : Nat → dR} (ha : dEv nm k ad) (hs : can = true → dEv nm (k + 1) sn) : dEv nm (k + 1) (d_not b n can ad sn) := by
  intro pos v cx q h
  unfold d_not at h
  by_cases h3 : k_tok b n pos = 3
  · rw [if_pos h3] at h
    cases hc : can
    · rw [hc, if_neg (by simp)] at h; cases h
    · rw [hc, if_pos rfl] at h
      cases hu : sn (k_nx b n pos) with
      | inl f => rw [hu] at h; cases h
      | inr x =>
        obtain ⟨v1, c1, q1⟩ := x
        rw [hu] at h
        have e := hs hc _ _ _ _ hu
        cases h
        have := Ev_turn (t := 3) (Or.inl rfl) e
        have hq : q_turned (nI 3) v1 = if v1 = 0 then 1 else 0 := if_neg (by decide)
        rw [hq] at this
        exact this
  · rw [if_neg h3] at h
    unfold d_cmp at h
    cases hu : ad pos with
    | inl f => rw [hu] at h; cases h
    | inr x =>
      obtain ⟨v1, c1, q1⟩ := x
      rw [hu] at h
      have e := ha _ _ _ _ hu
      dsimp only at h
      by_cases h45 : k_tok b n q1 = 4 ∨ k_tok b n q1 = 5
      · rw [if_pos h45] at h
        cases hu2 : ad (k_nx b n q1) with
        | inl f => rw [hu2] at h; cases h
        | inr x =>
          obtain ⟨v3, c3, q3⟩ := x
          rw [hu2] at h
          have e2 := ha _ _ _ _ hu2
          cases h
          exact Ev_jn (by omega) e (by omega) e2
      · rw [if_neg h45] at h
        cases h
        exact e.mono (by omega)
theorem ev_add (t : Nat) (h : t_add t = true) : 1 ≤ t ∧ t ≤ 8 ∧ t ≠ 3 := by have h : t = 6 ∨ t = 7 := of_decide_eq_true h; omega
theorem ev_mul (t : Nat) (h : t_mul t = true) : 1 ≤ t ∧ t ≤ 8 ∧ t ≠ 3 := by have h : t = 8 := of_decide_eq_true h; omega
theorem ev_and (t : Nat) (h : t_and t = true) : 1 ≤ t ∧ t ≤ 8 ∧ t ≠ 3 := by have h : t = 2 := of_decide_eq_true h; omega
theorem ev_or (t : Nat) (h : t_or t = true) : 1 ≤ t ∧ t ≤ 8 ∧ t ≠ 3 := by have h : t = 1 := of_decide_eq_true h; omega
theorem ev_lev : ∀ r, dEv nm (5 * r + 1) (dA b nm n r) ∧ dEv nm (5 * r + 4) (dN b nm n r) ∧ dEv nm (5 * r + 6) (dE b nm n r)
  | 0 => by
    have hA : dEv nm 1 (dA b nm n 0) := ev_atom (can := false) (Nat.le_refl _) (fun e => by cases e) (fun e => by cases e)
    have hP : dEv nm 3 (dP b nm n 0) := ev_bin (ev_bin hA ev_mul) ev_add
    have hN : dEv nm 4 (dN b nm n 0) := ev_not (can := false) hP (fun e => by cases e)
    refine ⟨hA, hN, fun pos v cx q h => ?_⟩
    rw [dE_s] at h
    exact ev_bin (ev_bin hN ev_and) ev_or _ _ _ _ h
  | r + 1 => by
    obtain ⟨iA, iN, iE⟩ := ev_lev r
    have hA : dEv nm (5 * r + 6) (dA b nm n (r + 1)) := ev_atom (can := true) (by omega) (fun _ => fun pos v cx q h => (iA pos v cx q h).mono (by omega)) (fun _ => iE)
    have hP : dEv nm (5 * r + 8) (dP b nm n (r + 1)) := ev_bin (ev_bin hA ev_mul) ev_add
    have hN : dEv nm (5 * r + 9) (dN b nm n (r + 1)) := ev_not (can := true) hP (fun _ => fun pos v cx q h => (iN pos v cx q h).mono (by omega))
    refine ⟨fun pos v cx q h => (hA pos v cx q h).mono (by omega), fun pos v cx q h => (hN pos v cx q h).mono (by omega), fun pos v cx q h => ?_⟩
    rw [dE_s] at h
    exact (ev_bin (ev_bin hN ev_and) ev_or _ _ _ _ h).mono (by omega)
theorem ev_p1 {p pos : Nat} {v : Int32} {cx : List Int32} {q : Nat} (h : d_p1 b nm n p pos = .inr (v, cx, q)) : Ev nm 31 cx v := by
  unfold d_p1 at h
  split at h
  · cases hs : dE b nm n 5 (k_nx b n pos) with
    | inl f => rw [hs] at h; cases h
    | inr x =>
      obtain ⟨v1, c1, q1⟩ := x
      rw [hs] at h
      have e := ev_lev 5 |>.2.2 _ _ _ _ hs
      unfold d_semi at h
      dsimp only at h
      split at h
      · cases h; exact e
      · cases h
  · cases h
end EV
/-- a text that was read: by both, and what it says -/
theorem rd_of {b : Nat → Int32} {n : Nat} (nm : Nat → Int32) (hn : n ≤ 160) {c1 c2 c3 : List Int32} (h : y_r0 b n = .inr (c1, c2, c3)) : ∃ v0 v1 v2 x1 x2, d_read b nm n = .inr (v0, v1, v2) ∧ c2 = x1 ++ c1 ∧ c3 = x2 ++ c2 ∧ Ev nm 31 c1 v0 ∧ Ev nm 31 x1 v1 ∧ Ev nm 31 x2 v2 := by
  unfold y_r0 at h
  rw [y_p1_d nm hn (by decide) [] (Nat.zero_le _)] at h
  unfold d_read
  cases h0 : d_p1 b nm n 0 0 with
  | inl f => rw [h0] at h; cases h
  | inr x =>
    obtain ⟨v0, x0, q0⟩ := x
    rw [h0] at h
    have l0 := d_p1_le (Nat.zero_le _) h0 (by decide)
    have e0 := ev_p1 h0
    dsimp only at h ⊢
    unfold y_r1 at h
    rw [y_p1_d nm hn (by decide) _ l0.2] at h
    unfold d_r1
    cases h1 : d_p1 b nm n 1 q0 with
    | inl f => rw [h1] at h; cases h
    | inr x =>
      obtain ⟨v1, x1, q1⟩ := x
      rw [h1] at h
      have l1 := d_p1_le l0.2 h1 (by decide)
      have e1 := ev_p1 h1
      dsimp only at h ⊢
      unfold y_r2 at h
      rw [y_p1_d nm hn (by decide) _ l1.2] at h
      unfold d_r2
      cases h2 : d_p1 b nm n 2 q1 with
      | inl f => rw [h2] at h; cases h
      | inr x =>
        obtain ⟨v2, x2, q2⟩ := x
        rw [h2] at h
        have e2 := ev_p1 h2
        dsimp only at h ⊢
        unfold y_e at h
        unfold d_r3
        split at h
        · rename_i ht
          cases h
          rw [if_pos ht]
          rw [List.append_nil]
          exact ⟨v0, v1, v2, x1, x2, rfl, rfl, rfl, e0, e1, e2⟩
        · cases h
theorem rd_no {b : Nat → Int32} {n : Nat} (nm : Nat → Int32) (hn : n ≤ 160) {f : Nat} (h : y_r0 b n = .inl f) : d_read b nm n = .inl f := by
  unfold y_r0 at h
  rw [y_p1_d nm hn (by decide) [] (Nat.zero_le _)] at h
  unfold d_read
  cases h0 : d_p1 b nm n 0 0 with
  | inl f => rw [h0] at h; cases h; rfl
  | inr x =>
    obtain ⟨v0, x0, q0⟩ := x
    rw [h0] at h
    have l0 := d_p1_le (Nat.zero_le _) h0 (by decide)
    dsimp only at h ⊢
    unfold y_r1 at h
    rw [y_p1_d nm hn (by decide) _ l0.2] at h
    unfold d_r1
    cases h1 : d_p1 b nm n 1 q0 with
    | inl f => rw [h1] at h; cases h; rfl
    | inr x =>
      obtain ⟨v1, x1, q1⟩ := x
      rw [h1] at h
      have l1 := d_p1_le l0.2 h1 (by decide)
      dsimp only at h ⊢
      unfold y_r2 at h
      rw [y_p1_d nm hn (by decide) _ l1.2] at h
      unfold d_r2
      cases h2 : d_p1 b nm n 2 q1 with
      | inl f => rw [h2] at h; cases h; rfl
      | inr x =>
        obtain ⟨v2, x2, q2⟩ := x
        rw [h2] at h
        dsimp only at h ⊢
        unfold y_e at h
        unfold d_r3
        split at h
        · cases h
        · rename_i ht
          rw [if_neg ht]
          cases h; rfl
/-! the rows of the class's text -/
theorem x_run_r (nm code : Nat → Int32) : ∀ k i s, x_run nm code i (k + 1) s = x_step nm (x_run nm code i k s) (code (i + k))
  | 0, i, s => rfl
  | k + 1, i, s => by
    show x_run nm code (i + 1) (k + 1) (x_step nm s (code i)) = x_step nm (x_run nm code (i + 1) k (x_step nm s (code i))) (code (i + (k + 1)))
    rw [x_run_r nm code k (i + 1), show i + 1 + k = i + (k + 1) by omega]
theorem x_run_lr {nm code : Nat → Int32} {c : List Int32} : ∀ (x : List Int32) (s : (Nat → Int32) × Nat), k_co code (x ++ c) → x_run nm code c.length x.length s = x_lr nm x s
  | [], _, _ => rfl
  | h :: x, s, hk => by
    show x_run nm code c.length (x.length + 1) s = x_step nm (x_lr nm x s) h
    obtain ⟨k1, k2⟩ := hk
    rw [x_run_r, x_run_lr x s k2, show c.length + x.length = (x ++ c).length by rw [List.length_append]; omega]
    rw [show code (x ++ c).length = h from k1]
theorem k_co_t {f : Nat → Int32} : ∀ {x c : List Int32}, k_co f (x ++ c) → k_co f c
  | [], _, h => h
  | _ :: x, c, h => k_co_t (x := x) h.2
theorem x_fin_ev {nm : Nat → Int32} {x : List Int32} {v : Int32} {f : Nat → Int32} (h : Ev nm 31 x v) : x_fin (x_lr nm x (f, 0)) = decide (v ≠ 0) := by
  obtain ⟨f', e1, e2, _⟩ := h f 0 (by omega)
  rw [e1]
  unfold x_fin
  subst e2
  apply decide_eq_decide.mpr
  exact ⟨fun e => e.2, fun e => ⟨Nat.le_refl _, e⟩⟩
theorem x_lr_nw {nm nm' : Nat → Int32} (hn : ∀ j, j ≠ 2 → nm j = nm' j) : ∀ (x : List Int32) (s : (Nat → Int32) × Nat), -102 ∉ x → x_lr nm x s = x_lr nm' x s
  | [], _, _ => rfl
  | h :: x, s, hx => by
    show x_step nm (x_lr nm x s) h = x_step nm' (x_lr nm' x s) h
    rw [x_lr_nw hn x s (fun m => hx (List.mem_cons_of_mem _ m))]
    have h1 : h ≠ -102 := fun e => hx (by rw [e]; exact List.mem_cons_self)
    have h2 : q_nameOf nm (-100 - h) = q_nameOf nm' (-100 - h) := by
      unfold q_nameOf
      split
      · rename_i hc
        apply hn
        intro e
        apply h1
        obtain ⟨j, hj, ej⟩ := vp_in_of (x := -100 - h) (n := 6) (vp_in_iff.mpr ⟨by have := Int32.le_iff_toInt_le.mp hc.1; exact this, by have := Int32.lt_iff_toInt_lt.mp hc.2; exact this⟩) (by decide)
        rw [ej, nI_clamp (by omega)] at e
        subst e
        have e3 : h = -100 - (-100 - h) := by grind
        rw [e3, ej]
        rfl
      · rfl
    unfold x_step
    rw [h2]
/-- a text that both have -/
def pT (μ : zMu) (t : Nat) : Prop := ∃ n c1 c2 c3, n ≤ 160 ∧ μ 63 t = nI n ∧ k_by (m_b μ t) n ∧ y_r0 (m_b μ t) n = .inr (c1, c2, c3) ∧ (μ (23 + 3 * t) 0 = nI 0 ∧ μ (23 + 3 * t) 1 = nI c1.length ∧ μ (23 + 3 * t) 2 = nI c2.length ∧ μ (23 + 3 * t) 3 = nI c3.length ∧ μ (21 + 3 * t) 2 = nI c3.length ∧ μ (21 + 3 * t) 3 = y_wk c3) ∧ k_co (μ (22 + 3 * t)) c3 ∧ c3.length ≤ 160
theorem pT_all {μ : zMu} {t : Nat} (h : pT μ t) : x_tx μ t ∧ m_tx μ t ∧ m_say μ t = xs μ t ∧ x_nw μ t := by
  obtain ⟨n, c1, c2, c3, hn, h63, hby, hr, ⟨g0, g1, g2, g3, g4, g5⟩, hco, hl⟩ := h
  have hlen : c1.length ≤ c2.length ∧ c2.length ≤ c3.length := by
    obtain ⟨_, _, _, x1, x2, _, e1, e2, _⟩ := rd_of (fun _ => 0) hn hr
    rw [e2, e1]
    simp
  have hsay : ∀ c nm, c < 3 → ∃ x v, xs μ t c nm = x_fin (x_lr nm x (fun _ => 0, 0)) ∧ (∀ y ∈ x, y ∈ c3) ∧ Ev nm 31 x v ∧ (∃ r, d_read (m_b μ t) nm n = .inr r ∧ q_p3 r c = v) := by
    intro c nm hc
    obtain ⟨v0, v1, v2, x1, x2, e0, e1, e2, f0, f1, f2⟩ := rd_of nm hn hr
    have k3 : k_co (μ (22 + 3 * t)) (x2 ++ c2) := by rw [← e2]; exact hco
    have k2 : k_co (μ (22 + 3 * t)) (x1 ++ c1) := by rw [← e1]; exact k_co_t k3
    have k1 : k_co (μ (22 + 3 * t)) (c1 ++ []) := by rw [List.append_nil]; exact k_co_t k2
    have hm1 : ∀ y ∈ c1, y ∈ c3 := fun y hy => by rw [e2, e1]; simp [hy]
    have hm2 : ∀ y ∈ x1, y ∈ c3 := fun y hy => by rw [e2, e1]; simp [hy]
    have hm3 : ∀ y ∈ x2, y ∈ c3 := fun y hy => by rw [e2]; simp [hy]
    match c, hc with
    | 0, _ =>
      refine ⟨c1, v0, ?_, hm1, f0, _, e0, rfl⟩
      unfold xs xsay x_say
      rw [g0, g1, nI_clamp (by omega), nI_clamp (by omega), Nat.sub_zero]
      exact congrArg x_fin (x_run_lr (c := []) c1 _ k1)
    | 1, _ =>
      refine ⟨x1, v1, ?_, hm2, f1, _, e0, rfl⟩
      unfold xs xsay x_say
      rw [g1, g2, nI_clamp (by omega), nI_clamp (by omega), show c2.length - c1.length = x1.length by rw [e1, List.length_append]; omega]
      exact congrArg x_fin (x_run_lr (c := c1) x1 _ k2)
    | 2, _ =>
      refine ⟨x2, v2, ?_, hm3, f2, _, e0, rfl⟩
      unfold xs xsay x_say
      rw [g2, g3, nI_clamp (by omega), nI_clamp (by omega), show c3.length - c2.length = x2.length by rw [e2, List.length_append]; omega]
      exact congrArg x_fin (x_run_lr (c := c2) x2 _ k3)
    | c + 3, hc => omega
  refine ⟨⟨0, c1.length, c2.length, c3.length, c3.length, g0, g1, g2, g3, g4, Nat.zero_le _, hlen.1, hlen.2, Nat.le_refl _, hl, ?_⟩, ⟨n, hn, h63, hby, fun nm => ?_⟩, ?_, ?_⟩
  · rw [g5]; unfold y_wk; split
    · exact Or.inr rfl
    · exact Or.inl rfl
  · obtain ⟨v0, v1, v2, _, _, e0, _⟩ := rd_of nm hn hr
    exact ⟨_, e0⟩
  · funext c nm
    unfold m_say
    by_cases hc : c < 3
    · rw [if_pos hc, h63, nI_clamp (by omega)]
      obtain ⟨x, v, a1, _, a3, r, a4, a5⟩ := hsay c nm hc
      rw [a4, a1, x_fin_ev a3]
      dsimp only
      rw [a5]
    · rw [if_neg hc]
  · intro h0 c p q w w' nn y s hc
    rw [g5] at h0
    have hno : -102 ∉ c3 := fun m => by unfold y_wk at h0; rw [if_pos m] at h0; exact absurd h0 (by decide)
    have key : ∀ (nm nm' : Nat → Int32), (∀ j, j ≠ 2 → nm j = nm' j) → xs μ t c nm = xs μ t c nm' := by
      intro nm nm' hnm
      obtain ⟨v0, v1, v2, x1, x2, e0, e1, e2, f0, f1, f2⟩ := rd_of nm hn hr
      have k3 : k_co (μ (22 + 3 * t)) (x2 ++ c2) := by rw [← e2]; exact hco
      have k2 : k_co (μ (22 + 3 * t)) (x1 ++ c1) := by rw [← e1]; exact k_co_t k3
      have k1 : k_co (μ (22 + 3 * t)) (c1 ++ []) := by rw [List.append_nil]; exact k_co_t k2
      unfold xs xsay x_say
      match c, hc with
      | 0, _ =>
        rw [g0, g1, nI_clamp (by omega), nI_clamp (by omega), Nat.sub_zero]
        have r1 := x_run_lr (nm := nm) (c := []) c1 (fun _ => 0, 0) k1
        have r2 := x_run_lr (nm := nm') (c := []) c1 (fun _ => 0, 0) k1
        rw [show ([] : List Int32).length = 0 from rfl] at r1 r2
        rw [r1, r2, x_lr_nw hnm c1 _ (fun m => hno (by rw [e2, e1]; simp [m]))]
      | 1, _ =>
        rw [g1, g2, nI_clamp (by omega), nI_clamp (by omega), show c2.length - c1.length = x1.length by rw [e1, List.length_append]; omega]
        rw [x_run_lr (nm := nm) (c := c1) x1 _ k2, x_run_lr (nm := nm') (c := c1) x1 _ k2, x_lr_nw hnm x1 _ (fun m => hno (by rw [e2, e1]; simp [m]))]
      | c + 2, hc => omega
    apply key
    intro j hj
    match j, hj with
    | 0, _ => rfl
    | 1, _ => rfl
    | 2, hj => exact absurd rfl hj
    | 3, _ => rfl
    | 4, _ => rfl
    | j + 5, _ => rfl
