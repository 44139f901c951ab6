/-! the class's yard reads what the reference's descent reads -/
theorem y_b7 (x : Nat) : y_b x ≤ 7 := by
  rcases Nat.lt_or_ge x 11 with h | h
  · have key : ∀ x, x < 11 → y_b x ≤ 7 := by decide
    exact key x h
  · unfold y_b
    rw [List.getD_eq_getElem?_getD, List.getElem?_eq_none (by simp; omega)]
    simp
theorem y_top7 (s : List Nat) : y_top s ≤ 7 := by
  cases s with
  | nil => exact Nat.zero_le _
  | cons x s => exact y_b7 x
theorem y_set_base {bd : Nat} {s : List Nat} {c : List Int32} (h : y_top s < bd) : y_set bd s c = (s, c) := by
  cases s with
  | nil => rfl
  | cons x s =>
    rw [y_set_s, if_neg (by have h : y_b x < bd := h; omega)]
theorem y_set_push {bd x : Nat} {s : List Nat} {c : List Int32} (h : bd ≤ y_b x) : y_set bd (x :: s) c = y_set bd s (-(nI x) :: c) := by rw [y_set_s, if_pos h]
abbrev yO : Type := Nat ⊕ (List Int32 × Nat)
/-- behind something of level L: what is still to come of it -/
def yD (b : Nat → Int32) (n L q : Nat) (s1 : List Nat) (c1 : List Int32) : Prop := (L ≤ 6 → k_tok b n q ≠ 8) ∧ (L ≤ 5 → k_tok b n q ≠ 6 ∧ k_tok b n q ≠ 7) ∧ (L ≤ 3 → (k_tok b n q = 4 ∨ k_tok b n q = 5) → y_top (y_set 5 s1 c1).1 = 4) ∧ (L ≤ 2 → k_tok b n q ≠ 2) ∧ (L ≤ 1 → k_tok b n q ≠ 1)
def yZ (b : Nat → Int32) (n L : Nat) (s : List Nat) (c : List Int32) (X : yO) (R : dR) : Prop := match R with
  | .inl f => X = .inl f
  | .inr (_, cx, q) => ∃ m s1 c1, X = y_part b n m q false s1 c1 ∧ n < m + q ∧ q ≤ n ∧ (∀ bd, bd ≤ L → y_set bd s1 c1 = y_set bd s (cx ++ c)) ∧ yD b n L q s1 c1
def yG (b : Nat → Int32) (n r U : Nat) (t3 : Bool) (pos : Nat) (s : List Nat) : Prop := y_open s + r = 5 ∧ s.length ≤ 8 * y_open s + y_top s ∧ y_top s < U ∧ (t3 = true → k_tok b n pos = 3 → 4 ≤ y_top s)
def yY (b : Nat → Int32) (n r U : Nat) (t3 : Bool) (L : Nat) (f : Nat → dR) : Prop := ∀ m pos s c, n < m + pos → pos ≤ n → yG b n r U t3 pos s → yZ b n L s c (y_part b n m pos true s c) (f pos)
theorem yG.len {b : Nat → Int32} {n r U : Nat} {t3 : Bool} {pos : Nat} {s : List Nat} (h : yG b n r U t3 pos s) : s.length < 64 := by
  obtain ⟨h1, h2, _, _⟩ := h
  have := y_top7 s
  omega
theorem y_ah_no {tk : Nat} {s : List Nat} (h : 5 ≤ y_open s ∨ (tk ≠ 10 ∧ tk ≠ 7 ∧ (tk = 3 → 4 ≤ y_top s))) : y_ah tk s = [] := by
  unfold y_ah
  by_cases h5 : 5 ≤ y_open s
  · rw [if_pos h5]
  · rcases h with h | ⟨h1, h2, h3⟩
    · exact absurd h h5
    · rw [if_neg h5, if_neg h1, if_neg h2, if_neg (fun e => by have := h3 e.1; omega)]
theorem y_ah_10 {s : List Nat} (h : ¬ 5 ≤ y_open s) (hl : s.length < 64) : y_ah 10 s = 10 :: s := by
  unfold y_ah; rw [if_neg h, if_pos rfl, if_pos hl]
theorem y_ah_7 {s : List Nat} (h : ¬ 5 ≤ y_open s) (hl : s.length < 64) : y_ah 7 s = 9 :: s := by
  unfold y_ah; rw [if_neg h, if_neg (by decide), if_pos rfl, if_pos hl]
theorem y_ah_3 {s : List Nat} (h : ¬ 5 ≤ y_open s) (hl : s.length < 64) (ht : y_top s < 4) : y_ah 3 s = 3 :: s := by
  unfold y_ah; rw [if_neg h, if_neg (by decide), if_neg (by decide), if_pos ⟨rfl, ht⟩, if_pos hl]
theorem y_true {b : Nat → Int32} {n m pos : Nat} {s : List Nat} {c : List Int32} (h1 : k_tok b n pos ≠ 16) (h2 : k_tok b n pos ≠ 17) : y_part b n (m + 1) pos true s c = if y_ah (k_tok b n pos) s = [] then .inl (k_pl b n pos) else y_part b n m (k_nx b n pos) true (y_ah (k_tok b n pos) s) c := by
  rw [y_part_s, if_pos rfl, if_neg (by omega)]
theorem y_true_no {b : Nat → Int32} {n m pos : Nat} {s : List Nat} {c : List Int32} (h1 : k_tok b n pos ≠ 16) (h2 : k_tok b n pos ≠ 17) (h : y_ah (k_tok b n pos) s = []) : y_part b n (m + 1) pos true s c = .inl (k_pl b n pos) := by
  rw [y_true h1 h2, if_pos h]
theorem y_true_go {b : Nat → Int32} {n m pos x : Nat} {s : List Nat} {c : List Int32} (h1 : k_tok b n pos ≠ 16) (h2 : k_tok b n pos ≠ 17) (h : y_ah (k_tok b n pos) s = x :: s) : y_part b n (m + 1) pos true s c = y_part b n m (k_nx b n pos) true (x :: s) c := by
  rw [y_true h1 h2, h, if_neg (by simp)]
theorem y_false {b : Nat → Int32} {n m pos : Nat} {s : List Nat} {c : List Int32} (h1 : k_tok b n pos ≠ 12) (h2 : k_tok b n pos ≠ 11) : y_part b n (m + 1) pos false s c = if (y_bt (k_tok b n pos) s c).1 = [] then .inl (k_pl b n pos) else y_part b n m (k_nx b n pos) true (y_bt (k_tok b n pos) s c).1 (y_bt (k_tok b n pos) s c).2 := by
  rw [y_part_s, if_neg (by simp), if_neg h1, if_neg h2]
/-- a token that goes on with nothing -/
theorem y_stop {b : Nat → Int32} {n m q : Nat} {s1 : List Nat} {c1 : List Int32} (hd : yD b n 1 q s1 c1) (h1 : k_tok b n q ≠ 12) (h2 : k_tok b n q ≠ 11) : y_part b n (m + 1) q false s1 c1 = .inl (k_pl b n q) := by
  obtain ⟨d1, d2, d3, d4, d5⟩ := hd
  have e1 := d1 (by decide); have e2 := d2 (by decide); have e3 := d3 (by decide); have e4 := d4 (by decide); have e5 := d5 (by decide)
  rw [y_false h1 h2, if_pos]
  unfold y_bt
  by_cases hb : k_tok b n q < 1 ∨ 8 < k_tok b n q ∨ k_tok b n q = 3
  · rw [if_pos hb]
  · rw [if_neg hb]
    have h45 : k_tok b n q = 4 ∨ k_tok b n q = 5 := by omega
    have hy : y_b (k_tok b n q) = 4 := by rcases h45 with e | e <;> rw [e] <;> rfl
    rw [if_pos ⟨hy, e3 h45⟩]
theorem y_false_go {b : Nat → Int32} {n m q : Nat} {s s1 : List Nat} {c2 c1 : List Int32} (ht : 1 ≤ k_tok b n q ∧ k_tok b n q ≤ 8 ∧ k_tok b n q ≠ 3) (hs : y_set (if y_b (k_tok b n q) = 4 then 5 else y_b (k_tok b n q)) s1 c1 = (s, c2)) (h4 : y_b (k_tok b n q) = 4 → y_top s ≠ 4) (hl : s.length < 64) : y_part b n (m + 1) q false s1 c1 = y_part b n m (k_nx b n q) true (k_tok b n q :: s) c2 := by
  have hbt : y_bt (k_tok b n q) s1 c1 = (k_tok b n q :: s, c2) := by
    unfold y_bt
    rw [if_neg (by omega)]
    rw [if_neg (fun e => by rw [if_pos e.1] at hs; rw [hs] at e; exact h4 e.1 e.2), hs, if_pos hl]
  rw [y_false (by omega) (by omega), hbt, if_neg (by simp)]
theorem y_open_c {x : Nat} {s : List Nat} (h : y_c x = true) : y_open (x :: s) = y_open s + 1 := y_op1 h
theorem y_open_n {x : Nat} {s : List Nat} (h : y_c x = false) : y_open (x :: s) = y_open s := y_op0 (by rw [h]; simp)
theorem y_cn {t : Nat} (h1 : 1 ≤ t) (h2 : t ≤ 8) (h3 : t ≠ 3) : y_c t = false := by unfold y_c; exact decide_eq_false (by omega)
section YB
variable {b : Nat → Int32} {n r : Nat}
theorem yZ.wk {L L' : Nat} {s : List Nat} {c : List Int32} {X : yO} {R : dR} (h : yZ b n L s c X R) (hL : L' ≤ L) (hd : ∀ q s1 c1, yD b n L q s1 c1 → yD b n L' q s1 c1) : yZ b n L' s c X R := by
  cases R with
  | inl f => exact h
  | inr x =>
    obtain ⟨v, cx, q⟩ := x
    obtain ⟨m, s1, c1, a1, a2, a3, a4, a5⟩ := h
    exact ⟨m, s1, c1, a1, a2, a3, fun bd hb => a4 bd (by omega), hd q s1 c1 a5⟩
theorem y_loop {L Ls Us : Nat} {t3 : Bool} {ts : Nat → Bool} {sub : Nat → dR} (hn : n ≤ 160) (hsub : yY b n r Us t3 Ls sub) (hup : dUp n sub) (hLs : L ≤ Ls) (hLU : L < Us) (ht3 : t3 = true → 4 ≤ L) (hts : ∀ t, ts t = true → 1 ≤ t ∧ t ≤ 8 ∧ t ≠ 3 ∧ y_b t = L) (hL4 : L ≠ 4) (hdn : ∀ q s1 c1, yD b n Ls q s1 c1 → ts (k_tok b n q) = false → yD b n L q s1 c1) {s : List Nat} {c : List Int32} (hG1 : y_open s + r = 5) (hG2 : s.length ≤ 8 * y_open s + y_top s) (hG3 : y_top s < L) : ∀ k v cx q m s1 c1, 161 ≤ k + q → n < m + q → q ≤ n → (∀ bd, bd ≤ L → y_set bd s1 c1 = y_set bd s (cx ++ c)) → yD b n Ls q s1 c1 → yZ b n L s c (y_part b n m q false s1 c1) (d_loop b n ts sub k v cx q)
  | 0, v, cx, q, m, s1, c1, h0, _, h2, _, _ => by omega
  | k + 1, v, cx, q, m, s1, c1, h0, h1, h2, h3, h4 => by
    rw [d_loop_s]
    cases htk : ts (k_tok b n q)
    · rw [if_neg (by simp)]
      exact ⟨m, s1, c1, rfl, h1, h2, h3, hdn q s1 c1 h4 htk⟩
    · rw [if_pos rfl]
      obtain ⟨t1, t2, t3', t4⟩ := hts _ htk
      obtain ⟨m, rfl⟩ : ∃ m', m = m' + 1 := ⟨m - 1, by omega⟩
      have hbase : y_set L s1 c1 = (s, cx ++ c) := by rw [h3 L (Nat.le_refl _), y_set_base hG3]
      have h7 := y_top7 s
      rw [y_false_go (s := s) (c2 := cx ++ c) ⟨t1, t2, t3'⟩ (by rw [t4, if_neg hL4]; exact hbase) (fun e => absurd (t4.symm.trans e) hL4) (by omega)]
      have hu := k_nx_up (b := b) (n := n) (i := q) (by omega)
      have hg : yG b n r Us t3 (k_nx b n q) (k_tok b n q :: s) := by
        refine ⟨?_, ?_, ?_, fun e _ => ?_⟩
        · rw [y_open_n (y_cn t1 t2 t3')]; exact hG1
        · rw [y_open_n (y_cn t1 t2 t3'), List.length_cons]
          show _ ≤ 8 * y_open s + y_b (k_tok b n q)
          omega
        · show y_b (k_tok b n q) < Us; omega
        · show 4 ≤ y_b (k_tok b n q); rw [t4]; exact ht3 e
      have hz := hsub m (k_nx b n q) (k_tok b n q :: s) (cx ++ c) (by omega) hu.2 hg
      cases hs : sub (k_nx b n q) with
      | inl f => rw [hs] at hz; exact hz
      | inr x =>
        obtain ⟨v2, cx2, q2⟩ := x
        rw [hs] at hz
        obtain ⟨m2, s2, c2, a1, a2, a3, a4, a5⟩ := hz
        rw [a1]
        have hq2 := hup _ _ _ _ hu.2 hs
        show yZ b n L s c (y_part b n m2 q2 false s2 c2) (d_loop b n ts sub k (q_joined (nI (k_tok b n q)) v v2) (-(nI (k_tok b n q)) :: (cx2 ++ cx)) q2)
        refine y_loop hn hsub hup hLs hLU ht3 hts hL4 hdn hG1 hG2 hG3 k _ _ q2 m2 s2 c2 (by omega) a2 a3 (fun bd hb => ?_) a5
        rw [a4 bd (by omega), y_set_push (by omega)]
        simp [List.append_assoc]
theorem y_bin {L Ls Us : Nat} {t3 t3' : Bool} {ts : Nat → Bool} {sub : Nat → dR} (hn : n ≤ 160) (hsub : yY b n r Us t3 Ls sub) (hup : dUp n sub) (hLs : L ≤ Ls) (hLU : L < Us) (ht3 : t3 = true → 4 ≤ L) (ht33 : t3 = true → t3' = true) (hts : ∀ t, ts t = true → 1 ≤ t ∧ t ≤ 8 ∧ t ≠ 3 ∧ y_b t = L) (hL4 : L ≠ 4) (hdn : ∀ q s1 c1, yD b n Ls q s1 c1 → ts (k_tok b n q) = false → yD b n L q s1 c1) : yY b n r L t3' L (d_bin b n ts sub) := by
  intro m pos s c h1 h2 hG
  obtain ⟨g1, g2, g3, g4⟩ := hG
  have hz := hsub m pos s c h1 h2 ⟨g1, g2, by omega, fun e => g4 (ht33 e)⟩
  unfold d_bin
  cases hs : sub pos with
  | inl f => rw [hs] at hz; exact hz
  | inr x =>
    obtain ⟨v2, cx2, q2⟩ := x
    rw [hs] at hz
    obtain ⟨m2, s2, c2, a1, a2, a3, a4, a5⟩ := hz
    rw [a1]
    exact y_loop hn hsub hup hLs hLU ht3 hts hL4 hdn g1 g2 g3 161 v2 cx2 q2 m2 s2 c2 (by omega) a2 a3 (fun bd hb => a4 bd (by omega)) a5
theorem yD7 (q : Nat) (s1 : List Nat) (c1 : List Int32) : yD b n 7 q s1 c1 := ⟨fun h => absurd h (by decide), fun h => absurd h (by decide), fun h => absurd h (by decide), fun h => absurd h (by decide), fun h => absurd h (by decide)⟩
theorem y_num {can : Bool} {nm : Nat → Int32} {sa se : Nat → dR} {m pos : Nat} {s : List Nat} {c : List Int32} (h1 : n < m + 1 + pos) (h2 : pos ≤ n) (ht : k_tok b n pos = 16 ∨ k_tok b n pos = 17) : yZ b n 7 s c (y_part b n (m + 1) pos true s c) (d_atom b nm n can sa se pos) := by
  have hu := k_nx_up (b := b) (n := n) (i := pos) (by omega)
  rw [y_part_s, if_pos rfl, if_pos ht]
  by_cases h16 : k_tok b n pos = 16
  · have hR : d_atom b nm n can sa se pos = .inr (k_val b n pos, [k_val b n pos], k_nx b n pos) := by
      unfold d_atom
      rw [if_neg (by omega), if_neg (by omega), if_pos h16]
    rw [hR, if_pos h16]
    exact ⟨m, s, _, rfl, by omega, hu.2, fun bd _ => rfl, yD7 _ _ _⟩
  · have hR : d_atom b nm n can sa se pos = .inr (nm (k_val b n pos).toNatClampNeg, [-100 - k_val b n pos], k_nx b n pos) := by
      unfold d_atom
      rw [if_neg (by omega), if_neg (by omega), if_neg h16, if_pos (by omega)]
    rw [hR, if_neg h16]
    exact ⟨m, s, _, rfl, by omega, hu.2, fun bd _ => rfl, yD7 _ _ _⟩
theorem y_atom0 {nm : Nat → Int32} {sa se : Nat → dR} : yY b n 0 8 true 7 (d_atom b nm n false sa se) := by
  intro m pos s c h1 h2 hG
  obtain ⟨m, rfl⟩ : ∃ m', m = m' + 1 := ⟨m - 1, by omega⟩
  by_cases ht : k_tok b n pos = 16 ∨ k_tok b n pos = 17
  · exact y_num h1 h2 ht
  · have hR : d_atom b nm n false sa se pos = .inl (k_pl b n pos) := by
      unfold d_atom
      split
      · rw [if_neg (by simp)]
      · split
        · rw [if_neg (by simp)]
        · rw [if_neg (by omega), if_neg (by omega)]
    rw [hR]
    exact y_true_no (by omega) (by omega) (y_ah_no (Or.inl (by have := hG.1; omega)))
theorem y_atom {nm : Nat → Int32} {sa se : Nat → dR} (hsa : yY b n r 8 true 7 sa) (hse : yY b n r 1 false 1 se) : yY b n (r + 1) 8 true 7 (d_atom b nm n true sa se) := by
  intro m pos s c h1 h2 hG
  obtain ⟨m, rfl⟩ : ∃ m', m = m' + 1 := ⟨m - 1, by omega⟩
  have hlen := hG.len
  obtain ⟨g1, g2, g3, g4⟩ := hG
  by_cases ht : k_tok b n pos = 16 ∨ k_tok b n pos = 17
  · exact y_num h1 h2 ht
  · unfold d_atom
    by_cases h7 : k_tok b n pos = 7
    · rw [if_pos h7, if_pos rfl]
      have hu := k_nx_up (b := b) (n := n) (i := pos) (by omega)
      rw [y_true_go (x := 9) (by omega) (by omega) (by rw [h7]; exact y_ah_7 (by omega) hlen)]
      have hz := hsa m (k_nx b n pos) (9 :: s) c (by omega) hu.2 ⟨by rw [y_open_c (by decide)]; omega, by rw [y_open_c (by decide), List.length_cons]; have := y_top7 s; omega, show y_b 9 < 8 by decide, fun _ _ => show 4 ≤ y_b 9 by decide⟩
      cases hs : sa (k_nx b n pos) with
      | inl f => rw [hs] at hz; exact hz
      | inr x =>
        obtain ⟨v2, cx2, q2⟩ := x
        rw [hs] at hz
        obtain ⟨m2, s2, c2, a1, a2, a3, a4, a5⟩ := hz
        exact ⟨m2, s2, c2, a1, a2, a3, fun bd hb => by rw [a4 bd hb, y_set_push (x := 9) hb]; rfl, a5⟩
    · rw [if_neg h7]
      by_cases h10 : k_tok b n pos = 10
      · rw [if_pos h10, if_pos rfl]
        have hu := k_nx_up (b := b) (n := n) (i := pos) (by omega)
        rw [y_true_go (x := 10) (by omega) (by omega) (by rw [h10]; exact y_ah_10 (by omega) hlen)]
        have hz := hse m (k_nx b n pos) (10 :: s) c (by omega) hu.2 ⟨by rw [y_open_c (by decide)]; omega, by rw [y_open_c (by decide), List.length_cons]; have := y_top7 s; omega, show y_b 10 < 1 by decide, fun e => by cases e⟩
        cases hs : se (k_nx b n pos) with
        | inl f => rw [hs] at hz; exact hz
        | inr x =>
          obtain ⟨v2, cx2, q2⟩ := x
          rw [hs] at hz
          obtain ⟨m2, s2, c2, a1, a2, a3, a4, a5⟩ := hz
          rw [a1]
          obtain ⟨m2, rfl⟩ : ∃ m', m2 = m' + 1 := ⟨m2 - 1, by omega⟩
          have hset : y_set 1 s2 c2 = (10 :: s, cx2 ++ c) := by rw [a4 1 (Nat.le_refl _), y_set_base (show y_b 10 < 1 by decide)]
          unfold d_clo
          dsimp only
          by_cases h11 : k_tok b n q2 = 11
          · rw [if_pos h11]
            have hu2 := k_nx_up (b := b) (n := n) (i := q2) (by omega)
            refine ⟨m2, s, cx2 ++ c, ?_, by omega, hu2.2, fun bd _ => rfl, yD7 _ _ _⟩
            rw [y_part_s, if_neg (by simp), if_neg (by omega), if_pos h11, hset, if_neg (by simp)]
            rfl
          · rw [if_neg h11]
            show y_part b n (m2 + 1) q2 false s2 c2 = .inl (k_pl b n q2)
            by_cases h12 : k_tok b n q2 = 12
            · rw [y_part_s, if_neg (by simp), if_pos h12, hset, if_neg (by simp)]
            · exact y_stop a5 h12 h11
      · rw [if_neg h10, if_neg (by omega), if_neg (by omega)]
        exact y_true_no (by omega) (by omega) (y_ah_no (Or.inr ⟨h10, h7, fun e => g4 rfl e⟩))
theorem y_jn {r : Nat} {ad : Nat → dR} (had : yY b n r 5 true 5 ad) {m pos : Nat} {s : List Nat} {c : List Int32} (h1 : n < m + pos) (h2 : pos ≤ n) (hG : yG b n r 4 false pos s) (h3 : k_tok b n pos ≠ 3) : yZ b n 3 s c (y_part b n m pos true s c) (d_cmp b n ad (ad pos)) := by
  obtain ⟨g1, g2, g3, g4⟩ := hG
  have h7 := y_top7 s
  have hz := had m pos s c h1 h2 ⟨g1, g2, by omega, fun _ e => absurd e h3⟩
  unfold d_cmp
  cases hs : ad pos with
  | inl f => rw [hs] at hz; exact hz
  | inr x =>
    obtain ⟨v, cx, q⟩ := x
    rw [hs] at hz
    obtain ⟨m2, s2, c2, a1, a2, a3, a4, a5⟩ := hz
    obtain ⟨d1, d2, _, _, _⟩ := a5
    have e1 := d1 (by decide)
    have e2 := d2 (by decide)
    dsimp only
    by_cases h45 : k_tok b n q = 4 ∨ k_tok b n q = 5
    · rw [if_pos h45, a1]
      obtain ⟨m2, rfl⟩ : ∃ m', m2 = m' + 1 := ⟨m2 - 1, by omega⟩
      have hy : y_b (k_tok b n q) = 4 := by rcases h45 with e | e <;> rw [e] <;> rfl
      have hbase : y_set 5 s2 c2 = (s, cx ++ c) := by rw [a4 5 (Nat.le_refl _), y_set_base (by omega)]
      rw [y_false_go (s := s) (c2 := cx ++ c) (by omega) (by rw [if_pos hy]; exact hbase) (fun _ => by omega) (by omega)]
      have hu := k_nx_up (b := b) (n := n) (i := q) (by omega)
      have hcn : y_c (k_tok b n q) = false := y_cn (by omega) (by omega) (by omega)
      have hz2 := had m2 (k_nx b n q) (k_tok b n q :: s) (cx ++ c) (by omega) hu.2 ⟨by rw [y_open_n hcn]; exact g1, by rw [y_open_n hcn, List.length_cons]; show _ ≤ 8 * y_open s + y_b (k_tok b n q); omega, by show y_b (k_tok b n q) < 5; omega, fun _ _ => by show 4 ≤ y_b (k_tok b n q); omega⟩
      cases hs2 : ad (k_nx b n q) with
      | inl f => rw [hs2] at hz2; exact hz2
      | inr x =>
        obtain ⟨v3, cx3, q3⟩ := x
        rw [hs2] at hz2
        obtain ⟨m3, s3, c3, b1, b2, b3, b4, b5⟩ := hz2
        refine ⟨m3, s3, c3, b1, b2, b3, fun bd hb => ?_, ?_⟩
        · rw [b4 bd (by omega), y_set_push (by omega)]
          simp [List.append_assoc]
        · obtain ⟨k1, k2, _, _, _⟩ := b5
          refine ⟨fun _ => k1 (by decide), fun _ => k2 (by decide), fun _ _ => ?_, fun e => absurd e (by decide), fun e => absurd e (by decide)⟩
          rw [b4 5 (Nat.le_refl _), y_set_s, if_neg (by omega)]
          exact hy
    · rw [if_neg h45]
      exact ⟨m2, s2, c2, a1, a2, a3, fun bd hb => a4 bd (by omega), fun _ => e1, fun _ => e2, fun _ e => absurd e h45, fun e => absurd e (by decide), fun e => absurd e (by decide)⟩
theorem y_not0 {ad sn : Nat → dR} (had : yY b n 0 5 true 5 ad) : yY b n 0 4 false 3 (d_not b n false ad sn) := by
  intro m pos s c h1 h2 hG
  unfold d_not
  by_cases h3 : k_tok b n pos = 3
  · rw [if_pos h3, if_neg (by simp)]
    obtain ⟨m, rfl⟩ : ∃ m', m = m' + 1 := ⟨m - 1, by omega⟩
    exact y_true_no (by omega) (by omega) (y_ah_no (Or.inl (by have := hG.1; omega)))
  · rw [if_neg h3]
    exact y_jn had h1 h2 hG h3
theorem y_not {ad sn : Nat → dR} (had : yY b n (r + 1) 5 true 5 ad) (hsn : yY b n r 4 false 3 sn) : yY b n (r + 1) 4 false 3 (d_not b n true ad sn) := by
  intro m pos s c h1 h2 hG
  unfold d_not
  by_cases h3 : k_tok b n pos = 3
  · rw [if_pos h3, if_pos rfl]
    obtain ⟨m, rfl⟩ : ∃ m', m = m' + 1 := ⟨m - 1, by omega⟩
    have hlen := hG.len
    obtain ⟨g1, g2, g3, g4⟩ := hG
    have hu := k_nx_up (b := b) (n := n) (i := pos) (by omega)
    rw [y_true_go (x := 3) (by omega) (by omega) (by rw [h3]; exact y_ah_3 (by omega) hlen g3)]
    have hz := hsn m (k_nx b n pos) (3 :: s) c (by omega) hu.2 ⟨by rw [y_open_c (by decide)]; omega, by rw [y_open_c (by decide), List.length_cons]; have := y_top7 s; omega, show y_b 3 < 4 by decide, fun e => by cases e⟩
    cases hs : sn (k_nx b n pos) with
    | inl f => rw [hs] at hz; exact hz
    | inr x =>
      obtain ⟨v2, cx2, q2⟩ := x
      rw [hs] at hz
      obtain ⟨m2, s2, c2, a1, a2, a3, a4, a5⟩ := hz
      exact ⟨m2, s2, c2, a1, a2, a3, fun bd hb => by rw [a4 bd hb, y_set_push (x := 3) hb]; rfl, a5⟩
  · rw [if_neg h3]
    exact y_jn had h1 h2 hG h3
theorem y_T {nm : Nat → Int32} (hn : n ≤ 160) (hA : yY b n r 8 true 7 (dA b nm n r)) : yY b n r 6 true 6 (dT b nm n r) :=
  y_bin hn hA (dA_up b nm n r) (by decide) (by decide) (fun _ => by decide) (fun _ => rfl) (fun t h => by have h : t = 8 := of_decide_eq_true h; subst h; decide) (by decide) (fun q s1 c1 _ ht => ⟨fun _ => of_decide_eq_false ht, fun e => absurd e (by decide), fun e => absurd e (by decide), fun e => absurd e (by decide), fun e => absurd e (by decide)⟩)
theorem y_P {nm : Nat → Int32} (hn : n ≤ 160) (hA : yY b n r 8 true 7 (dA b nm n r)) : yY b n r 5 true 5 (dP b nm n r) :=
  y_bin hn (y_T hn hA) (dT_up b nm n r) (by decide) (by decide) (fun _ => by decide) (fun _ => rfl) (fun t h => by have h : t = 6 ∨ t = 7 := of_decide_eq_true h; rcases h with h | h <;> subst h <;> decide) (by decide) (fun q s1 c1 h ht => ⟨fun _ => h.1 (by decide), fun _ => by have := of_decide_eq_false ht; omega, fun e => absurd e (by decide), fun e => absurd e (by decide), fun e => absurd e (by decide)⟩)
theorem y_B {nm : Nat → Int32} (hn : n ≤ 160) (hN : yY b n r 4 false 3 (dN b nm n r)) : yY b n r 2 false 2 (dB b nm n r) :=
  y_bin hn hN (dN_up b nm n r) (by decide) (by decide) (fun e => by cases e) (fun e => by cases e) (fun t h => by have h : t = 2 := of_decide_eq_true h; subst h; decide) (by decide) (fun q s1 c1 h ht => ⟨fun _ => h.1 (by decide), fun _ => h.2.1 (by decide), fun _ => h.2.2.1 (by decide), fun _ => of_decide_eq_false ht, fun e => absurd e (by decide)⟩)
theorem y_E {nm : Nat → Int32} (hn : n ≤ 160) (hN : yY b n r 4 false 3 (dN b nm n r)) : yY b n r 1 false 1 (dE b nm n r) := by
  have h := y_bin (b := b) (n := n) (r := r) (L := 1) (t3' := false) (ts := t_or) hn (y_B hn hN) (dB_up b nm n r) (by decide) (by decide) (fun e => by cases e) (fun e => by cases e) (fun t h => by have h : t = 1 := of_decide_eq_true h; subst h; decide) (by decide) (fun q s1 c1 h ht => ⟨fun _ => h.1 (by decide), fun _ => h.2.1 (by decide), fun _ => h.2.2.1 (by decide), fun _ => h.2.2.2.1 (by decide), fun _ => of_decide_eq_false ht⟩)
  intro m pos s c h1 h2 hG
  rw [dE_s]
  exact h m pos s c h1 h2 hG
end YB
theorem y_all {b : Nat → Int32} {n : Nat} (nm : Nat → Int32) (hn : n ≤ 160) : ∀ r, yY b n r 8 true 7 (dA b nm n r) ∧ yY b n r 4 false 3 (dN b nm n r) ∧ yY b n r 1 false 1 (dE b nm n r)
  | 0 => by
    have hA : yY b n 0 8 true 7 (dA b nm n 0) := y_atom0
    have hN : yY b n 0 4 false 3 (dN b nm n 0) := y_not0 (y_P hn hA)
    exact ⟨hA, hN, y_E hn hN⟩
  | r + 1 => by
    obtain ⟨iA, iN, iE⟩ := y_all nm hn r
    have hA : yY b n (r + 1) 8 true 7 (dA b nm n (r + 1)) := y_atom iA iE
    have hN : yY b n (r + 1) 4 false 3 (dN b nm n (r + 1)) := y_not (y_P hn hA) iN
    exact ⟨hA, hN, y_E hn hN⟩
/-- a part, read by both -/
theorem y_p1_d {b : Nat → Int32} {n : Nat} (nm : Nat → Int32) (hn : n ≤ 160) {p pos : Nat} (hp : p < 3) (c : List Int32) (hpos : pos ≤ n) : y_p1 b n p pos c = (match d_p1 b nm n p pos with
  | .inl f => .inl f
  | .inr (_, cx, q) => .inr (cx ++ c, q)) := by
  unfold y_p1 d_p1
  by_cases ht : k_tok b n pos = 13 + p
  · rw [if_pos ht, if_pos ht]
    have hu := k_nx_up (b := b) (n := n) (i := pos) (by omega)
    have hz := (y_all (b := b) nm hn 5).2.2 161 (k_nx b n pos) [] c (by omega) hu.2 ⟨rfl, Nat.zero_le _, by decide, fun e => by cases e⟩
    unfold d_semi
    cases hs : dE b nm n 5 (k_nx b n pos) with
    | inl f => rw [hs] at hz; exact hz
    | inr x =>
      obtain ⟨v, cx, q⟩ := x
      rw [hs] at hz
      obtain ⟨m, s1, c1, a1, a2, a3, a4, a5⟩ := hz
      rw [a1]
      obtain ⟨m, rfl⟩ : ∃ m', m = m' + 1 := ⟨m - 1, by omega⟩
      have hset : y_set 1 s1 c1 = ([], cx ++ c) := a4 1 (Nat.le_refl _)
      dsimp only
      by_cases h12 : k_tok b n q = 12
      · rw [if_pos h12, y_part_s, if_neg (by simp), if_pos h12, hset, if_pos rfl]
      · rw [if_neg h12]
        dsimp only
        by_cases h11 : k_tok b n q = 11
        · rw [y_part_s, if_neg (by simp), if_neg h12, if_pos h11, hset, if_pos rfl]
        · exact y_stop a5 h12 h11
  · rw [if_neg ht, if_neg ht]
