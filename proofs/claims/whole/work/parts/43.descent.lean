abbrev dR : Type := Nat ⊕ (Int32 × List Int32 × Nat)
def d_neg (r : dR) : dR := match r with
  | .inl f => .inl f
  | .inr (v, c, q) => .inr (-v, -(nI 9) :: c, q)
def d_clo (b : Nat → Int32) (n : Nat) (r : dR) : dR := match r with
  | .inl f => .inl f
  | .inr (v, c, q) => if k_tok b n q = 11 then .inr (v, c, k_nx b n q) else .inl (k_pl b n q)
def d_nt (r : dR) : dR := match r with
  | .inl f => .inl f
  | .inr (v, c, q) => .inr (if v = 0 then 1 else 0, -(nI 3) :: c, q)
def d_jn (v : Int32) (c : List Int32) (t : Nat) (r : dR) : dR := match r with
  | .inl f => .inl f
  | .inr (v2, c2, q2) => .inr (q_joined (nI t) v v2, -(nI t) :: (c2 ++ c), q2)
def d_atom (b nm : Nat → Int32) (n : Nat) (can : Bool) (sa se : Nat → dR) (pos : Nat) : dR :=
  if k_tok b n pos = 7 then (if can = true then d_neg (sa (k_nx b n pos)) else .inl (k_pl b n pos))
  else if k_tok b n pos = 10 then (if can = true then d_clo b n (se (k_nx b n pos)) else .inl (k_pl b n pos))
  else if k_tok b n pos = 16 then .inr (k_val b n pos, [k_val b n pos], k_nx b n pos)
  else if k_tok b n pos = 17 then .inr (nm (k_val b n pos).toNatClampNeg, [-100 - k_val b n pos], k_nx b n pos)
  else .inl (k_pl b n pos)
def d_loop (b : Nat → Int32) (n : Nat) (ts : Nat → Bool) (sub : Nat → dR) : Nat → Int32 → List Int32 → Nat → dR
  | 0, v, c, q => .inr (v, c, q)
  | m + 1, v, c, q => if ts (k_tok b n q) = true then (match d_jn v c (k_tok b n q) (sub (k_nx b n q)) with
      | .inl f => .inl f
      | .inr (v2, c2, q2) => d_loop b n ts sub m v2 c2 q2) else .inr (v, c, q)
def d_bin (b : Nat → Int32) (n : Nat) (ts : Nat → Bool) (sub : Nat → dR) (pos : Nat) : dR := match sub pos with
  | .inl f => .inl f
  | .inr (v, c, q) => d_loop b n ts sub 161 v c q
def d_cmp (b : Nat → Int32) (n : Nat) (ad : Nat → dR) (r : dR) : dR := match r with
  | .inl f => .inl f
  | .inr (v, c, q) => if k_tok b n q = 4 ∨ k_tok b n q = 5 then d_jn v c (k_tok b n q) (ad (k_nx b n q)) else .inr (v, c, q)
def d_not (b : Nat → Int32) (n : Nat) (can : Bool) (ad sn : Nat → dR) (pos : Nat) : dR :=
  if k_tok b n pos = 3 then (if can = true then d_nt (sn (k_nx b n pos)) else .inl (k_pl b n pos)) else d_cmp b n ad (ad pos)
def t_mul (t : Nat) : Bool := decide (t = 8)
def t_add (t : Nat) : Bool := decide (t = 6 ∨ t = 7)
def t_and (t : Nat) : Bool := decide (t = 2)
def t_or (t : Nat) : Bool := decide (t = 1)
def d_mk (b nm : Nat → Int32) (n : Nat) (can : Bool) (s : (Nat → dR) × (Nat → dR) × (Nat → dR)) : (Nat → dR) × (Nat → dR) × (Nat → dR) :=
  (d_atom b nm n can s.1 s.2.2, d_not b n can (d_bin b n t_add (d_bin b n t_mul (d_atom b nm n can s.1 s.2.2))) s.2.1, d_bin b n t_or (d_bin b n t_and (d_not b n can (d_bin b n t_add (d_bin b n t_mul (d_atom b nm n can s.1 s.2.2))) s.2.1)))
def d_lev (b nm : Nat → Int32) (n : Nat) : Nat → (Nat → dR) × (Nat → dR) × (Nat → dR)
  | 0 => d_mk b nm n false (fun _ => .inl 0, fun _ => .inl 0, fun _ => .inl 0)
  | r + 1 => d_mk b nm n true (d_lev b nm n r)
def dA (b nm : Nat → Int32) (n r : Nat) : Nat → dR := (d_lev b nm n r).1
def dN (b nm : Nat → Int32) (n r : Nat) : Nat → dR := (d_lev b nm n r).2.1
def dE (b nm : Nat → Int32) (n r : Nat) : Nat → dR := (d_lev b nm n r).2.2
def dT (b nm : Nat → Int32) (n r : Nat) : Nat → dR := d_bin b n t_mul (dA b nm n r)
def dP (b nm : Nat → Int32) (n r : Nat) : Nat → dR := d_bin b n t_add (dT b nm n r)
def dB (b nm : Nat → Int32) (n r : Nat) : Nat → dR := d_bin b n t_and (dN b nm n r)
theorem dA_s (b nm : Nat → Int32) (n r pos : Nat) : dA b nm n (r + 1) pos = d_atom b nm n true (dA b nm n r) (dE b nm n r) pos := rfl
theorem dA_0 (b nm : Nat → Int32) (n pos : Nat) : dA b nm n 0 pos = d_atom b nm n false (fun _ => .inl 0) (fun _ => .inl 0) pos := rfl
theorem dN_s (b nm : Nat → Int32) (n r pos : Nat) : dN b nm n (r + 1) pos = d_not b n true (dP b nm n (r + 1)) (dN b nm n r) pos := rfl
theorem dN_0 (b nm : Nat → Int32) (n pos : Nat) : dN b nm n 0 pos = d_not b n false (dP b nm n 0) (fun _ => .inl 0) pos := rfl
theorem dE_s (b nm : Nat → Int32) (n r pos : Nat) : dE b nm n r pos = d_bin b n t_or (dB b nm n r) pos := by cases r <;> rfl
theorem d_loop_s (b : Nat → Int32) (n : Nat) (ts : Nat → Bool) (sub : Nat → dR) (m : Nat) (v : Int32) (c : List Int32) (q : Nat) : d_loop b n ts sub (m + 1) v c q = if ts (k_tok b n q) = true then (match d_jn v c (k_tok b n q) (sub (k_nx b n q)) with
      | .inl f => .inl f
      | .inr (v2, c2, q2) => d_loop b n ts sub m v2 c2 q2) else .inr (v, c, q) := rfl
/-! each reads on -/
def dUp (n : Nat) (f : Nat → dR) : Prop := ∀ pos v c q, pos ≤ n → f pos = .inr (v, c, q) → pos + 1 ≤ q ∧ q ≤ n
theorem d_atom_up {b nm : Nat → Int32} {n : Nat} {can : Bool} {sa se : Nat → dR} (ha : can = true → dUp n sa) (he : can = true → dUp n se) : dUp n (d_atom b nm n can sa se) := by
  intro pos v c q hp h
  unfold d_atom at h
  by_cases h7 : k_tok b n pos = 7
  · rw [if_pos h7] at h
    have hu := k_nx_up (b := b) (n := n) (i := pos) (by omega)
    by_cases hc : can = true
    · rw [if_pos hc] at h
      cases hs : sa (k_nx b n pos) with
      | inl f => rw [hs] at h; cases h
      | inr r =>
        obtain ⟨v1, c1, q1⟩ := r
        rw [hs] at h
        cases h
        have := ha hc _ _ _ _ hu.2 hs
        omega
    · rw [if_neg hc] at h; cases h
  · rw [if_neg h7] at h
    by_cases h10 : k_tok b n pos = 10
    · rw [if_pos h10] at h
      have hu := k_nx_up (b := b) (n := n) (i := pos) (by omega)
      by_cases hc : can = true
      · rw [if_pos hc] at h
        cases hs : se (k_nx b n pos) with
        | inl f => rw [hs] at h; cases h
        | inr r =>
          obtain ⟨v1, c1, q1⟩ := r
          rw [hs] at h
          unfold d_clo at h
          dsimp only at h
          have h1 := he hc _ _ _ _ hu.2 hs
          by_cases h11 : k_tok b n q1 = 11
          · rw [if_pos h11] at h
            cases h
            have h2 := k_nx_up (b := b) (n := n) (i := q1) (by omega)
            omega
          · rw [if_neg h11] at h; cases h
      · rw [if_neg hc] at h; cases h
    · rw [if_neg h10] at h
      by_cases h16 : k_tok b n pos = 16
      · rw [if_pos h16] at h
        cases h
        exact k_nx_up (by omega)
      · rw [if_neg h16] at h
        by_cases h17 : k_tok b n pos = 17
        · rw [if_pos h17] at h
          cases h
          exact k_nx_up (by omega)
        · rw [if_neg h17] at h; cases h
theorem d_jn_up {n pos : Nat} {f : Nat → dR} {v v2 : Int32} {c c2 : List Int32} {t q : Nat} (hf : dUp n f) (hp : pos ≤ n) (h : d_jn v c t (f pos) = .inr (v2, c2, q)) : pos + 1 ≤ q ∧ q ≤ n := by
  cases hs : f pos with
  | inl g => rw [hs] at h; cases h
  | inr r =>
    obtain ⟨v1, c1, q1⟩ := r
    rw [hs] at h
    cases h
    exact hf _ _ _ _ hp hs
theorem d_loop_up {b : Nat → Int32} {n : Nat} {ts : Nat → Bool} {sub : Nat → dR} (hs : dUp n sub) (ht : ts 18 = false) : ∀ m v c q v2 c2 q2, q ≤ n → d_loop b n ts sub m v c q = .inr (v2, c2, q2) → q ≤ q2 ∧ q2 ≤ n
  | 0, v, c, q, v2, c2, q2, hq, h => by cases h; exact ⟨Nat.le_refl _, hq⟩
  | m + 1, v, c, q, v2, c2, q2, hq, h => by
    rw [d_loop_s] at h
    by_cases h1 : ts (k_tok b n q) = true
    · rw [if_pos h1] at h
      have hu := k_nx_up (b := b) (n := n) (i := q) (fun e => by rw [e, ht] at h1; cases h1)
      cases hj : d_jn v c (k_tok b n q) (sub (k_nx b n q)) with
      | inl f => rw [hj] at h; cases h
      | inr r =>
        obtain ⟨v1, c1, q1⟩ := r
        rw [hj] at h
        have h2 := d_jn_up hs hu.2 hj
        have h3 := d_loop_up hs ht m _ _ _ _ _ _ h2.2 h
        omega
    · rw [if_neg h1] at h; cases h; exact ⟨Nat.le_refl _, hq⟩
theorem d_bin_up {b : Nat → Int32} {n : Nat} {ts : Nat → Bool} {sub : Nat → dR} (hs : dUp n sub) (ht : ts 18 = false) : dUp n (d_bin b n ts sub) := by
  intro pos v c q hp h
  unfold d_bin at h
  cases hj : sub pos with
  | inl f => rw [hj] at h; cases h
  | inr r =>
    obtain ⟨v1, c1, q1⟩ := r
    rw [hj] at h
    have h1 := hs _ _ _ _ hp hj
    have h2 := d_loop_up hs ht _ _ _ _ _ _ _ h1.2 h
    omega
theorem d_not_up {b : Nat → Int32} {n : Nat} {can : Bool} {ad sn : Nat → dR} (ha : dUp n ad) (hn : can = true → dUp n sn) : dUp n (d_not b n can ad sn) := by
  intro pos v c q hp h
  unfold d_not at h
  by_cases h3 : k_tok b n pos = 3
  · rw [if_pos h3] at h
    have hu := k_nx_up (b := b) (n := n) (i := pos) (by omega)
    by_cases hc : can = true
    · rw [if_pos hc] at h
      cases hs : sn (k_nx b n pos) with
      | inl f => rw [hs] at h; cases h
      | inr r =>
        obtain ⟨v1, c1, q1⟩ := r
        rw [hs] at h
        cases h
        have := hn hc _ _ _ _ hu.2 hs
        omega
    · rw [if_neg hc] at h; cases h
  · rw [if_neg h3] at h
    cases hs : ad pos with
    | inl f => rw [hs] at h; cases h
    | inr r =>
      obtain ⟨v1, c1, q1⟩ := r
      rw [hs] at h
      have h1 := ha _ _ _ _ hp hs
      unfold d_cmp at h
      dsimp only at h
      by_cases h4 : k_tok b n q1 = 4 ∨ k_tok b n q1 = 5
      · rw [if_pos h4] at h
        have hu := k_nx_up (b := b) (n := n) (i := q1) (by omega)
        have := d_jn_up ha hu.2 h
        omega
      · rw [if_neg h4] at h; cases h; exact h1
theorem d_lev_up (b nm : Nat → Int32) (n : Nat) : ∀ r, dUp n (d_lev b nm n r).1 ∧ dUp n (d_lev b nm n r).2.1 ∧ dUp n (d_lev b nm n r).2.2
  | 0 => by
    have h1 : dUp n (d_atom b nm n false (fun _ => .inl 0) (fun _ => .inl 0)) := d_atom_up (fun e => by cases e) (fun e => by cases e)
    have h2 := d_bin_up (b := b) (ts := t_add) (d_bin_up (b := b) (ts := t_mul) h1 rfl) rfl
    have h3 : dUp n (d_not b n false (d_bin b n t_add (d_bin b n t_mul (d_atom b nm n false (fun _ => .inl 0) (fun _ => .inl 0)))) (fun _ => .inl 0)) := d_not_up h2 (fun e => by cases e)
    exact ⟨h1, h3, d_bin_up (b := b) (ts := t_or) (d_bin_up (b := b) (ts := t_and) h3 rfl) rfl⟩
  | r + 1 => by
    obtain ⟨a1, a2, a3⟩ := d_lev_up b nm n r
    have h1 : dUp n (d_atom b nm n true (d_lev b nm n r).1 (d_lev b nm n r).2.2) := d_atom_up (fun _ => a1) (fun _ => a3)
    have h2 := d_bin_up (b := b) (ts := t_add) (d_bin_up (b := b) (ts := t_mul) h1 rfl) rfl
    have h3 := d_not_up (b := b) (can := true) h2 (fun _ => a2)
    exact ⟨h1, h3, d_bin_up (b := b) (ts := t_or) (d_bin_up (b := b) (ts := t_and) h3 rfl) rfl⟩
theorem dA_up (b nm : Nat → Int32) (n r : Nat) : dUp n (dA b nm n r) := (d_lev_up b nm n r).1
theorem dN_up (b nm : Nat → Int32) (n r : Nat) : dUp n (dN b nm n r) := (d_lev_up b nm n r).2.1
theorem dE_up (b nm : Nat → Int32) (n r : Nat) : dUp n (dE b nm n r) := (d_lev_up b nm n r).2.2
theorem dT_up (b nm : Nat → Int32) (n r : Nat) : dUp n (dT b nm n r) := d_bin_up (dA_up b nm n r) rfl
theorem dP_up (b nm : Nat → Int32) (n r : Nat) : dUp n (dP b nm n r) := d_bin_up (dT_up b nm n r) rfl
theorem dB_up (b nm : Nat → Int32) (n r : Nat) : dUp n (dB b nm n r) := d_bin_up (dN_up b nm n r) rfl
theorem qj1 (a b : Int32) : q_joined (nI 1) a b = if a ≠ 0 ∨ b ≠ 0 then 1 else 0 := by rw [q_joined, if_pos (by decide)]
theorem qj2 (a b : Int32) : q_joined (nI 2) a b = if a ≠ 0 ∧ b ≠ 0 then 1 else 0 := by rw [q_joined, if_neg (by decide), if_pos (by decide)]
theorem qj4 (a b : Int32) : q_joined (nI 4) a b = if a < b then 1 else 0 := by rw [q_joined, if_neg (by decide), if_neg (by decide), if_pos (by decide)]
theorem qj5 (a b : Int32) : q_joined (nI 5) a b = if a = b then 1 else 0 := by rw [q_joined, if_neg (by decide), if_neg (by decide), if_neg (by decide), if_pos (by decide)]
theorem qj6 (a b : Int32) : q_joined (nI 6) a b = a + b := by rw [q_joined, if_neg (by decide), if_neg (by decide), if_neg (by decide), if_neg (by decide), if_pos (by decide)]
theorem qj7 (a b : Int32) : q_joined (nI 7) a b = a - b := by rw [q_joined, if_neg (by decide), if_neg (by decide), if_neg (by decide), if_neg (by decide), if_neg (by decide), if_pos (by decide)]
theorem qj8 (a b : Int32) : q_joined (nI 8) a b = a * b := by rw [q_joined, if_neg (by decide), if_neg (by decide), if_neg (by decide), if_neg (by decide), if_neg (by decide), if_neg (by decide)]
