/-! the search as the class does it, by lanes ln -/
def x_spf (sy : zSy) (ln : Nat → Int32) (ps : Int32) (w : Nat) : Nat → Nat := fun S => (q_spread (fun p => q_next sy ln ps (nI w) p) (nI S)).toNatClampNeg
def x_eye (sy : zSy) (ln : Nat → Int32) (ps : Int32) (w kd nu : Nat) : Nat := (q_eyes sy ln ps w kd nu).toNatClampNeg
def x_hr (sy : zSy) (ln : Nat → Int32) (ps : Int32) (w kd nu a n T : Nat) : Int32 × h_S := h_run (x_wy ln) (x_nx (x_spf sy ln ps w) (x_eye sy ln ps w kd nu)) n 1 0 (upd (fun _ => -1) (a * 256 + T) (nI (a * 256 + T)), [a * 256 + T], -1)
def x_few (sy : zSy) (ln : Nat → Int32) (ps : Int32) (w kd nu a n T : Nat) : Int32 := if T = 0 then 0 else (x_hr sy ln ps w kd nu a n T).1
theorem x_sp_of {μ : zMu} {sy : zSy} {ln : Nat → Int32} {ps : Int32} {w : Nat} (h : ∀ S, S < 256 → μ 45 S = q_spread (fun p => q_next sy ln ps (nI w) p) (nI S)) : x_sp μ (x_spf sy ln ps w) := fun S hS => by
  have h8 := r8_cl (r8_spread (mv := fun p => q_next sy ln ps (nI w) p) (fun p hp => r8_next sy ln ps (nI w) hp) (nI S))
  exact ⟨by rw [h S hS]; exact h8.1, h8.2⟩
theorem x_eye_of (sy : zSy) (ln : Nat → Int32) (ps : Int32) (w kd nu : Nat) : q_eyes sy ln ps w kd nu = nI (x_eye sy ln ps w kd nu) ∧ x_eye sy ln ps w kd nu < 256 := r8_cl (r8_eyes sy ln ps w kd nu)
/-- the numbers on the queue and in ahead are states -/
theorem h_enq_rng {s : h_S} {x bh : Nat} (hb : bh < 2048) (h : ∀ y, y < 2048 → h_rng (s.1 y)) : ∀ y, y < 2048 → h_rng ((h_enq s x bh).1 y) := by
  intro y hy
  unfold h_enq
  split
  · simp only [upd]
    split
    · exact Or.inr ⟨bh, hb, rfl⟩
    · exact h y hy
  · exact h y hy
theorem h_one_rng {wy : Nat → Nat → Bool} {nx : Nat → Nat → Nat} {x p : Nat} {s : h_S} (hx : x < 2048) (hp : p < 8) (h : ∀ y, y < 2048 → h_rng (s.1 y)) (hg : h_rng s.2.2) : (∀ y, y < 2048 → h_rng ((h_one wy nx x p s).1 y)) ∧ h_rng (h_one wy nx x p s).2.2 := by
  unfold h_one
  split
  · split
    · exact ⟨h_enq_rng hx h, Or.inr ⟨p * 256, by omega, rfl⟩⟩
    · refine ⟨h_enq_rng hx h, ?_⟩
      unfold h_enq
      split
      · exact hg
      · exact hg
  · exact ⟨h, hg⟩
theorem h_exp_rng {wy : Nat → Nat → Bool} {nx : Nat → Nat → Nat} {x : Nat} (hx : x < 2048) : ∀ m p (s : h_S), m + p ≤ 8 → (∀ y, y < 2048 → h_rng (s.1 y)) → h_rng s.2.2 → (∀ y, y < 2048 → h_rng ((h_exp wy nx x m p s).1 y)) ∧ h_rng (h_exp wy nx x m p s).2.2
  | 0, _, _, _, h, hg => ⟨h, hg⟩
  | m + 1, p, s, hm, h, hg => by
    rw [h_exp_s]
    split
    · have h2 := h_one_rng (wy := wy) (nx := nx) (p := p) hx (by omega) h hg
      exact h_exp_rng hx m (p + 1) _ (by omega) h2.1 h2.2
    · exact ⟨h, hg⟩
