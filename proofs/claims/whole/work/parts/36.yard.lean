def y_b (x : Nat) : Nat := [0, 1, 2, 3, 4, 4, 5, 5, 6, 7, 0].getD x 0
theorem y_b_t : ∀ x, x < 11 → (zTab 2).getD x 0 = nI (y_b x) ∧ y_b x < 8 := by decide +kernel
def y_c (x : Nat) : Bool := decide (x = 10 ∨ x = 3 ∨ x = 9)
theorem y_c_t : ∀ x, x < 11 → ((nI x = 10 ∨ nI x = 3 ∨ nI x = 9) ↔ y_c x = true) := by decide +kernel
def y_open : List Nat → Nat
  | [] => 0
  | x :: s => if y_c x = true then y_open s + 1 else y_open s
theorem y_open_le : ∀ s : List Nat, y_open s ≤ s.length
  | [] => Nat.le_refl 0
  | x :: s => by
    have := y_open_le s
    unfold y_open
    split <;> simp <;> omega
def y_set (bd : Nat) : List Nat → List Int32 → List Nat × List Int32
  | [], c => ([], c)
  | x :: s, c => if bd ≤ y_b x then y_set bd s (-(nI x) :: c) else (x :: s, c)
def k_st (f : Nat → Int32) : List Nat → Prop
  | [] => True
  | x :: s => f s.length = nI x ∧ k_st f s
def k_co (f : Nat → Int32) : List Int32 → Prop
  | [] => True
  | x :: c => f c.length = x ∧ k_co f c
def y_wk (c : List Int32) : Int32 := if -102 ∈ c then 1 else 0
theorem y_wk_s (x : Int32) (c : List Int32) : y_wk (x :: c) = if y_wk c ≠ 0 ∨ x = -102 then 1 else 0 := by
  unfold y_wk
  by_cases h : (-102 : Int32) ∈ c
  · rw [if_pos h, if_pos (List.mem_cons_of_mem _ h), if_pos (Or.inl (by decide))]
  · rw [if_neg h]
    by_cases e : x = -102
    · rw [if_pos (by rw [e]; exact List.mem_cons_self ..), if_pos (Or.inr e)]
    · rw [if_neg (by simp [h, Ne.symm e]), if_neg (by simp [e])]
theorem k_st_up {f : Nat → Int32} {j : Nat} {x : Int32} : ∀ {s : List Nat}, s.length ≤ j → k_st f s → k_st (upd f j x) s
  | [], _, _ => trivial
  | y :: s, h, hk => by
    have h' : s.length < j := by have h2 := h; rw [List.length_cons] at h2; omega
    refine ⟨?_, k_st_up (by omega) hk.2⟩
    have e : upd f j x s.length = f s.length := if_neg (by omega)
    rw [e]; exact hk.1
theorem k_co_up {f : Nat → Int32} {j : Nat} {x : Int32} : ∀ {s : List Int32}, s.length ≤ j → k_co f s → k_co (upd f j x) s
  | [], _, _ => trivial
  | y :: s, h, hk => by
    have h' : s.length < j := by have h2 := h; rw [List.length_cons] at h2; omega
    refine ⟨?_, k_co_up (by omega) hk.2⟩
    have e : upd f j x s.length = f s.length := if_neg (by omega)
    rw [e]; exact hk.1
def yS (n k cp : Nat) (μ0 μ : zMu) (s : List Nat) (c : List Int32) (pos tk pl : Nat) : Prop :=
  zOff [39, 41, k, cp] μ0 μ ∧ (μ 39 1 = nI n ∧ μ 39 5 = nI pos ∧ μ 39 2 = nI tk ∧ μ 39 4 = nI pl) ∧ (μ 39 7 = nI s.length ∧ μ 39 8 = nI (y_open s) ∧ k_st (μ 41) s ∧ (∀ x ∈ s, x < 11 ∧ x ≠ 0)) ∧ (μ k 2 = nI c.length ∧ μ k 3 = y_wk c ∧ k_co (μ cp) c) ∧ s.length ≤ 64 ∧ s.length + c.length ≤ 160
def yA (k cp bp : Nat) : Prop := zTextA k cp bp ∧ 20 < k ∧ k < 39 ∧ 20 < cp ∧ cp < 39 ∧ 20 < bp ∧ bp < 39
/-- one number or name written -/
theorem yS.add {n k cp bp : Nat} {μ0 μ : zMu} {s : List Nat} {c : List Int32} {pos tk pl : Nat} {x : Int32} (hA : yA k cp bp) (h : yS n k cp μ0 μ s c pos tk pl) (hl : s.length + c.length < 160) : yS n k cp μ0 (zup (zup (zup μ cp c.length x) k 2 (nI (c.length + 1))) k 3 (if μ k 3 ≠ 0 ∨ x = -102 then 1 else 0)) s (x :: c) pos tk pl := by
  obtain ⟨⟨a1, a2, a3, a4, a5, a6, n1, n2, n3⟩, b1, b2, b3, b4, b5, b6⟩ := hA
  obtain ⟨h0, ⟨t1, t2, t3, t4⟩, ⟨s1, s2, s3, s4⟩, ⟨c1, c2, c3⟩, l1, l2⟩ := h
  have e39 : (zup (zup (zup μ cp c.length x) k 2 (nI (c.length + 1))) k 3 (if μ k 3 ≠ 0 ∨ x = -102 then 1 else 0)) 39 = μ 39 := by rw [zup_ne (by omega), zup_ne (by omega), zup_ne (by omega)]
  have e41 : (zup (zup (zup μ cp c.length x) k 2 (nI (c.length + 1))) k 3 (if μ k 3 ≠ 0 ∨ x = -102 then 1 else 0)) 41 = μ 41 := by rw [zup_ne (by omega), zup_ne (by omega), zup_ne (by omega)]
  have ecp : (zup (zup (zup μ cp c.length x) k 2 (nI (c.length + 1))) k 3 (if μ k 3 ≠ 0 ∨ x = -102 then 1 else 0)) cp = upd (μ cp) c.length x := by rw [zup_ne n1, zup_ne n1, zup_eq]
  have ek : (zup (zup (zup μ cp c.length x) k 2 (nI (c.length + 1))) k 3 (if μ k 3 ≠ 0 ∨ x = -102 then 1 else 0)) k = upd (upd (μ k) 2 (nI (c.length + 1))) 3 (if μ k 3 ≠ 0 ∨ x = -102 then 1 else 0) := by rw [zup_eq, zup_eq, zup_ne (Ne.symm n1)]
  refine ⟨fun q hq => ?_, by rw [e39]; exact ⟨t1, t2, t3, t4⟩, by rw [e39, e41]; exact ⟨s1, s2, s3, s4⟩, ⟨?_, ?_, ?_, ?_⟩, l1, ?_⟩
  · have hq' : q ≠ k ∧ q ≠ cp := by simp at hq; omega
    rw [zup_ne hq'.1, zup_ne hq'.1, zup_ne hq'.2]
    exact h0 q hq
  · rw [ek]; rfl
  · rw [ek, y_wk_s, ← c2]; rfl
  · rw [ecp]; exact if_pos rfl
  · rw [ecp]; exact k_co_up (Nat.le_refl _) c3
  · simp; omega
theorem y_set_s (bd x : Nat) (s : List Nat) (c : List Int32) : y_set bd (x :: s) c = if bd ≤ y_b x then y_set bd s (-(nI x) :: c) else (x :: s, c) := rfl
/-- the top operator taken off -/
theorem yS.pop {n k cp bp : Nat} {μ0 μ μ' : zMu} {x : Nat} {s : List Nat} {c : List Int32} {pos tk pl : Nat} (hA : yA k cp bp) (h : yS n k cp μ0 μ (x :: s) c pos tk pl) (h1 : ∀ q, q ≠ 39 → μ' q = μ q) (h2 : ∀ q, q ≠ 7 → q ≠ 8 → μ' 39 q = μ 39 q) (h3 : μ' 39 7 = nI s.length) (h4 : μ' 39 8 = nI (y_open s)) : yS n k cp μ0 μ' s c pos tk pl := by
  obtain ⟨⟨a1, a2, a3, a4, a5, a6, n1, n2, n3⟩, b1, b2, b3, b4, b5, b6⟩ := hA
  obtain ⟨h0, ⟨t1, t2, t3, t4⟩, ⟨s1, s2, s3, s4⟩, ⟨c1, c2, c3⟩, l1, l2⟩ := h
  rw [List.length_cons] at l1 l2
  refine ⟨fun q hq => ?_, ⟨?_, ?_, ?_, ?_⟩, ⟨h3, h4, ?_, fun y hy => s4 y (List.mem_cons_of_mem _ hy)⟩, ?_, by omega, by omega⟩
  · rw [h1 q (by simp at hq; omega)]; exact h0 q hq
  · rw [h2 1 (by decide) (by decide)]; exact t1
  · rw [h2 5 (by decide) (by decide)]; exact t2
  · rw [h2 2 (by decide) (by decide)]; exact t3
  · rw [h2 4 (by decide) (by decide)]; exact t4
  · rw [h1 41 (by decide)]; exact s3.2
  · rw [h1 k (by omega), h1 cp (by omega)]; exact ⟨c1, c2, c3⟩
theorem zup_row {μ ν : zMu} {a j q : Nat} {x : Int32} (h : μ q = ν q) : (zup μ a j x) q = (zup ν a j x) q := by
  by_cases e : q = a
  · subst e; rw [zup_eq, zup_eq, h]
  · rw [zup_ne e, zup_ne e, h]
theorem zup39 {μ : zMu} {k cp bp m : Nat} {x y z : Int32} (hA : yA k cp bp) : (zup (zup (zup μ cp m x) k 2 y) k 3 z) 39 = μ 39 := by
  obtain ⟨-, b1, b2, b3, b4, b5, b6⟩ := hA
  rw [zup_ne (by omega), zup_ne (by omega), zup_ne (by omega)]
theorem zup41 {μ : zMu} {k cp bp m : Nat} {x y z : Int32} (hA : yA k cp bp) : (zup (zup (zup μ cp m x) k 2 y) k 3 z) 41 = μ 41 := by
  obtain ⟨-, b1, b2, b3, b4, b5, b6⟩ := hA
  rw [zup_ne (by omega), zup_ne (by omega), zup_ne (by omega)]
theorem yS.pa {n k cp bp : Nat} {μ0 μ μ' : zMu} {x : Nat} {v : Int32} {s : List Nat} {c : List Int32} {pos tk pl : Nat} (hA : yA k cp bp) (h : yS n k cp μ0 μ (x :: s) c pos tk pl) (h1 : ∀ q, q ≠ 39 → μ' q = (zup (zup (zup μ cp c.length v) k 2 (nI (c.length + 1))) k 3 (if μ k 3 ≠ 0 ∨ v = -102 then 1 else 0)) q) (h2 : ∀ q, q ≠ 7 → q ≠ 8 → μ' 39 q = μ 39 q) (h3 : μ' 39 7 = nI s.length) (h4 : μ' 39 8 = nI (y_open s)) : yS n k cp μ0 μ' s (v :: c) pos tk pl := by
  have hl : s.length + c.length < 160 := by have := h.2.2.2.2.2; rw [List.length_cons] at this; omega
  have hp : yS n k cp μ0 (zar μ 39 (μ' 39)) s c pos tk pl := yS.pop hA h (fun q hq => zar_ne hq) (fun q h7 h8 => by rw [zar_eq]; exact h2 q h7 h8) (by rw [zar_eq]; exact h3) (by rw [zar_eq]; exact h4)
  have ha := yS.add (x := v) hA hp hl
  obtain ⟨⟨-, -, -, -, -, -, n1, -, -⟩, b1, b2, b3, b4, b5, b6⟩ := hA
  rw [show (zar μ 39 (μ' 39)) k = μ k from zar_ne (by omega)] at ha
  have e : zup (zup (zup (zar μ 39 (μ' 39)) cp c.length v) k 2 (nI (c.length + 1))) k 3 (if μ k 3 ≠ 0 ∨ v = -102 then 1 else 0) = μ' := by
    funext q
    by_cases e : q = 39
    · subst e
      rw [zup_ne (by omega), zup_ne (by omega), zup_ne (by omega), zar_eq]
    · rw [h1 q e]
      by_cases e1 : q = k
      · subst e1
        rw [zup_eq, zup_eq, zup_ne (Ne.symm n1), zup_eq, zup_eq, zup_ne (Ne.symm n1), zar_ne e]
      · by_cases e2 : q = cp
        · subst e2
          rw [zup_ne e1, zup_ne e1, zup_eq, zup_ne e1, zup_ne e1, zup_eq, zar_ne e]
        · rw [zup_ne e1, zup_ne e1, zup_ne e2, zup_ne e1, zup_ne e1, zup_ne e2, zar_ne e]
  rw [e] at ha
  exact ha
theorem y_dec {a : Nat} {v : Int32} {o : Nat} (e : v = nI o) (ho : o = a + 1) : v - 1 = nI a := by rw [e, ho]; exact nI_pred a
theorem y_op1 {x : Nat} {s : List Nat} (h : y_c x = true) : y_open (x :: s) = y_open s + 1 := if_pos h
theorem y_op0 {x : Nat} {s : List Nat} (h : ¬ y_c x = true) : y_open (x :: s) = y_open s := if_neg h
set_option maxRecDepth 20000 in
theorem l_settle {Q : zQ} {τ : Int64} {bd n k cp bp : Nat} {μ0 : zMu} {pos tk pl : Nat} {R : List Nat × List Int32} (hA : yA k cp bp) (hbd : bd < 100) (h : ∀ μ2, yS n k cp μ0 μ2 R.1 R.2 pos tk pl → Q none μ2 τ) : ∀ (s : List Nat) (c : List Int32) (μ : zMu), yS n k cp μ0 μ s c pos tk pl → y_set bd s c = R → Zw 1 RX6 cX6_settle 4 none Q 5 [.ref 39, .ref k, .int (nI bd), .int (nI s.length)] [] μ τ
  | [], c, μ, hS, hR => by
    subst hR
    refine Zw_iload_3 dX6_settle_5 ?_
    refine Zw_if_le 77 dX6_settle_6 (by decide) (fun _ => ?_) (fun c => absurd c (by decide))
    refine Zw_return dX6_settle_77 ?_
    exact h μ hS
  | x :: s, c, μ, hS, hR => by
    obtain ⟨⟨a1, a2, a3, a4, a5, a6, n1, n2, n3⟩, b1, b2, b3, b4, b5, b6⟩ := id hA
    obtain ⟨h0, ⟨t1, t2, t3, t4⟩, ⟨s1, s2, ⟨s3, s5⟩, s4⟩, ⟨c1, c2, c3⟩, l1, l2⟩ := id hS
    rw [List.length_cons] at l1 l2 s1
    have hx11 := (s4 x (List.mem_cons_self ..)).1
    have hbx := y_b_t x hx11
    rw [y_set_s] at hR
    show Zw _ _ _ _ _ _ _ [.ref 39, .ref k, .int (nI bd), .int (nI (s.length + 1))] [] μ τ
    refine Zw_iload_3 dX6_settle_5 ?_
    refine Zw_if_le 77 dX6_settle_6 (by decide) (fun c6 => absurd c6 (nI_nle (by omega) (by omega))) (fun c6 => ?_)
    refine Zw_getsN (t := 2) (by decide) (by decide +kernel) dX6_settle_9 ?_
    refine Zw_aload_0 dX6_settle_12 ?_
    refine Zw_getr 41 lf_X6_15 dX6_settle_13 (by first | decide | assumption | omega) (by first | rfl | assumption) (by rfl) ?_
    refine Zw_iload_3 dX6_settle_16 ?_
    refine Zw_iconst (v := 1) dX6_settle_17 (by decide) ?_
    refine Zw_nsub ((s.length + 1)) (1) dX6_settle_18 rfl rfl (by omega) ?_
    refine Zw_ialdnv (((s.length + 1) - 1)) (nI x) dX6_settle_19 (by first | decide | assumption | omega) (by first | rfl | assumption) rfl (by omega) (by decide) s3 ?_
    have hin : vp_in (nI x) (zTab 2).length := vp_in_nI (N := 11) hx11 (by decide)
    have hbx1 : (zTab 2).getD (nI x).toNatClampNeg 0 = nI (y_b x) := by rw [nI_clamp (by omega)]; exact hbx.1
    refine Zw_tald (t := 2) dX6_settle_20 (by decide) (by first | assumption | exact vp_in_nI (by omega) (by omega) | exact vp_in_nI (by simp; omega) (by decide) | (unfold vp_in; decide)) (by first | rfl | assumption) ?_
    rw [hbx1]
    refine Zw_iload_2 dX6_settle_21 ?_
    refine Zw_nicmp_lt ((y_b x)) (bd) 77 dX6_settle_22 (by decide) rfl rfl (by omega) (by omega) (fun c22 => ?_) (fun c22 => ?_)
    · refine Zw_return dX6_settle_77 ?_
      rw [if_neg (by omega)] at hR
      subst hR
      exact h μ hS
    · refine Zw_aload_0 dX6_settle_25 ?_
      refine Zw_iload_3 dX6_settle_26 ?_
      refine Zw_iconst (v := 1) dX6_settle_27 (by decide) ?_
      refine Zw_nsub ((s.length + 1)) (1) dX6_settle_28 rfl rfl (by omega) ?_
      rw [Nat.add_sub_cancel]
      refine Zw_put lp_X6_47 dX6_settle_29 (by first | decide | assumption | omega) (by first | rfl | assumption) (by rfl) (by first | rfl | assumption) (by first | rfl | assumption) ?_
      refine Zw_aload_1 dX6_settle_32 ?_
      refine Zw_aload_0 dX6_settle_33 ?_
      refine Zw_getr 41 lf_X6_15 dX6_settle_34 (by first | decide | assumption | omega) (by first | rfl | assumption) (by rfl) ?_
      refine Zw_aload_0 dX6_settle_37 ?_
      refine Zw_getv (nI s.length) lf_X6_47 dX6_settle_38 (by first | decide | assumption | omega) (by first | rfl | assumption) (by rfl) rfl ?_
      refine Zw_ialdnv (s.length) (nI x) dX6_settle_41 (by first | decide | assumption | omega) (by first | rfl | assumption) rfl (by omega) (by decide) (by rw [zup_ne (by decide)]; exact s3) ?_
      refine Zw_ineg dX6_settle_42 ?_
      refine Zw_V1 (k := 0) lm_X6_56 dX6_settle_43 (by decide) (by first | decide | assumption | omega) (by first | rfl | assumption) (by rfl) (Nat.le_of_ble_eq_true rfl) ?_
      refine s_txAdd (n := c.length) hA.1 (by omega) (by rw [zup_ne (by omega)]; exact c1) (fun q => absurd q (by omega)) (fun _ => ?_)
      rw [show (zup μ 39 7 (nI s.length)) k 3 = μ k 3 by rw [zup_ne (by omega)]]
      refine Zw_aload_0 dX6_settle_46 ?_
      refine Zw_getr 41 lf_X6_15 dX6_settle_47 (by first | decide | assumption | omega) (by first | rfl | assumption) (by rfl) ?_
      refine Zw_aload_0 dX6_settle_50 ?_
      refine Zw_getv (nI s.length) lf_X6_47 dX6_settle_51 (by first | decide | assumption | omega) (by first | rfl | assumption) (by rfl) (by rw [zup39 hA]; rfl) ?_
      refine Zw_ialdnv (s.length) (nI x) dX6_settle_54 (by first | decide | assumption | omega) (by first | rfl | assumption) rfl (by omega) (by decide) (by rw [zup41 hA, zup_ne (by decide)]; exact s3) ?_
      refine Zw_S1 (k := 0) lm_X6_83 dX6_settle_55 (by decide) (Nat.le_of_ble_eq_true rfl) ?_
      refine s_x_counts (fun k1 => ?_) (fun k1 => ?_)
      · refine Zw_if_eq 71 dX6_settle_58 (by decide) (fun c => absurd c (by decide)) (fun _ => ?_)
        refine Zw_aload_0 dX6_settle_61 ?_
        refine Zw_dup dX6_settle_62 rfl ?_
        refine Zw_geti lf_X6_50 dX6_settle_63 (by first | decide | assumption | omega) (by first | rfl | assumption) (by rfl) ?_
        refine Zw_iconst (v := 1) dX6_settle_66 (by decide) ?_
        refine Zw_isub dX6_settle_67 ?_
        refine Zw_put lp_X6_50 dX6_settle_68 (by first | decide | assumption | omega) (by first | rfl | assumption) (by rfl) (by first | rfl | assumption) (by first | rfl | assumption) ?_
        refine Zw_iinc_3 dX6_settle_71 rfl (zdecn (by omega)) ?_
        refine Zw_goto 5 dX6_settle_74 (by decide) ?_
        refine Zw_drop (L' := [.ref 39, .ref k, .int (nI bd), .int (nI s.length)]) ⟨Or.inr rfl, Or.inr rfl, Or.inr rfl, Or.inr rfl, trivial⟩ (Nat.le_of_ble_eq_true rfl) ?_
        rw [if_pos (by omega)] at hR
        rw [show ((zup (zup (zup (zup μ 39 7 (nI s.length)) cp c.length (-(nI x))) k 2 (nI (c.length + 1))) k 3 (if μ k 3 ≠ 0 ∨ -(nI x) = -102 then 1 else 0)) 39 8) - 1 = nI (y_open s) from by rw [zup39 hA]; exact y_dec s2 (y_op1 ((y_c_t x hx11).mp k1))]
        have e39 : (zup (zup (zup (zup μ 39 7 (nI s.length)) cp c.length (-(nI x))) k 2 (nI (c.length + 1))) k 3 (if μ k 3 ≠ 0 ∨ -(nI x) = -102 then 1 else 0)) 39 = upd (μ 39) 7 (nI s.length) := by rw [zup39 hA, zup_eq]
        refine l_settle hA hbd h s (-(nI x) :: c) (zup (zup (zup (zup (zup μ 39 7 (nI s.length)) cp c.length (-(nI x))) k 2 (nI (c.length + 1))) k 3 (if μ k 3 ≠ 0 ∨ -(nI x) = -102 then 1 else 0)) 39 8 (nI (y_open s))) (yS.pa (x := x) hA hS (fun q hq => ?_) (fun q h7 h8 => ?_) ?_ ?_) hR
        · rw [zup_ne hq]
          exact zup_row (zup_row (zup_row (zup_ne hq)))
        · rw [zup_eq, e39]
          simp only [upd, if_neg h7, if_neg h8]
        · rw [zup_eq, e39]; rfl
        · rw [zup_eq]; rfl
      · refine Zw_if_eq 71 dX6_settle_58 (by decide) (fun _ => ?_) (fun c => absurd c (by decide))
        refine Zw_iinc_3 dX6_settle_71 rfl (zdecn (by omega)) ?_
        refine Zw_goto 5 dX6_settle_74 (by decide) ?_
        refine Zw_drop (L' := [.ref 39, .ref k, .int (nI bd), .int (nI s.length)]) ⟨Or.inr rfl, Or.inr rfl, Or.inr rfl, Or.inr rfl, trivial⟩ (Nat.le_of_ble_eq_true rfl) ?_
        rw [if_pos (by omega)] at hR
        have e39 : (zup (zup (zup (zup μ 39 7 (nI s.length)) cp c.length (-(nI x))) k 2 (nI (c.length + 1))) k 3 (if μ k 3 ≠ 0 ∨ -(nI x) = -102 then 1 else 0)) 39 = upd (μ 39) 7 (nI s.length) := by rw [zup39 hA, zup_eq]
        refine l_settle hA hbd h s (-(nI x) :: c) (zup (zup (zup (zup μ 39 7 (nI s.length)) cp c.length (-(nI x))) k 2 (nI (c.length + 1))) k 3 (if μ k 3 ≠ 0 ∨ -(nI x) = -102 then 1 else 0)) (yS.pa (x := x) hA hS (fun q hq => ?_) (fun q h7 h8 => ?_) ?_ ?_) hR
        · exact zup_row (zup_row (zup_row (zup_ne hq)))
        · rw [e39]
          exact if_neg h7
        · rw [e39]; rfl
        · rw [e39]
          exact s2.trans (by rw [y_op0 (fun q => k1 ((y_c_t x hx11).mpr q))])
set_option maxRecDepth 20000 in
theorem s_settle {bd : Nat} {n k cp bp : Nat} {μ0 : zMu} {s : List Nat} {c : List Int32} {pos tk pl : Nat} {Q : zQ} {μ : zMu} {τ : Int64} (hA : yA k cp bp) (hbd : bd < 100) (hS : yS n k cp μ0 μ s c pos tk pl) (h : ∀ μ2, yS n k cp μ0 μ2 (y_set bd s c).1 (y_set bd s c).2 pos tk pl → Q none μ2 τ) : Zc 1 yX6_settle cX6_settle 4 none [.ref 39, .ref k, .int (nI bd)] μ τ Q := by
  refine Zc.mk 1 [.ref 39, .ref k, .int (nI bd), .null] rfl (by decide) (Nat.le_of_ble_eq_true rfl) ?_
  refine Zw_aload_0 dX6_settle_0 ?_
  refine Zw_getv (nI s.length) lf_X6_47 dX6_settle_1 (by first | decide | assumption | omega) (by first | rfl | assumption) (by rfl) hS.2.2.1.1 ?_
  refine Zw_istore_3 dX6_settle_4 rfl ?_
  exact l_settle hA hbd h s c μ hS rfl
theorem yS.push {n k cp bp : Nat} {μ0 μ μ' : zMu} {x : Nat} {s : List Nat} {c : List Int32} {pos tk pl : Nat} (hA : yA k cp bp) (h : yS n k cp μ0 μ s c pos tk pl) (hx : x < 11 ∧ x ≠ 0) (hl : s.length < 64) (hl2 : s.length + c.length < 160) (h1 : ∀ q, q ≠ 39 → q ≠ 41 → μ' q = μ q) (h5 : μ' 41 = upd (μ 41) s.length (nI x)) (h2 : ∀ q, q ≠ 7 → q ≠ 8 → μ' 39 q = μ 39 q) (h3 : μ' 39 7 = nI (s.length + 1)) (h4 : μ' 39 8 = nI (y_open (x :: s))) : yS n k cp μ0 μ' (x :: s) c pos tk pl := by
  obtain ⟨⟨a1, a2, a3, a4, a5, a6, n1, n2, n3⟩, b1, b2, b3, b4, b5, b6⟩ := hA
  obtain ⟨h0, ⟨t1, t2, t3, t4⟩, ⟨s1, s2, s3, s4⟩, ⟨c1, c2, c3⟩, l1, l2⟩ := h
  refine ⟨fun q hq => ?_, ⟨?_, ?_, ?_, ?_⟩, ⟨h3, h4, ?_, fun y hy => ?_⟩, ?_, ?_, ?_⟩
  · rw [h1 q (by simp at hq; omega) (by simp at hq; omega)]; exact h0 q hq
  · rw [h2 1 (by decide) (by decide)]; exact t1
  · rw [h2 5 (by decide) (by decide)]; exact t2
  · rw [h2 2 (by decide) (by decide)]; exact t3
  · rw [h2 4 (by decide) (by decide)]; exact t4
  · rw [h5]; exact ⟨if_pos rfl, k_st_up (Nat.le_refl _) s3⟩
  · rcases List.mem_cons.mp hy with e | e
    · rw [e]; exact hx
    · exact s4 y e
  · rw [h1 k (by omega) (by omega), h1 cp (by omega) (by omega)]; exact ⟨c1, c2, c3⟩
  · rw [List.length_cons]; omega
  · rw [List.length_cons]; omega
set_option maxRecDepth 20000 in
theorem s_hold {x : Nat} {n k cp bp : Nat} {μ0 : zMu} {s : List Nat} {c : List Int32} {pos tk pl : Nat} {Q : zQ} {μ : zMu} {τ : Int64} (hA : yA k cp bp) (hx : x < 11 ∧ x ≠ 0) (hS : yS n k cp μ0 μ s c pos tk pl) (hl2 : s.length + c.length < 160) (hf : s.length = 64 → Q (some (.int 0)) μ τ) (h : s.length < 64 → ∀ μ2, yS n k cp μ0 μ2 (x :: s) c pos tk pl → Q (some (.int 1)) μ2 τ) : Zc 1 yX6_hold cX6_hold 2 (some .boolean) [.ref 39, .int (nI x)] μ τ Q := by
  refine Zc.mk 0 [.ref 39, .int (nI x)] rfl (by decide) (Nat.le_of_ble_eq_true rfl) ?_
  have hl64 := hS.2.2.2.2.1
  refine Zw_aload_0 dX6_hold_0 ?_
  refine Zw_getv (nI s.length) lf_X6_47 dX6_hold_1 (by first | decide | assumption | omega) (by first | rfl | assumption) (by rfl) hS.2.2.1.1 ?_
  refine Zw_aload_0 dX6_hold_4 ?_
  refine Zw_getr 41 lf_X6_15 dX6_hold_5 (by first | decide | assumption | omega) (by first | rfl | assumption) (by rfl) ?_
  refine Zw_alen dX6_hold_8 (by first | decide | assumption | omega) (by first | rfl | assumption) ?_
  refine Zw_nicmp_lt (s.length) (64) 14 dX6_hold_9 (by decide) rfl rfl (by omega) (by omega) (fun c9 => ?_) (fun c9 => ?_)
  · refine Zw_aload_0 dX6_hold_14 ?_
    refine Zw_getr 41 lf_X6_15 dX6_hold_15 (by first | decide | assumption | omega) (by first | rfl | assumption) (by rfl) ?_
    refine Zw_aload_0 dX6_hold_18 ?_
    refine Zw_getv (nI s.length) lf_X6_47 dX6_hold_19 (by first | decide | assumption | omega) (by first | rfl | assumption) (by rfl) hS.2.2.1.1 ?_
    refine Zw_iload_1 dX6_hold_22 ?_
    refine Zw_iastn (s.length) dX6_hold_23 (by first | decide | assumption | omega) (by first | rfl | assumption) rfl (by omega) (by decide) ?_
    refine Zw_aload_0 dX6_hold_24 ?_
    refine Zw_dup dX6_hold_25 rfl ?_
    refine Zw_getv (nI s.length) lf_X6_47 dX6_hold_26 (by first | decide | assumption | omega) (by first | rfl | assumption) (by rfl) hS.2.2.1.1 ?_
    refine Zw_iconst (v := 1) dX6_hold_29 (by decide) ?_
    refine Zw_nadd (s.length) (1) dX6_hold_30 rfl rfl ?_
    refine Zw_put lp_X6_47 dX6_hold_31 (by first | decide | assumption | omega) (by first | rfl | assumption) (by rfl) (by first | rfl | assumption) (by first | rfl | assumption) ?_
    refine Zw_iload_1 dX6_hold_34 ?_
    refine Zw_S1 (k := 0) lm_X6_83 dX6_hold_35 (by decide) (Nat.le_of_ble_eq_true rfl) ?_
    refine s_x_counts (fun k1 => ?_) (fun k1 => ?_)
    · refine Zw_if_eq 51 dX6_hold_38 (by decide) (fun c => absurd c (by decide)) (fun _ => ?_)
      refine Zw_aload_0 dX6_hold_41 ?_
      refine Zw_dup dX6_hold_42 rfl ?_
      refine Zw_geti lf_X6_50 dX6_hold_43 (by first | decide | assumption | omega) (by first | rfl | assumption) (by rfl) ?_
      refine Zw_iconst (v := 1) dX6_hold_46 (by decide) ?_
      refine Zw_iadd dX6_hold_47 ?_
      refine Zw_put lp_X6_50 dX6_hold_48 (by first | decide | assumption | omega) (by first | rfl | assumption) (by rfl) (by first | rfl | assumption) (by first | rfl | assumption) ?_
      refine Zw_iconst (v := 1) dX6_hold_51 (by decide) ?_
      refine Zw_ireturn dX6_hold_52 (by first | rfl | assumption) ?_
      refine h (by omega) _ (yS.push hA hS hx (by omega) (by omega) (fun q hq1 hq2 => ?_) ?_ (fun q h7 h8 => ?_) ?_ ?_)
      · simp only [zup_ne hq1, zup_ne hq2]
      · rfl
      · show upd (upd (μ 39) 7 _) 8 _ q = _
        simp only [upd, if_neg h7, if_neg h8]
      · rfl
      · show μ 39 8 + 1 = _
        rw [hS.2.2.1.2.1, nI_1, y_op1 ((y_c_t x hx.1).mp k1)]
    · refine Zw_if_eq 51 dX6_hold_38 (by decide) (fun _ => ?_) (fun c => absurd c (by decide))
      refine Zw_iconst (v := 1) dX6_hold_51 (by decide) ?_
      refine Zw_ireturn dX6_hold_52 (by first | rfl | assumption) ?_
      refine h (by omega) _ (yS.push hA hS hx (by omega) (by omega) (fun q hq1 hq2 => ?_) ?_ (fun q h7 h8 => ?_) ?_ ?_)
      · simp only [zup_ne hq1, zup_ne hq2]
      · rfl
      · show upd (μ 39) 7 _ q = _
        exact if_neg h7
      · rfl
      · show μ 39 8 = _
        rw [hS.2.2.1.2.1, y_op0 (fun q => k1 ((y_c_t x hx.1).mpr q))]
  · refine Zw_iconst (v := 0) dX6_hold_12 (by decide) ?_
    refine Zw_ireturn dX6_hold_13 (by first | rfl | assumption) ?_
    exact hf (by omega)
def y_top : List Nat → Nat
  | [] => 0
  | x :: _ => y_b x
theorem y_top_lt (s : List Nat) (h : ∀ x ∈ s, x < 11 ∧ x ≠ 0) : y_top s < 8 := by
  cases s with
  | nil => decide
  | cons x s => exact (y_b_t x (h x (List.mem_cons_self ..)).1).2
set_option maxRecDepth 20000 in
theorem s_notMay {n k cp bp : Nat} {μ0 : zMu} {s : List Nat} {c : List Int32} {pos tk pl : Nat} {Q : zQ} {μ : zMu} {τ : Int64} (hA : yA k cp bp) (hS : yS n k cp μ0 μ s c pos tk pl) (h1 : y_top s < 4 → Q (some (.int 1)) μ τ) (h0 : ¬ y_top s < 4 → Q (some (.int 0)) μ τ) : Zc 0 yX6_notMayStand cX6_notMayStand 1 (some .boolean) [.ref 39] μ τ Q := by
  refine Zc.mk 0 [.ref 39] rfl (by decide) (Nat.le_of_ble_eq_true rfl) ?_
  cases s with
  | nil =>
    refine Zw_aload_0 dX6_notMayStand_0 ?_
    refine Zw_getv (0) lf_X6_47 dX6_notMayStand_1 (by first | decide | assumption | omega) (by first | rfl | assumption) (by rfl) hS.2.2.1.1 ?_
    refine Zw_if_eq 26 dX6_notMayStand_4 (by decide) (fun _ => ?_) (fun c => absurd c (by decide))
    refine Zw_iconst (v := 1) dX6_notMayStand_26 (by decide) ?_
    refine Zw_goto 31 dX6_notMayStand_27 (by decide) ?_
    refine Zw_ireturn dX6_notMayStand_31 (by first | rfl | assumption) ?_
    exact h1 (by decide)
  | cons x s =>
    obtain ⟨h0', ⟨t1, t2, t3, t4⟩, ⟨s1, s2, ⟨s3, s5⟩, s4⟩, ⟨c1, c2, c3⟩, l1, l2⟩ := id hS
    rw [List.length_cons] at l1 l2 s1
    have hx11 := (s4 x (List.mem_cons_self ..)).1
    have hbx := y_b_t x hx11
    refine Zw_aload_0 dX6_notMayStand_0 ?_
    refine Zw_getv (nI (s.length + 1)) lf_X6_47 dX6_notMayStand_1 (by first | decide | assumption | omega) (by first | rfl | assumption) (by rfl) s1 ?_
    refine Zw_if_eq 26 dX6_notMayStand_4 (by decide) (fun c4 => absurd c4 (nI_ne0 (by omega) (by omega))) (fun c4 => ?_)
    refine Zw_getsN (t := 2) (by decide) (by decide +kernel) dX6_notMayStand_7 ?_
    refine Zw_aload_0 dX6_notMayStand_10 ?_
    refine Zw_getr 41 lf_X6_15 dX6_notMayStand_11 (by first | decide | assumption | omega) (by first | rfl | assumption) (by rfl) ?_
    refine Zw_aload_0 dX6_notMayStand_14 ?_
    refine Zw_getv (nI (s.length + 1)) lf_X6_47 dX6_notMayStand_15 (by first | decide | assumption | omega) (by first | rfl | assumption) (by rfl) s1 ?_
    refine Zw_iconst (v := 1) dX6_notMayStand_18 (by decide) ?_
    refine Zw_nsub ((s.length + 1)) (1) dX6_notMayStand_19 rfl rfl (by omega) ?_
    refine Zw_ialdnv (((s.length + 1) - 1)) (nI x) dX6_notMayStand_20 (by first | decide | assumption | omega) (by first | rfl | assumption) rfl (by omega) (by decide) s3 ?_
    have hin : vp_in (nI x) (zTab 2).length := vp_in_nI (N := 11) hx11 (by decide)
    have hbx1 : (zTab 2).getD (nI x).toNatClampNeg 0 = nI (y_b x) := by rw [nI_clamp (by omega)]; exact hbx.1
    refine Zw_tald (t := 2) dX6_notMayStand_21 (by decide) (by first | assumption | exact vp_in_nI (by omega) (by omega) | exact vp_in_nI (by simp; omega) (by decide) | (unfold vp_in; decide)) (by first | rfl | assumption) ?_
    rw [hbx1]
    refine Zw_iconst (v := 4) dX6_notMayStand_22 (by decide) ?_
    refine Zw_nicmp_ge ((y_b x)) (4) 30 dX6_notMayStand_23 (by decide) rfl rfl (by omega) (by omega) (fun c23 => ?_) (fun c23 => ?_)
    · refine Zw_iconst (v := 0) dX6_notMayStand_30 (by decide) ?_
      refine Zw_ireturn dX6_notMayStand_31 (by first | rfl | assumption) ?_
      exact h0 (by show ¬ y_b x < 4; omega)
    · refine Zw_iconst (v := 1) dX6_notMayStand_26 (by decide) ?_
      refine Zw_goto 31 dX6_notMayStand_27 (by decide) ?_
      refine Zw_ireturn dX6_notMayStand_31 (by first | rfl | assumption) ?_
      exact h1 (by show y_b x < 4; omega)
theorem y_set_top {bd : Nat} : ∀ {s : List Nat} {c : List Int32} {x : Nat} {s2 : List Nat}, (y_set bd s c).1 = x :: s2 → ¬ bd ≤ y_b x
  | [], c, x, s2, h => by cases h
  | y :: s, c, x, s2, h => by
    rw [y_set_s] at h
    split at h
    · exact y_set_top h
    · cases h; assumption
theorem y_b_open : ∀ x, x < 11 → x ≠ 0 → ¬ 1 ≤ y_b x → x = 10 := by decide
set_option maxRecDepth 20000 in
theorem s_takeClose {n k cp bp : Nat} {μ0 : zMu} {s : List Nat} {c : List Int32} {pos tk pl : Nat} {Q : zQ} {μ : zMu} {τ : Int64} (hA : yA k cp bp) (hS : yS n k cp μ0 μ s c pos tk pl) (h0 : ∀ μ2, (y_set 1 s c).1 = [] → yS n k cp μ0 μ2 [] (y_set 1 s c).2 pos tk pl → Q (some (.int 0)) μ2 τ) (h1 : ∀ x s2 μ2, (y_set 1 s c).1 = x :: s2 → yS n k cp μ0 μ2 s2 (y_set 1 s c).2 pos tk pl → Q (some (.int 1)) μ2 τ) : Zc 2 yX6_takeClose cX6_takeClose 2 (some .boolean) [.ref 39, .ref k] μ τ Q := by
  refine Zc.mk 0 [.ref 39, .ref k] rfl (by decide) (Nat.le_of_ble_eq_true rfl) ?_
  obtain ⟨⟨a1, a2, a3, a4, a5, a6, n1, n2, n3⟩, b1, b2, b3, b4, b5, b6⟩ := id hA
  refine Zw_aload_0 dX6_takeClose_0 ?_
  refine Zw_aload_1 dX6_takeClose_1 ?_
  refine Zw_iconst (v := 1) dX6_takeClose_2 (by decide) ?_
  refine Zw_V2 (k := 1) lm_X6_63 dX6_takeClose_3 (by decide) (by first | decide | assumption | omega) (by first | rfl | assumption) (by rfl) (Nat.le_of_ble_eq_true rfl) ?_
  refine s_settle (bd := 1) hA (by decide) hS (fun μ2 hS2 => ?_)
  cases hs : (y_set 1 s c).1 with
  | nil =>
    rw [hs] at hS2
    refine Zw_aload_0 dX6_takeClose_6 ?_
    refine Zw_getv (0) lf_X6_47 dX6_takeClose_7 (by first | decide | assumption | omega) (by first | rfl | assumption) (by rfl) hS2.2.2.1.1 ?_
    refine Zw_if_ne 15 dX6_takeClose_10 (by decide) (fun c => absurd c (by decide)) (fun _ => ?_)
    refine Zw_iconst (v := 0) dX6_takeClose_13 (by decide) ?_
    refine Zw_ireturn dX6_takeClose_14 (by first | rfl | assumption) ?_
    exact h0 μ2 hs hS2
  | cons x s2 =>
    rw [hs] at hS2
    have hl := hS2.2.2.2.2.1
    rw [List.length_cons] at hl
    have hx0 := hS2.2.2.1.2.2.2 x (List.mem_cons_self ..)
    have hb0 : x = 10 := y_b_open x hx0.1 hx0.2 (y_set_top hs)
    have ho := y_open_le s2
    refine Zw_aload_0 dX6_takeClose_6 ?_
    refine Zw_getv (nI (s2.length + 1)) lf_X6_47 dX6_takeClose_7 (by first | decide | assumption | omega) (by first | rfl | assumption) (by rfl) hS2.2.2.1.1 ?_
    refine Zw_if_ne 15 dX6_takeClose_10 (by decide) (fun c10 => ?_) (fun c10 => absurd c10 (nI_ne0 (by omega) (by omega)))
    refine Zw_aload_0 dX6_takeClose_15 ?_
    refine Zw_dup dX6_takeClose_16 rfl ?_
    refine Zw_getv (nI (s2.length + 1)) lf_X6_47 dX6_takeClose_17 (by first | decide | assumption | omega) (by first | rfl | assumption) (by rfl) hS2.2.2.1.1 ?_
    refine Zw_iconst (v := 1) dX6_takeClose_20 (by decide) ?_
    refine Zw_nsub ((s2.length + 1)) (1) dX6_takeClose_21 rfl rfl (by omega) ?_
    refine Zw_put lp_X6_47 dX6_takeClose_22 (by first | decide | assumption | omega) (by first | rfl | assumption) (by rfl) (by first | rfl | assumption) (by first | rfl | assumption) ?_
    refine Zw_aload_0 dX6_takeClose_25 ?_
    refine Zw_dup dX6_takeClose_26 rfl ?_
    refine Zw_getv (nI (y_open s2 + 1)) lf_X6_50 dX6_takeClose_27 (by first | decide | assumption | omega) (by first | rfl | assumption) (by rfl) (hS2.2.2.1.2.1.trans (by rw [y_op1 (by rw [hb0]; decide)])) ?_
    refine Zw_iconst (v := 1) dX6_takeClose_30 (by decide) ?_
    refine Zw_nsub ((y_open s2 + 1)) (1) dX6_takeClose_31 rfl rfl (by omega) ?_
    refine Zw_put lp_X6_50 dX6_takeClose_32 (by first | decide | assumption | omega) (by first | rfl | assumption) (by rfl) (by first | rfl | assumption) (by first | rfl | assumption) ?_
    refine Zw_iconst (v := 1) dX6_takeClose_35 (by decide) ?_
    refine Zw_ireturn dX6_takeClose_36 (by first | rfl | assumption) ?_
    refine h1 x s2 _ hs (yS.pop (x := x) hA hS2 (fun q hq => ?_) (fun q h7 h8 => ?_) ?_ ?_)
    · simp only [zup_ne hq]
    · show upd (upd (μ2 39) 7 _) 8 _ q = _
      simp only [upd, if_neg h7, if_neg h8]
    · rfl
    · rfl
