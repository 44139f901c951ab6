theorem k_tok_lt (b : Nat → Int32) (n i : Nat) : k_tok b n i < 20 := by
  unfold k_tok k_tokP
  split
  · omega
  · split
    · unfold k_wt
      split
      · omega
      · split
        · omega
        · split <;> omega
    · split
      · split <;> omega
      · unfold k_sgn
        repeat (split; · omega)
        omega
theorem k_pl_ge (b : Nat → Int32) (n i : Nat) : i ≤ k_pl b n i := k_end_ge
theorem k_pl_le {b : Nat → Int32} {n i : Nat} (h : i ≤ n) : k_pl b n i ≤ n := k_end_le h
theorem k_tok18 {b : Nat → Int32} {n i : Nat} (h : k_tok b n i ≠ 18) : k_pl b n i < n := by
  rcases Nat.lt_or_ge (k_pl b n i) n with h1 | h1
  · exact h1
  · exact absurd (by unfold k_tok k_tokP; rw [if_pos h1]) h
theorem k_nx_gt {b : Nat → Int32} {n i : Nat} (h : k_pl b n i < n) : k_pl b n i + 1 ≤ k_nx b n i ∧ k_nx b n i ≤ n := by
  unfold k_nx k_nxP
  rw [if_neg (by omega)]
  split
  · rename_i h1
    rw [k_end_go h h1]
    exact ⟨k_end_ge, k_end_le h⟩
  · split
    · rename_i h1
      rw [k_end_go h h1]
      exact ⟨k_end_ge, k_end_le h⟩
    · omega
theorem k_nx_le {b : Nat → Int32} {n i : Nat} (h : i ≤ n) : k_nx b n i ≤ n := by
  rcases Nat.lt_or_ge (k_pl b n i) n with h1 | h1
  · exact (k_nx_gt h1).2
  · unfold k_nx k_nxP
    rw [if_pos h1]
    exact k_pl_le h
theorem k_nx_up {b : Nat → Int32} {n i : Nat} (h : k_tok b n i ≠ 18) : i + 1 ≤ k_nx b n i ∧ k_nx b n i ≤ n := by
  have h1 := k_nx_gt (k_tok18 h)
  have h2 := k_pl_ge b n i
  omega
def y_part (b : Nat → Int32) (n : Nat) : Nat → Nat → Bool → List Nat → List Int32 → Nat ⊕ (List Int32 × Nat)
  | 0, _, _, _, _ => .inl 0
  | m + 1, pos, want, s, c =>
    if want = true then
      if k_tok b n pos = 16 ∨ k_tok b n pos = 17 then y_part b n m (k_nx b n pos) false s ((if k_tok b n pos = 16 then k_val b n pos else -100 - k_val b n pos) :: c)
      else if y_ah (k_tok b n pos) s = [] then .inl (k_pl b n pos) else y_part b n m (k_nx b n pos) true (y_ah (k_tok b n pos) s) c
    else if k_tok b n pos = 12 then (if (y_set 1 s c).1 = [] then .inr ((y_set 1 s c).2, k_nx b n pos) else .inl (k_pl b n pos))
    else if k_tok b n pos = 11 then (if (y_set 1 s c).1 = [] then .inl (k_pl b n pos) else y_part b n m (k_nx b n pos) false (y_set 1 s c).1.tail (y_set 1 s c).2)
    else if (y_bt (k_tok b n pos) s c).1 = [] then .inl (k_pl b n pos) else y_part b n m (k_nx b n pos) true (y_bt (k_tok b n pos) s c).1 (y_bt (k_tok b n pos) s c).2
theorem y_part_s (b : Nat → Int32) (n m pos : Nat) (want : Bool) (s : List Nat) (c : List Int32) : y_part b n (m + 1) pos want s c = if want = true then
      if k_tok b n pos = 16 ∨ k_tok b n pos = 17 then y_part b n m (k_nx b n pos) false s ((if k_tok b n pos = 16 then k_val b n pos else -100 - k_val b n pos) :: c)
      else if y_ah (k_tok b n pos) s = [] then .inl (k_pl b n pos) else y_part b n m (k_nx b n pos) true (y_ah (k_tok b n pos) s) c
    else if k_tok b n pos = 12 then (if (y_set 1 s c).1 = [] then .inr ((y_set 1 s c).2, k_nx b n pos) else .inl (k_pl b n pos))
    else if k_tok b n pos = 11 then (if (y_set 1 s c).1 = [] then .inl (k_pl b n pos) else y_part b n m (k_nx b n pos) false (y_set 1 s c).1.tail (y_set 1 s c).2)
    else if (y_bt (k_tok b n pos) s c).1 = [] then .inl (k_pl b n pos) else y_part b n m (k_nx b n pos) true (y_bt (k_tok b n pos) s c).1 (y_bt (k_tok b n pos) s c).2 := rfl
theorem yS.adv {n k cp bp : Nat} {μ0 μ μ' : zMu} {s : List Nat} {c : List Int32} {pos tk pl nx tk' pl' : Nat} (hA : yA k cp bp) (h : yS n k cp μ0 μ s c pos tk pl) (ho : tOff μ μ') (h5 : μ' 39 5 = nI nx) (h2 : μ' 39 2 = nI tk') (h4 : μ' 39 4 = nI pl') : yS n k cp μ0 μ' s c nx tk' pl' := by
  obtain ⟨⟨a1, a2, a3, a4, a5, a6, n1, n2, n3⟩, b1, b2, b3, b4, b5, b6⟩ := hA
  obtain ⟨h0, ⟨t1, t2, t3, t4⟩, ⟨s1, s2, s3, s4⟩, ⟨c1, c2, c3⟩, l1, l2⟩ := h
  obtain ⟨o1, o2⟩ := ho
  refine ⟨fun q hq => ?_, ⟨?_, h5, h2, h4⟩, ⟨?_, ?_, ?_, s4⟩, ?_, l1, l2⟩
  · rw [o1 q (by simp at hq ⊢; omega)]; exact h0 q hq
  · rw [o2 1 (by decide) (by decide) (by decide) (by decide)]; exact t1
  · rw [o2 7 (by decide) (by decide) (by decide) (by decide)]; exact s1
  · rw [o2 8 (by decide) (by decide) (by decide) (by decide)]; exact s2
  · rw [o1 41 (by simp)]; exact s3
  · rw [o1 k (by simp; omega), o1 cp (by simp; omega)]; exact ⟨c1, c2, c3⟩
theorem y_ah18 (s : List Nat) : y_ah 18 s = [] := by unfold y_ah; split <;> simp
theorem y_bt18 (s : List Nat) (c : List Int32) : y_bt 18 s c = ([], c) := by unfold y_bt; rw [if_pos (by decide)]
theorem y_ah_len {tk : Nat} {s s2 : List Nat} (h : y_ah tk s = s2) (h2 : s2 ≠ []) : s2.length = s.length + 1 := by
  subst h
  unfold y_ah at h2 ⊢
  split at h2
  · exact absurd rfl h2
  · rename_i h5
    rw [if_neg h5]
    split at h2
    · rename_i h6
      rw [if_pos h6]
      split at h2
      · rename_i h7; rw [if_pos h7]; rfl
      · exact absurd rfl h2
    · rename_i h6
      rw [if_neg h6]
      split at h2
      · rename_i h7
        rw [if_pos h7]
        split at h2
        · rename_i h8; rw [if_pos h8]; rfl
        · exact absurd rfl h2
      · rename_i h7
        rw [if_neg h7]
        split at h2
        · rename_i h8
          rw [if_pos h8]
          split at h2
          · rename_i h9; rw [if_pos h9]; rfl
          · exact absurd rfl h2
        · exact absurd rfl h2
theorem y_bt_len {tk : Nat} {s s2 : List Nat} {c c2 : List Int32} (h : y_bt tk s c = (s2, c2)) (h2 : s2 ≠ []) : s2.length + c2.length = s.length + c.length + 1 := by
  unfold y_bt at h
  generalize (if y_b tk = 4 then 5 else y_b tk) = g at h
  split at h
  · cases h; exact absurd rfl h2
  · split at h
    · cases h; exact absurd rfl h2
    · split at h
      · cases h
        have := y_set_len g s c
        rw [List.length_cons]; omega
      · cases h; exact absurd rfl h2
set_option maxRecDepth 20000 in
theorem l_rp {Q : zQ} {τ : Int64} {n k cp bp : Nat} {μ0 : zMu} {R : Nat ⊕ (List Int32 × Nat)} (hA : yA k cp bp) (hn : n ≤ 160) (hb : k_by (μ0 40) n) (hF : ∀ pl μ2, R = .inl pl → μ2 39 4 = nI pl ∧ zOff [39, 41, k, cp] μ0 μ2 → Q (some (.int 0)) μ2 τ) (hD : ∀ c2 nx μ2, R = .inr (c2, nx) → (∃ tk pl, yS n k cp μ0 μ2 [] c2 nx tk pl) → Q (some (.int 1)) μ2 τ) : ∀ m i want s c pos μ {wv : Int32} {tk pl : Nat}, (want = true ∧ wv = 1) ∨ (want = false ∧ wv = 0) → i + m = 161 → i ≤ pos → pos ≤ n → s.length + c.length ≤ pos → yS n k cp μ0 μ s c pos tk pl → y_part (μ0 40) n m pos want s c = R → Zw 10 RX6 cX6_readPart 4 (some .boolean) Q 14 [.ref 39, .ref k, .int wv, .int (nI i)] [] μ τ
  | 0, i, _, _, _, _, _, _, _, _, _, hm, h1, h2, _, _, _ => absurd hm (by omega)
  | m + 1, i, want, s, c, pos, μ, wv, tk, pl, hw, hm, hip, hpn, hlen, hS, hR => by
    obtain ⟨⟨a1, a2, a3, a4, a5, a6, n1, n2, n3⟩, b1, b2, b3, b4, b5, b6⟩ := id hA
    have hb40 : μ 40 = μ0 40 := hS.1 40 (by simp; omega)
    have htl := k_tok_lt (μ0 40) n pos
    rcases hw with ⟨rfl, rfl⟩ | ⟨rfl, rfl⟩
    · refine Zw_iload_3 dX6_readPart_14 ?_
      refine Zw_sipush (v := 160) dX6_readPart_15 (by decide) ?_
      refine Zw_icmp_gt 156 dX6_readPart_18 (by decide) (fun c18 => absurd c18 (fun e => absurd ((zgt (N := 160) rfl (by decide) (by omega)).mp e) (by omega))) (fun c18 => ?_)
      refine Zw_aload_0 dX6_readPart_21 ?_
      refine Zw_V0 (k := 9) lm_X6_30 dX6_readPart_22 (by decide) (by first | decide | assumption | omega) (by first | rfl | assumption) (by rfl) (Nat.le_of_ble_eq_true rfl) ?_
      refine s_advance hn (by rw [hb40]; exact hb) hpn hS.2.1.1 hS.2.1.2.1 (fun μ2 o1 o2 o3 o4 o5 => ?_)
      rw [hb40] at o2 o3 o4 o5
      have hS2 := yS.adv hA hS o1 o3 o4 o2
      refine Zw_iload_2 dX6_readPart_25 ?_
      refine Zw_if_eq 88 dX6_readPart_26 (by decide) (fun c => absurd c (by decide)) (fun _ => ?_)
      refine Zw_aload_0 dX6_readPart_29 ?_
      refine Zw_getv (nI (k_tok (μ0 40) n pos)) lf_X6_33 dX6_readPart_30 (by first | decide | assumption | omega) (by first | rfl | assumption) (by rfl) hS2.2.1.2.2.1 ?_
      refine Zw_bipush (v := 16) dX6_readPart_33 (by decide) ?_
      refine Zw_nicmp_eq ((k_tok (μ0 40) n pos)) (16) 47 dX6_readPart_35 (by decide) rfl rfl (by omega) (by omega) (fun c35 => ?_) (fun c35 => ?_)
      · refine Zw_aload_1 dX6_readPart_47 ?_
        refine Zw_aload_0 dX6_readPart_48 ?_
        refine Zw_getv (nI (k_tok (μ0 40) n pos)) lf_X6_33 dX6_readPart_49 (by first | decide | assumption | omega) (by first | rfl | assumption) (by rfl) hS2.2.1.2.2.1 ?_
        refine Zw_bipush (v := 16) dX6_readPart_52 (by decide) ?_
        refine Zw_nicmp_ne ((k_tok (μ0 40) n pos)) (16) 64 dX6_readPart_54 (by decide) rfl rfl (by omega) (by omega) (fun c54 => ?_) (fun c54 => ?_)
        · refine Zw_bipush (v := (-100)) dX6_readPart_64 (by decide) ?_
          refine Zw_aload_0 dX6_readPart_66 ?_
          refine Zw_getv (k_val (μ0 40) n pos) lf_X6_53 dX6_readPart_67 (by first | decide | assumption | omega) (by first | rfl | assumption) (by rfl) (o5 (by omega)) ?_
          refine Zw_isub dX6_readPart_70 ?_
          refine Zw_V1 (k := 0) lm_X6_56 dX6_readPart_71 (by decide) (by first | decide | assumption | omega) (by first | rfl | assumption) (by rfl) (Nat.le_of_ble_eq_true rfl) ?_
          have hup := k_nx_up (b := μ0 40) (n := n) (i := pos) (by omega)
          refine s_txAdd (n := c.length) hA.1 (by omega) hS2.2.2.2.1.1 (fun q => absurd q (by omega)) (fun _ => ?_)
          refine Zw_iconst (v := 0) dX6_readPart_74 (by decide) ?_
          refine Zw_istore_2 dX6_readPart_75 rfl ?_
          refine Zw_goto 150 dX6_readPart_76 (by decide) ?_
          refine Zw_iinc_3 dX6_readPart_150 rfl (zincn _) ?_
          refine Zw_goto 14 dX6_readPart_153 (by decide) ?_
          refine Zw_drop (L' := [.ref 39, .ref k, .int 0, .int (nI (i + 1))]) ⟨Or.inr rfl, Or.inr rfl, Or.inr rfl, Or.inr rfl, trivial⟩ (Nat.le_of_ble_eq_true rfl) ?_
          rw [y_part_s, if_pos rfl, if_pos (by omega), if_neg (by omega)] at hR
          have hup := k_nx_up (b := μ0 40) (n := n) (i := pos) (by omega)
          exact l_rp hA hn hb hF hD m (i + 1) false _ _ _ _ (Or.inr ⟨rfl, rfl⟩) (by omega) (by omega) (by omega) (by rw [List.length_cons]; omega) (yS.add hA hS2 (by omega)) hR
        · refine Zw_aload_0 dX6_readPart_57 ?_
          refine Zw_getv (k_val (μ0 40) n pos) lf_X6_53 dX6_readPart_58 (by first | decide | assumption | omega) (by first | rfl | assumption) (by rfl) (o5 (by omega)) ?_
          refine Zw_goto 71 dX6_readPart_61 (by decide) ?_
          refine Zw_V1 (k := 0) lm_X6_56 dX6_readPart_71 (by decide) (by first | decide | assumption | omega) (by first | rfl | assumption) (by rfl) (Nat.le_of_ble_eq_true rfl) ?_
          have hup := k_nx_up (b := μ0 40) (n := n) (i := pos) (by omega)
          refine s_txAdd (n := c.length) hA.1 (by omega) hS2.2.2.2.1.1 (fun q => absurd q (by omega)) (fun _ => ?_)
          refine Zw_iconst (v := 0) dX6_readPart_74 (by decide) ?_
          refine Zw_istore_2 dX6_readPart_75 rfl ?_
          refine Zw_goto 150 dX6_readPart_76 (by decide) ?_
          refine Zw_iinc_3 dX6_readPart_150 rfl (zincn _) ?_
          refine Zw_goto 14 dX6_readPart_153 (by decide) ?_
          refine Zw_drop (L' := [.ref 39, .ref k, .int 0, .int (nI (i + 1))]) ⟨Or.inr rfl, Or.inr rfl, Or.inr rfl, Or.inr rfl, trivial⟩ (Nat.le_of_ble_eq_true rfl) ?_
          rw [y_part_s, if_pos rfl, if_pos (by omega), if_pos (by omega)] at hR
          have hup := k_nx_up (b := μ0 40) (n := n) (i := pos) (by omega)
          exact l_rp hA hn hb hF hD m (i + 1) false _ _ _ _ (Or.inr ⟨rfl, rfl⟩) (by omega) (by omega) (by omega) (by rw [List.length_cons]; omega) (yS.add hA hS2 (by omega)) hR
      · refine Zw_aload_0 dX6_readPart_38 ?_
        refine Zw_getv (nI (k_tok (μ0 40) n pos)) lf_X6_33 dX6_readPart_39 (by first | decide | assumption | omega) (by first | rfl | assumption) (by rfl) hS2.2.1.2.2.1 ?_
        refine Zw_bipush (v := 17) dX6_readPart_42 (by decide) ?_
        refine Zw_nicmp_ne ((k_tok (μ0 40) n pos)) (17) 79 dX6_readPart_44 (by decide) rfl rfl (by omega) (by omega) (fun c44 => ?_) (fun c44 => ?_)
        · refine Zw_aload_0 dX6_readPart_79 ?_
          refine Zw_V0 (k := 2) lm_X6_59 dX6_readPart_80 (by decide) (by first | decide | assumption | omega) (by first | rfl | assumption) (by rfl) (Nat.le_of_ble_eq_true rfl) ?_
          have h18 : k_tok (μ0 40) n pos ≠ 18 → s.length + c.length < 160 := fun q => by have := k_nx_up (b := μ0 40) (n := n) (i := pos) q; omega
          refine s_takeAhead hA (k_tok_lt _ _ _) hS2 h18 (fun μ3 q1 q2 => ?_) (fun s2 μ3 q1 q2 hS3 => ?_)
          · refine Zw_if_ne 150 dX6_readPart_83 (by decide) (fun c => absurd c (by decide)) (fun _ => ?_)
            refine Zw_iconst (v := 0) dX6_readPart_86 (by decide) ?_
            refine Zw_ireturn dX6_readPart_87 (by first | rfl | assumption) ?_
            rw [y_part_s, if_pos rfl, if_neg (by omega), if_pos q1] at hR
            exact hF _ μ3 hR.symm q2
          · refine Zw_if_ne 150 dX6_readPart_83 (by decide) (fun _ => ?_) (fun c => absurd c (by decide))
            refine Zw_iinc_3 dX6_readPart_150 rfl (zincn _) ?_
            refine Zw_goto 14 dX6_readPart_153 (by decide) ?_
            refine Zw_drop (L' := [.ref 39, .ref k, .int 1, .int (nI (i + 1))]) ⟨Or.inr rfl, Or.inr rfl, Or.inr rfl, Or.inr rfl, trivial⟩ (Nat.le_of_ble_eq_true rfl) ?_
            have h18 : k_tok (μ0 40) n pos ≠ 18 := fun q => q2 (by rw [← q1, q, y_ah18])
            rw [y_part_s, if_pos rfl, if_neg (by omega), if_neg (by rw [q1]; exact q2), q1] at hR
            have hup := k_nx_up (b := μ0 40) (n := n) (i := pos) h18
            have hsl := y_ah_len q1 q2
            exact l_rp hA hn hb hF hD m (i + 1) true _ _ _ _ (Or.inl ⟨rfl, rfl⟩) (by omega) (by omega) (by omega) (by omega) hS3 hR
        · refine Zw_aload_1 dX6_readPart_47 ?_
          refine Zw_aload_0 dX6_readPart_48 ?_
          refine Zw_getv (nI (k_tok (μ0 40) n pos)) lf_X6_33 dX6_readPart_49 (by first | decide | assumption | omega) (by first | rfl | assumption) (by rfl) hS2.2.1.2.2.1 ?_
          refine Zw_bipush (v := 16) dX6_readPart_52 (by decide) ?_
          refine Zw_nicmp_ne ((k_tok (μ0 40) n pos)) (16) 64 dX6_readPart_54 (by decide) rfl rfl (by omega) (by omega) (fun c54 => ?_) (fun c54 => ?_)
          · refine Zw_bipush (v := (-100)) dX6_readPart_64 (by decide) ?_
            refine Zw_aload_0 dX6_readPart_66 ?_
            refine Zw_getv (k_val (μ0 40) n pos) lf_X6_53 dX6_readPart_67 (by first | decide | assumption | omega) (by first | rfl | assumption) (by rfl) (o5 (by omega)) ?_
            refine Zw_isub dX6_readPart_70 ?_
            refine Zw_V1 (k := 0) lm_X6_56 dX6_readPart_71 (by decide) (by first | decide | assumption | omega) (by first | rfl | assumption) (by rfl) (Nat.le_of_ble_eq_true rfl) ?_
            have hup := k_nx_up (b := μ0 40) (n := n) (i := pos) (by omega)
            refine s_txAdd (n := c.length) hA.1 (by omega) hS2.2.2.2.1.1 (fun q => absurd q (by omega)) (fun _ => ?_)
            refine Zw_iconst (v := 0) dX6_readPart_74 (by decide) ?_
            refine Zw_istore_2 dX6_readPart_75 rfl ?_
            refine Zw_goto 150 dX6_readPart_76 (by decide) ?_
            refine Zw_iinc_3 dX6_readPart_150 rfl (zincn _) ?_
            refine Zw_goto 14 dX6_readPart_153 (by decide) ?_
            refine Zw_drop (L' := [.ref 39, .ref k, .int 0, .int (nI (i + 1))]) ⟨Or.inr rfl, Or.inr rfl, Or.inr rfl, Or.inr rfl, trivial⟩ (Nat.le_of_ble_eq_true rfl) ?_
            rw [y_part_s, if_pos rfl, if_pos (by omega), if_neg (by omega)] at hR
            have hup := k_nx_up (b := μ0 40) (n := n) (i := pos) (by omega)
            exact l_rp hA hn hb hF hD m (i + 1) false _ _ _ _ (Or.inr ⟨rfl, rfl⟩) (by omega) (by omega) (by omega) (by rw [List.length_cons]; omega) (yS.add hA hS2 (by omega)) hR
          · refine Zw_aload_0 dX6_readPart_57 ?_
            refine Zw_getv (k_val (μ0 40) n pos) lf_X6_53 dX6_readPart_58 (by first | decide | assumption | omega) (by first | rfl | assumption) (by rfl) (o5 (by omega)) ?_
            refine Zw_goto 71 dX6_readPart_61 (by decide) ?_
            refine Zw_V1 (k := 0) lm_X6_56 dX6_readPart_71 (by decide) (by first | decide | assumption | omega) (by first | rfl | assumption) (by rfl) (Nat.le_of_ble_eq_true rfl) ?_
            have hup := k_nx_up (b := μ0 40) (n := n) (i := pos) (by omega)
            refine s_txAdd (n := c.length) hA.1 (by omega) hS2.2.2.2.1.1 (fun q => absurd q (by omega)) (fun _ => ?_)
            refine Zw_iconst (v := 0) dX6_readPart_74 (by decide) ?_
            refine Zw_istore_2 dX6_readPart_75 rfl ?_
            refine Zw_goto 150 dX6_readPart_76 (by decide) ?_
            refine Zw_iinc_3 dX6_readPart_150 rfl (zincn _) ?_
            refine Zw_goto 14 dX6_readPart_153 (by decide) ?_
            refine Zw_drop (L' := [.ref 39, .ref k, .int 0, .int (nI (i + 1))]) ⟨Or.inr rfl, Or.inr rfl, Or.inr rfl, Or.inr rfl, trivial⟩ (Nat.le_of_ble_eq_true rfl) ?_
            rw [y_part_s, if_pos rfl, if_pos (by omega), if_pos (by omega)] at hR
            have hup := k_nx_up (b := μ0 40) (n := n) (i := pos) (by omega)
            exact l_rp hA hn hb hF hD m (i + 1) false _ _ _ _ (Or.inr ⟨rfl, rfl⟩) (by omega) (by omega) (by omega) (by rw [List.length_cons]; omega) (yS.add hA hS2 (by omega)) hR
    · refine Zw_iload_3 dX6_readPart_14 ?_
      refine Zw_sipush (v := 160) dX6_readPart_15 (by decide) ?_
      refine Zw_icmp_gt 156 dX6_readPart_18 (by decide) (fun c18 => absurd c18 (fun e => absurd ((zgt (N := 160) rfl (by decide) (by omega)).mp e) (by omega))) (fun c18 => ?_)
      refine Zw_aload_0 dX6_readPart_21 ?_
      refine Zw_V0 (k := 9) lm_X6_30 dX6_readPart_22 (by decide) (by first | decide | assumption | omega) (by first | rfl | assumption) (by rfl) (Nat.le_of_ble_eq_true rfl) ?_
      refine s_advance hn (by rw [hb40]; exact hb) hpn hS.2.1.1 hS.2.1.2.1 (fun μ2 o1 o2 o3 o4 o5 => ?_)
      rw [hb40] at o2 o3 o4 o5
      have hS2 := yS.adv hA hS o1 o3 o4 o2
      refine Zw_iload_2 dX6_readPart_25 ?_
      refine Zw_if_eq 88 dX6_readPart_26 (by decide) (fun _ => ?_) (fun c => absurd c (by decide))
      refine Zw_aload_0 dX6_readPart_88 ?_
      refine Zw_getv (nI (k_tok (μ0 40) n pos)) lf_X6_33 dX6_readPart_89 (by first | decide | assumption | omega) (by first | rfl | assumption) (by rfl) hS2.2.1.2.2.1 ?_
      refine Zw_bipush (v := 12) dX6_readPart_92 (by decide) ?_
      refine Zw_nicmp_ne ((k_tok (μ0 40) n pos)) (12) 116 dX6_readPart_94 (by decide) rfl rfl (by omega) (by omega) (fun c94 => ?_) (fun c94 => ?_)
      · refine Zw_aload_0 dX6_readPart_116 ?_
        refine Zw_getv (nI (k_tok (μ0 40) n pos)) lf_X6_33 dX6_readPart_117 (by first | decide | assumption | omega) (by first | rfl | assumption) (by rfl) hS2.2.1.2.2.1 ?_
        refine Zw_bipush (v := 11) dX6_readPart_120 (by decide) ?_
        refine Zw_nicmp_ne ((k_tok (μ0 40) n pos)) (11) 135 dX6_readPart_122 (by decide) rfl rfl (by omega) (by omega) (fun c122 => ?_) (fun c122 => ?_)
        · refine Zw_aload_0 dX6_readPart_135 ?_
          refine Zw_aload_1 dX6_readPart_136 ?_
          refine Zw_V1 (k := 2) lm_X6_70 dX6_readPart_137 (by decide) (by first | decide | assumption | omega) (by first | rfl | assumption) (by rfl) (Nat.le_of_ble_eq_true rfl) ?_
          have h18 : k_tok (μ0 40) n pos ≠ 18 → s.length + c.length < 160 := fun q => by have := k_nx_up (b := μ0 40) (n := n) (i := pos) q; omega
          refine s_takeBetween hA (k_tok_lt _ _ _) hS2 h18 (fun μ3 q1 q2 => ?_) (fun s2 c2 μ3 q1 q2 hS3 => ?_)
          · refine Zw_if_eq 148 dX6_readPart_140 (by decide) (fun _ => ?_) (fun c => absurd c (by decide))
            refine Zw_iconst (v := 0) dX6_readPart_148 (by decide) ?_
            refine Zw_ireturn dX6_readPart_149 (by first | rfl | assumption) ?_
            rw [y_part_s, if_neg (by decide), if_neg (by omega), if_neg (by omega), if_pos q1] at hR
            exact hF _ μ3 hR.symm q2
          · refine Zw_if_eq 148 dX6_readPart_140 (by decide) (fun c => absurd c (by decide)) (fun _ => ?_)
            refine Zw_iconst (v := 1) dX6_readPart_143 (by decide) ?_
            refine Zw_istore_2 dX6_readPart_144 rfl ?_
            refine Zw_goto 150 dX6_readPart_145 (by decide) ?_
            refine Zw_iinc_3 dX6_readPart_150 rfl (zincn _) ?_
            refine Zw_goto 14 dX6_readPart_153 (by decide) ?_
            refine Zw_drop (L' := [.ref 39, .ref k, .int 1, .int (nI (i + 1))]) ⟨Or.inr rfl, Or.inr rfl, Or.inr rfl, Or.inr rfl, trivial⟩ (Nat.le_of_ble_eq_true rfl) ?_
            have h18 : k_tok (μ0 40) n pos ≠ 18 := fun q => q2 (by have := congrArg Prod.fst q1; rw [q, y_bt18] at this; exact this.symm)
            rw [y_part_s, if_neg (by decide), if_neg (by omega), if_neg (by omega), if_neg (by rw [q1]; exact q2), q1] at hR
            have hup := k_nx_up (b := μ0 40) (n := n) (i := pos) h18
            have hsl := y_bt_len q1 q2
            exact l_rp hA hn hb hF hD m (i + 1) true _ _ _ _ (Or.inl ⟨rfl, rfl⟩) (by omega) (by omega) (by omega) (by omega) hS3 hR
        · refine Zw_aload_0 dX6_readPart_125 ?_
          refine Zw_aload_1 dX6_readPart_126 ?_
          refine Zw_V1 (k := 2) lm_X6_67 dX6_readPart_127 (by decide) (by first | decide | assumption | omega) (by first | rfl | assumption) (by rfl) (Nat.le_of_ble_eq_true rfl) ?_
          refine s_takeClose hA hS2 (fun μ3 q1 hS3 => ?_) (fun x s2 μ3 q1 hS3 => ?_)
          · refine Zw_if_ne 150 dX6_readPart_130 (by decide) (fun c => absurd c (by decide)) (fun _ => ?_)
            refine Zw_iconst (v := 0) dX6_readPart_133 (by decide) ?_
            refine Zw_ireturn dX6_readPart_134 (by first | rfl | assumption) ?_
            rw [y_part_s, if_neg (by decide), if_neg (by omega), if_pos (by omega), if_pos q1] at hR
            exact hF _ μ3 hR.symm ⟨hS3.2.1.2.2.2, hS3.1⟩
          · refine Zw_if_ne 150 dX6_readPart_130 (by decide) (fun _ => ?_) (fun c => absurd c (by decide))
            refine Zw_iinc_3 dX6_readPart_150 rfl (zincn _) ?_
            refine Zw_goto 14 dX6_readPart_153 (by decide) ?_
            refine Zw_drop (L' := [.ref 39, .ref k, .int 0, .int (nI (i + 1))]) ⟨Or.inr rfl, Or.inr rfl, Or.inr rfl, Or.inr rfl, trivial⟩ (Nat.le_of_ble_eq_true rfl) ?_
            rw [y_part_s, if_neg (by decide), if_neg (by omega), if_pos (by omega), if_neg (by rw [q1]; exact List.cons_ne_nil _ _)] at hR
            have hup := k_nx_up (b := μ0 40) (n := n) (i := pos) (by omega)
            have hsl := y_set_len 1 s c
            rw [q1, List.length_cons] at hsl
            rw [q1] at hR
            exact l_rp hA hn hb hF hD m (i + 1) false _ _ _ _ (Or.inr ⟨rfl, rfl⟩) (by omega) (by omega) (by omega) (by omega) hS3 hR
      · refine Zw_aload_0 dX6_readPart_97 ?_
        refine Zw_aload_1 dX6_readPart_98 ?_
        refine Zw_iconst (v := 1) dX6_readPart_99 (by decide) ?_
        refine Zw_V2 (k := 1) lm_X6_63 dX6_readPart_100 (by decide) (by first | decide | assumption | omega) (by first | rfl | assumption) (by rfl) (Nat.le_of_ble_eq_true rfl) ?_
        refine s_settle (bd := 1) hA (by decide) hS2 (fun μ3 hS3 => ?_)
        have hl64 := hS3.2.2.2.2.1
        refine Zw_aload_0 dX6_readPart_103 ?_
        refine Zw_getv (nI (y_set 1 s c).1.length) lf_X6_47 dX6_readPart_104 (by first | decide | assumption | omega) (by first | rfl | assumption) (by rfl) hS3.2.2.1.1 ?_
        refine Zw_nif_ne ((y_set 1 s c).1.length) 114 dX6_readPart_107 (by decide) rfl (by omega) (fun c107 => ?_) (fun c107 => ?_)
        · refine Zw_iconst (v := 0) dX6_readPart_114 (by decide) ?_
          refine Zw_ireturn dX6_readPart_115 (by first | rfl | assumption) ?_
          have hs0 : ¬ (y_set 1 s c).1 = [] := fun q => by rw [q] at c107; exact c107 rfl
          rw [y_part_s, if_neg (by decide), if_pos (by omega), if_neg hs0] at hR
          exact hF _ μ3 hR.symm ⟨hS3.2.1.2.2.2, hS3.1⟩
        · refine Zw_iconst (v := 1) dX6_readPart_110 (by decide) ?_
          refine Zw_goto 115 dX6_readPart_111 (by decide) ?_
          refine Zw_ireturn dX6_readPart_115 (by first | rfl | assumption) ?_
          have hs0 : (y_set 1 s c).1 = [] := List.eq_nil_of_length_eq_zero (by omega)
          rw [y_part_s, if_neg (by decide), if_pos (by omega), if_pos hs0] at hR
          rw [hs0] at hS3
          exact hD _ _ μ3 hR.symm ⟨_, _, hS3⟩
set_option maxRecDepth 20000 in
theorem s_readPart {n k cp bp : Nat} {μ0 : zMu} {c : List Int32} {pos tk pl : Nat} {Q : zQ} {μ : zMu} {τ : Int64} (hA : yA k cp bp) (hn : n ≤ 160) (hb : k_by (μ0 40) n) (h0 : zOff [39, 41, k, cp] μ0 μ) (h1 : μ 39 1 = nI n) (h5 : μ 39 5 = nI pos) (h2 : μ 39 2 = nI tk) (h4 : μ 39 4 = nI pl) (hc : μ k 2 = nI c.length ∧ μ k 3 = y_wk c ∧ k_co (μ cp) c) (hpn : pos ≤ n) (hlen : c.length ≤ pos) (hF : ∀ pl μ2, y_part (μ0 40) n 161 pos true [] c = .inl pl → μ2 39 4 = nI pl ∧ zOff [39, 41, k, cp] μ0 μ2 → Q (some (.int 0)) μ2 τ) (hD : ∀ c2 nx μ2, y_part (μ0 40) n 161 pos true [] c = .inr (c2, nx) → (∃ tk pl, yS n k cp μ0 μ2 [] c2 nx tk pl) → Q (some (.int 1)) μ2 τ) : Zc 10 yX6_readPart cX6_readPart 4 (some .boolean) [.ref 39, .ref k] μ τ Q := by
  refine Zc.mk 2 [.ref 39, .ref k, .null, .null] rfl (by decide) (Nat.le_of_ble_eq_true rfl) ?_
  obtain ⟨⟨a1, a2, a3, a4, a5, a6, n1, n2, n3⟩, b1, b2, b3, b4, b5, b6⟩ := id hA
  refine Zw_aload_0 dX6_readPart_0 ?_
  refine Zw_iconst (v := 0) dX6_readPart_1 (by decide) ?_
  refine Zw_put lp_X6_47 dX6_readPart_2 (by first | decide | assumption | omega) (by first | rfl | assumption) (by rfl) (by first | rfl | assumption) (by first | rfl | assumption) ?_
  refine Zw_aload_0 dX6_readPart_5 ?_
  refine Zw_iconst (v := 0) dX6_readPart_6 (by decide) ?_
  refine Zw_put lp_X6_50 dX6_readPart_7 (by first | decide | assumption | omega) (by first | rfl | assumption) (by rfl) (by first | rfl | assumption) (by first | rfl | assumption) ?_
  refine Zw_iconst (v := 1) dX6_readPart_10 (by decide) ?_
  refine Zw_istore_2 dX6_readPart_11 rfl ?_
  refine Zw_iconst (v := 0) dX6_readPart_12 (by decide) ?_
  refine Zw_istore_3 dX6_readPart_13 rfl ?_
  have hy : yS n k cp μ0 (zup (zup μ 39 7 0) 39 8 0) [] c pos tk pl := by
    refine ⟨fun q hq => ?_, ⟨h1, h5, h2, h4⟩, ⟨rfl, rfl, trivial, fun x hx => by cases hx⟩, ?_, by decide, by rw [List.length_nil]; omega⟩
    · have hq2 : q ≠ 39 := by simp at hq; omega
      rw [zup_ne hq2, zup_ne hq2]; exact h0 q hq
    · rw [zup_ne (by omega), zup_ne (by omega), zup_ne (by omega), zup_ne (by omega)]; exact hc
  exact l_rp hA hn hb hF hD 161 0 true [] c pos _ (Or.inl ⟨rfl, rfl⟩) rfl (Nat.zero_le _) hpn (by simpa using hlen) hy rfl
