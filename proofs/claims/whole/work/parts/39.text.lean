theorem y_part_in {b : Nat → Int32} {n : Nat} : ∀ {m pos : Nat} {want : Bool} {s : List Nat} {c c2 : List Int32} {nx : Nat}, y_part b n m pos want s c = .inr (c2, nx) → s.length + c.length ≤ pos → pos ≤ n → c2.length ≤ nx ∧ nx ≤ n
  | 0, pos, want, s, c, c2, nx, h, _, _ => by cases h
  | m + 1, pos, want, s, c, c2, nx, h, hl, hp => by
    rw [y_part_s] at h
    split at h
    · split at h
      · have hu := k_nx_up (b := b) (n := n) (i := pos) (by omega)
        exact y_part_in h (by rw [List.length_cons]; omega) (by omega)
      · split at h
        · cases h
        · rename_i h1 h2
          have hu := k_nx_up (b := b) (n := n) (i := pos) (fun q => h2 (by rw [q, y_ah18]))
          have := y_ah_len rfl h2
          exact y_part_in h (by omega) (by omega)
    · split at h
      · rename_i h12
        have hu := k_nx_up (b := b) (n := n) (i := pos) (by omega)
        have := y_set_len 1 s c
        split at h
        · cases h; omega
        · cases h
      · split at h
        · rename_i h12 h11
          have hu := k_nx_up (b := b) (n := n) (i := pos) (by omega)
          have := y_set_len 1 s c
          split at h
          · cases h
          · rename_i h3
            refine y_part_in h ?_ (by omega)
            rw [List.length_tail]; omega
        · split at h
          · cases h
          · rename_i h1 h2 h3 h4
            have hu := k_nx_up (b := b) (n := n) (i := pos) (fun q => h4 (by rw [q, y_bt18]))
            have := y_bt_len (s2 := (y_bt (k_tok b n pos) s c).1) (c2 := (y_bt (k_tok b n pos) s c).2) rfl h4
            exact y_part_in h (by omega) (by omega)
def y_p1 (b : Nat → Int32) (n p pos : Nat) (c : List Int32) : Nat ⊕ (List Int32 × Nat) := if k_tok b n pos = 13 + p then y_part b n 161 (k_nx b n pos) true [] c else .inl (k_pl b n pos)
def y_e (b : Nat → Int32) (n pos : Nat) (r : List Int32 × List Int32 × List Int32) : Nat ⊕ (List Int32 × List Int32 × List Int32) := if k_tok b n pos = 18 then .inr r else .inl (k_pl b n pos)
def y_r2 (b : Nat → Int32) (n pos : Nat) (c1 c2 : List Int32) : Nat ⊕ (List Int32 × List Int32 × List Int32) := match y_p1 b n 2 pos c2 with
  | .inl f => .inl f
  | .inr (c3, p3) => y_e b n p3 (c1, c2, c3)
def y_r1 (b : Nat → Int32) (n pos : Nat) (c1 : List Int32) : Nat ⊕ (List Int32 × List Int32 × List Int32) := match y_p1 b n 1 pos c1 with
  | .inl f => .inl f
  | .inr (c2, p2) => y_r2 b n p2 c1 c2
def y_r0 (b : Nat → Int32) (n : Nat) : Nat ⊕ (List Int32 × List Int32 × List Int32) := match y_p1 b n 0 0 [] with
  | .inl f => .inl f
  | .inr (c1, p1) => y_r1 b n p1 c1
def yR (n k cp bp : Nat) (μ0 μ : zMu) (bs : List Nat) (c : List Int32) (pos : Nat) : Prop :=
  zOff [39, 41, k, cp, bp] μ0 μ ∧ (μ 39 1 = nI n ∧ μ 39 5 = nI pos) ∧ (μ k 2 = nI c.length ∧ μ k 3 = y_wk c ∧ k_co (μ cp) c) ∧ (∀ j, j < bs.length → μ bp j = nI (bs.getD j 0)) ∧ c.length ≤ pos ∧ pos ≤ n
/-- behind a part that was read -/
theorem yR.next {n k cp bp : Nat} {μ0 μ μa μc : zMu} {bs : List Nat} {c c2 : List Int32} {pos nx px : Nat} (hA : yA k cp bp) (h : yR n k cp bp μ0 μ bs c pos) (ho : tOff μ μa) (hy : ∃ tk pl, yS n k cp (zup μa bp bs.length (nI c.length)) μc [] c2 nx tk pl) (hl : c2.length ≤ nx ∧ nx ≤ n) : yR n k cp bp μ0 μc (bs ++ [c.length]) c2 nx := by
  obtain ⟨⟨a1, a2, a3, a4, a5, a6, n1, n2, n3⟩, b1, b2, b3, b4, b5, b6⟩ := hA
  obtain ⟨r0, r1, r2, r3, r4, r5⟩ := h
  obtain ⟨tk, pl, s0, s1, s2, s3, s4, s5⟩ := hy
  refine ⟨fun q hq => ?_, ⟨s1.1, s1.2.1⟩, s3, fun j hj => ?_, hl.1, hl.2⟩
  · have hq' : q ≠ 39 ∧ q ≠ 41 ∧ q ≠ k ∧ q ≠ cp ∧ q ≠ bp := by simpa using hq
    rw [s0 q (by simp; omega), zup_ne hq'.2.2.2.2, ho.1 q (by simp; omega)]
    exact r0 q hq
  · have hbpq : μc bp = upd (μ bp) bs.length (nI c.length) := by rw [s0 bp (by simp; omega), zup_eq, ho.1 bp (by simp; omega)]
    rw [hbpq]
    rw [List.length_append, List.length_singleton] at hj
    by_cases e : j = bs.length
    · subst e
      rw [show upd (μ bp) bs.length (nI c.length) bs.length = nI c.length from if_pos rfl]
      simp
    · rw [show upd (μ bp) bs.length (nI c.length) j = μ bp j from if_neg e, r3 j (by omega)]
      simp only [List.getD_eq_getElem?_getD]
      rw [List.getElem?_append_left (by omega)]
theorem yR.fin {n k cp bp : Nat} {μ0 μ μa : zMu} {bs : List Nat} {c : List Int32} {pos nx : Nat} (hA : yA k cp bp) (h : yR n k cp bp μ0 μ bs c pos) (ho : tOff (zup μ bp bs.length (nI c.length)) μa) (h5 : μa 39 5 = nI nx) (hnx : pos ≤ nx ∧ nx ≤ n) : yR n k cp bp μ0 μa (bs ++ [c.length]) c nx := by
  obtain ⟨⟨a1, a2, a3, a4, a5, a6, n1, n2, n3⟩, b1, b2, b3, b4, b5, b6⟩ := hA
  obtain ⟨r0, r1, r2, r3, r4, r5⟩ := h
  refine ⟨fun q hq => ?_, ⟨?_, h5⟩, ?_, fun j hj => ?_, by omega, hnx.2⟩
  · have hq' : q ≠ 39 ∧ q ≠ 41 ∧ q ≠ k ∧ q ≠ cp ∧ q ≠ bp := by simpa using hq
    rw [ho.1 q (by simp; omega), zup_ne hq'.2.2.2.2]
    exact r0 q hq
  · rw [ho.2 1 (by decide) (by decide) (by decide) (by decide), zup_ne (by omega)]; exact r1.1
  · rw [ho.1 k (by simp; omega), ho.1 cp (by simp; omega), zup_ne (Ne.symm n2), zup_ne (Ne.symm n3)]; exact r2
  · have hbpq : μa bp = upd (μ bp) bs.length (nI c.length) := by rw [ho.1 bp (by simp; omega), zup_eq]
    rw [hbpq]
    rw [List.length_append, List.length_singleton] at hj
    by_cases e : j = bs.length
    · subst e
      rw [show upd (μ bp) bs.length (nI c.length) bs.length = nI c.length from if_pos rfl]
      simp
    · rw [show upd (μ bp) bs.length (nI c.length) j = μ bp j from if_neg e, r3 j (by omega)]
      simp only [List.getD_eq_getElem?_getD]
      rw [List.getElem?_append_left (by omega)]
theorem k_nx_ge (b : Nat → Int32) (n i : Nat) : i ≤ k_nx b n i := by
  have h0 := k_pl_ge b n i
  rcases Nat.lt_or_ge (k_pl b n i) n with h1 | h1
  · have := k_nx_gt h1; omega
  · unfold k_nx k_nxP
    rw [if_pos h1]
    exact h0
set_option maxRecDepth 20000 in
theorem l_ri3 {Q : zQ} {τ : Int64} {n k cp bp pos : Nat} {μ0 μ : zMu} {c1 c2 c3 : List Int32} {R : Nat ⊕ (List Int32 × List Int32 × List Int32)} (hA : yA k cp bp) (hn : n ≤ 160) (hb : k_by (μ0 40) n) (hF : ∀ f μ2, R = .inl f → zOff [39, 41, k, cp, bp] μ0 μ2 → Q (some (.int (nI f))) μ2 τ) (hD : ∀ c1 c2 c3 μ2, R = .inr (c1, c2, c3) → (∃ pos, yR n k cp bp μ0 μ2 [0, c1.length, c2.length, c3.length] c3 pos) → Q (some (.int (-1))) μ2 τ) (hY : yR n k cp bp μ0 μ [0, c1.length, c2.length] c3 pos) (hR : y_e (μ0 40) n pos (c1, c2, c3) = R) : Zw 11 RX6 cX6_readInto 3 (some .int) Q 11 [.ref 39, .ref k, .int 3] [] μ τ := by
  obtain ⟨⟨a1, a2, a3, a4, a5, a6, n1, n2, n3⟩, b1, b2, b3, b4, b5, b6⟩ := id hA
  have hb40 : μ 40 = μ0 40 := hY.1 40 (by simp; omega)
  refine Zw_iload_2 dX6_readInto_11 ?_
  refine Zw_iconst (v := 3) dX6_readInto_12 (by decide) ?_
  refine Zw_icmp_ge 60 dX6_readInto_13 (by decide) (fun _ => ?_) (fun c => absurd c (by decide))
  refine Zw_aload_1 dX6_readInto_60 ?_
  refine Zw_iconst (v := 3) dX6_readInto_61 (by decide) ?_
  refine Zw_V1 (k := 1) lm_X6_39 dX6_readInto_62 (by decide) (by first | decide | assumption | omega) (by first | rfl | assumption) (by rfl) (Nat.le_of_ble_eq_true rfl) ?_
  refine s_txBegin3 hA.1 ?_
  rw [show μ k 2 = nI c3.length from hY.2.2.1.1]
  refine Zw_aload_0 dX6_readInto_65 ?_
  refine Zw_V0 (k := 9) lm_X6_30 dX6_readInto_66 (by decide) (by first | decide | assumption | omega) (by first | rfl | assumption) (by rfl) (Nat.le_of_ble_eq_true rfl) ?_
  refine s_advance hn (by rw [zup_ne (by omega), hb40]; exact hb) hY.2.2.2.2.2 (by rw [zup_ne (by omega)]; exact hY.2.1.1) (by rw [zup_ne (by omega)]; exact hY.2.1.2) (fun μa o1 o2 o3 o4 o5 => ?_)
  rw [zup_ne (show (40 : Nat) ≠ bp by omega), hb40] at o2 o3 o4 o5
  have htl := k_tok_lt (μ0 40) n pos
  have hYf := yR.fin hA hY o1 o3 ⟨k_nx_ge _ _ _, k_nx_le hY.2.2.2.2.2⟩
  refine Zw_aload_0 dX6_readInto_69 ?_
  refine Zw_getv (nI (k_tok (μ0 40) n pos)) lf_X6_33 dX6_readInto_70 (by first | decide | assumption | omega) (by first | rfl | assumption) (by rfl) o4 ?_
  refine Zw_bipush (v := 18) dX6_readInto_73 (by decide) ?_
  refine Zw_nicmp_ne ((k_tok (μ0 40) n pos)) (18) 82 dX6_readInto_75 (by decide) rfl rfl (by omega) (by omega) (fun c75 => ?_) (fun c75 => ?_)
  · refine Zw_aload_0 dX6_readInto_82 ?_
    refine Zw_getv (nI (k_pl (μ0 40) n pos)) lf_X6_36 dX6_readInto_83 (by first | decide | assumption | omega) (by first | rfl | assumption) (by rfl) o2 ?_
    refine Zw_ireturn dX6_readInto_86 (by first | rfl | assumption) ?_
    exact hF _ _ (by rw [← hR, y_e, if_neg (by omega)]) hYf.1
  · refine Zw_iconst (v := (-1)) dX6_readInto_78 (by decide) ?_
    refine Zw_goto 86 dX6_readInto_79 (by decide) ?_
    refine Zw_ireturn dX6_readInto_86 (by first | rfl | assumption) ?_
    exact hD c1 c2 c3 _ (by rw [← hR, y_e, if_pos (by omega)]) ⟨_, hYf⟩
set_option maxRecDepth 20000 in
theorem l_ri2 {Q : zQ} {τ : Int64} {n k cp bp pos : Nat} {μ0 μ : zMu} {c1 c2 : List Int32} {R : Nat ⊕ (List Int32 × List Int32 × List Int32)} (hA : yA k cp bp) (hn : n ≤ 160) (hb : k_by (μ0 40) n) (hF : ∀ f μ2, R = .inl f → zOff [39, 41, k, cp, bp] μ0 μ2 → Q (some (.int (nI f))) μ2 τ) (hD : ∀ c1 c2 c3 μ2, R = .inr (c1, c2, c3) → (∃ pos, yR n k cp bp μ0 μ2 [0, c1.length, c2.length, c3.length] c3 pos) → Q (some (.int (-1))) μ2 τ) (hY : yR n k cp bp μ0 μ [0, c1.length] c2 pos) (hR : y_r2 (μ0 40) n pos c1 c2 = R) : Zw 11 RX6 cX6_readInto 3 (some .int) Q 11 [.ref 39, .ref k, .int 2] [] μ τ := by
  obtain ⟨⟨a1, a2, a3, a4, a5, a6, n1, n2, n3⟩, b1, b2, b3, b4, b5, b6⟩ := id hA
  have hb40 : μ 40 = μ0 40 := hY.1 40 (by simp; omega)
  refine Zw_iload_2 dX6_readInto_11 ?_
  refine Zw_iconst (v := 3) dX6_readInto_12 (by decide) ?_
  refine Zw_icmp_ge 60 dX6_readInto_13 (by decide) (fun c => absurd c (by decide)) (fun _ => ?_)
  refine Zw_aload_0 dX6_readInto_16 ?_
  refine Zw_V0 (k := 9) lm_X6_30 dX6_readInto_17 (by decide) (by first | decide | assumption | omega) (by first | rfl | assumption) (by rfl) (Nat.le_of_ble_eq_true rfl) ?_
  refine s_advance hn (by rw [hb40]; exact hb) hY.2.2.2.2.2 hY.2.1.1 hY.2.1.2 (fun μa o1 o2 o3 o4 o5 => ?_)
  rw [hb40] at o2 o3 o4 o5
  have hOa : zOff [39, 41, k, cp, bp] μ0 μa := hY.1.tr (o1.1.sub (by simp))
  have htl := k_tok_lt (μ0 40) n pos
  have hck : μa k = μ k := o1.1 k (by simp; omega)
  have hcc : μa cp = μ cp := o1.1 cp (by simp; omega)
  refine Zw_aload_0 dX6_readInto_20 ?_
  refine Zw_getv (nI (k_tok (μ0 40) n pos)) lf_X6_33 dX6_readInto_21 (by first | decide | assumption | omega) (by first | rfl | assumption) (by rfl) o4 ?_
  refine Zw_bipush (v := 13) dX6_readInto_24 (by decide) ?_
  refine Zw_iload_2 dX6_readInto_26 ?_
  refine Zw_nadd (13) (2) dX6_readInto_27 rfl rfl ?_
  refine Zw_nicmp_eq ((k_tok (μ0 40) n pos)) ((13 + 2)) 36 dX6_readInto_28 (by decide) rfl rfl (by omega) (by omega) (fun c28 => ?_) (fun c28 => ?_)
  · refine Zw_aload_1 dX6_readInto_36 ?_
    refine Zw_iload_2 dX6_readInto_37 ?_
    refine Zw_V1 (k := 1) lm_X6_39 dX6_readInto_38 (by decide) (by first | decide | assumption | omega) (by first | rfl | assumption) (by rfl) (Nat.le_of_ble_eq_true rfl) ?_
    refine s_txBegin2 hA.1 ?_
    rw [show μa k 2 = nI c2.length by rw [hck]; exact hY.2.2.1.1]
    refine Zw_aload_0 dX6_readInto_41 ?_
    refine Zw_aload_1 dX6_readInto_42 ?_
    refine Zw_V1 (k := 10) lm_X6_43 dX6_readInto_43 (by decide) (by first | decide | assumption | omega) (by first | rfl | assumption) (by rfl) (Nat.le_of_ble_eq_true rfl) ?_
    have hup := k_nx_up (b := μ0 40) (n := n) (i := pos) (by omega)
    refine s_readPart (μ0 := zup μa bp 2 (nI c2.length)) (c := c2) hA hn (by rw [zup_ne (by omega), o1.1 40 (by simp), hb40]; exact hb) (fun q hq => rfl) (by rw [zup_ne (by omega), o1.2 1 (by decide) (by decide) (by decide) (by decide)]; exact hY.2.1.1) (by rw [zup_ne (by omega)]; exact o3) (by rw [zup_ne (by omega)]; exact o4) (by rw [zup_ne (by omega)]; exact o2) (by rw [zup_ne (by omega), zup_ne (by omega), hck, hcc]; exact hY.2.2.1) (k_nx_le hY.2.2.2.2.2) (by have := hY.2.2.2.2.1; omega) (fun pl μc hr hz => ?_) (fun c3 nx μc hr hy => ?_)
    all_goals rw [zup_ne (show (40 : Nat) ≠ bp by omega), o1.1 40 (by simp), hb40] at hr
    · refine Zw_if_ne 54 dX6_readInto_46 (by decide) (fun c => absurd c (by decide)) (fun _ => ?_)
      refine Zw_aload_0 dX6_readInto_49 ?_
      refine Zw_getv (nI pl) lf_X6_36 dX6_readInto_50 (by first | decide | assumption | omega) (by first | rfl | assumption) (by rfl) hz.1 ?_
      refine Zw_ireturn dX6_readInto_53 (by first | rfl | assumption) ?_
      unfold y_r2 at hR
      rw [show y_p1 (μ0 40) n 2 pos c2 = .inl pl by rw [y_p1, if_pos (by omega)]; exact hr] at hR
      refine hF _ _ hR.symm (fun q hq => ?_)
      have hq2 : q ≠ 39 ∧ q ≠ 41 ∧ q ≠ k ∧ q ≠ cp ∧ q ≠ bp := by simpa using hq
      rw [hz.2 q (by simp; omega), zup_ne hq2.2.2.2.2]
      exact hOa q hq
    · refine Zw_if_ne 54 dX6_readInto_46 (by decide) (fun _ => ?_) (fun c => absurd c (by decide))
      refine Zw_iinc_2 (y := 3) dX6_readInto_54 rfl (by decide) ?_
      refine Zw_goto 11 dX6_readInto_57 (by decide) ?_
      refine Zw_drop (L' := [.ref 39, .ref k, .int 3]) ⟨Or.inr rfl, Or.inr rfl, Or.inr rfl, trivial⟩ (Nat.le_of_ble_eq_true rfl) ?_
      have hlc := hY.2.2.2.2.1
      have hin := y_part_in hr (by simp only [List.length_nil] at hlc ⊢; omega) (k_nx_le hY.2.2.2.2.2)
      have hp1 : y_p1 (μ0 40) n 2 pos c2 = .inr (c3, nx) := by rw [y_p1, if_pos (by omega)]; exact hr
      unfold y_r2 at hR
      rw [hp1] at hR
      have hYn := yR.next (px := 0) hA hY o1 hy hin
      exact l_ri3 hA hn hb hF hD hYn hR
  · refine Zw_aload_0 dX6_readInto_31 ?_
    refine Zw_getv (nI (k_pl (μ0 40) n pos)) lf_X6_36 dX6_readInto_32 (by first | decide | assumption | omega) (by first | rfl | assumption) (by rfl) o2 ?_
    refine Zw_ireturn dX6_readInto_35 (by first | rfl | assumption) ?_
    unfold y_r2 at hR
    rw [show y_p1 (μ0 40) n 2 pos c2 = .inl (k_pl (μ0 40) n pos) by rw [y_p1, if_neg (by omega)]] at hR
    exact hF _ _ hR.symm hOa
set_option maxRecDepth 20000 in
theorem l_ri1 {Q : zQ} {τ : Int64} {n k cp bp pos : Nat} {μ0 μ : zMu} {c1 : List Int32} {R : Nat ⊕ (List Int32 × List Int32 × List Int32)} (hA : yA k cp bp) (hn : n ≤ 160) (hb : k_by (μ0 40) n) (hF : ∀ f μ2, R = .inl f → zOff [39, 41, k, cp, bp] μ0 μ2 → Q (some (.int (nI f))) μ2 τ) (hD : ∀ c1 c2 c3 μ2, R = .inr (c1, c2, c3) → (∃ pos, yR n k cp bp μ0 μ2 [0, c1.length, c2.length, c3.length] c3 pos) → Q (some (.int (-1))) μ2 τ) (hY : yR n k cp bp μ0 μ [0] c1 pos) (hR : y_r1 (μ0 40) n pos c1 = R) : Zw 11 RX6 cX6_readInto 3 (some .int) Q 11 [.ref 39, .ref k, .int 1] [] μ τ := by
  obtain ⟨⟨a1, a2, a3, a4, a5, a6, n1, n2, n3⟩, b1, b2, b3, b4, b5, b6⟩ := id hA
  have hb40 : μ 40 = μ0 40 := hY.1 40 (by simp; omega)
  refine Zw_iload_2 dX6_readInto_11 ?_
  refine Zw_iconst (v := 3) dX6_readInto_12 (by decide) ?_
  refine Zw_icmp_ge 60 dX6_readInto_13 (by decide) (fun c => absurd c (by decide)) (fun _ => ?_)
  refine Zw_aload_0 dX6_readInto_16 ?_
  refine Zw_V0 (k := 9) lm_X6_30 dX6_readInto_17 (by decide) (by first | decide | assumption | omega) (by first | rfl | assumption) (by rfl) (Nat.le_of_ble_eq_true rfl) ?_
  refine s_advance hn (by rw [hb40]; exact hb) hY.2.2.2.2.2 hY.2.1.1 hY.2.1.2 (fun μa o1 o2 o3 o4 o5 => ?_)
  rw [hb40] at o2 o3 o4 o5
  have hOa : zOff [39, 41, k, cp, bp] μ0 μa := hY.1.tr (o1.1.sub (by simp))
  have htl := k_tok_lt (μ0 40) n pos
  have hck : μa k = μ k := o1.1 k (by simp; omega)
  have hcc : μa cp = μ cp := o1.1 cp (by simp; omega)
  refine Zw_aload_0 dX6_readInto_20 ?_
  refine Zw_getv (nI (k_tok (μ0 40) n pos)) lf_X6_33 dX6_readInto_21 (by first | decide | assumption | omega) (by first | rfl | assumption) (by rfl) o4 ?_
  refine Zw_bipush (v := 13) dX6_readInto_24 (by decide) ?_
  refine Zw_iload_2 dX6_readInto_26 ?_
  refine Zw_nadd (13) (1) dX6_readInto_27 rfl rfl ?_
  refine Zw_nicmp_eq ((k_tok (μ0 40) n pos)) ((13 + 1)) 36 dX6_readInto_28 (by decide) rfl rfl (by omega) (by omega) (fun c28 => ?_) (fun c28 => ?_)
  · refine Zw_aload_1 dX6_readInto_36 ?_
    refine Zw_iload_2 dX6_readInto_37 ?_
    refine Zw_V1 (k := 1) lm_X6_39 dX6_readInto_38 (by decide) (by first | decide | assumption | omega) (by first | rfl | assumption) (by rfl) (Nat.le_of_ble_eq_true rfl) ?_
    refine s_txBegin1 hA.1 ?_
    rw [show μa k 2 = nI c1.length by rw [hck]; exact hY.2.2.1.1]
    refine Zw_aload_0 dX6_readInto_41 ?_
    refine Zw_aload_1 dX6_readInto_42 ?_
    refine Zw_V1 (k := 10) lm_X6_43 dX6_readInto_43 (by decide) (by first | decide | assumption | omega) (by first | rfl | assumption) (by rfl) (Nat.le_of_ble_eq_true rfl) ?_
    have hup := k_nx_up (b := μ0 40) (n := n) (i := pos) (by omega)
    refine s_readPart (μ0 := zup μa bp 1 (nI c1.length)) (c := c1) hA hn (by rw [zup_ne (by omega), o1.1 40 (by simp), hb40]; exact hb) (fun q hq => rfl) (by rw [zup_ne (by omega), o1.2 1 (by decide) (by decide) (by decide) (by decide)]; exact hY.2.1.1) (by rw [zup_ne (by omega)]; exact o3) (by rw [zup_ne (by omega)]; exact o4) (by rw [zup_ne (by omega)]; exact o2) (by rw [zup_ne (by omega), zup_ne (by omega), hck, hcc]; exact hY.2.2.1) (k_nx_le hY.2.2.2.2.2) (by have := hY.2.2.2.2.1; omega) (fun pl μc hr hz => ?_) (fun c2 nx μc hr hy => ?_)
    all_goals rw [zup_ne (show (40 : Nat) ≠ bp by omega), o1.1 40 (by simp), hb40] at hr
    · refine Zw_if_ne 54 dX6_readInto_46 (by decide) (fun c => absurd c (by decide)) (fun _ => ?_)
      refine Zw_aload_0 dX6_readInto_49 ?_
      refine Zw_getv (nI pl) lf_X6_36 dX6_readInto_50 (by first | decide | assumption | omega) (by first | rfl | assumption) (by rfl) hz.1 ?_
      refine Zw_ireturn dX6_readInto_53 (by first | rfl | assumption) ?_
      unfold y_r1 at hR
      rw [show y_p1 (μ0 40) n 1 pos c1 = .inl pl by rw [y_p1, if_pos (by omega)]; exact hr] at hR
      refine hF _ _ hR.symm (fun q hq => ?_)
      have hq2 : q ≠ 39 ∧ q ≠ 41 ∧ q ≠ k ∧ q ≠ cp ∧ q ≠ bp := by simpa using hq
      rw [hz.2 q (by simp; omega), zup_ne hq2.2.2.2.2]
      exact hOa q hq
    · refine Zw_if_ne 54 dX6_readInto_46 (by decide) (fun _ => ?_) (fun c => absurd c (by decide))
      refine Zw_iinc_2 (y := 2) dX6_readInto_54 rfl (by decide) ?_
      refine Zw_goto 11 dX6_readInto_57 (by decide) ?_
      refine Zw_drop (L' := [.ref 39, .ref k, .int 2]) ⟨Or.inr rfl, Or.inr rfl, Or.inr rfl, trivial⟩ (Nat.le_of_ble_eq_true rfl) ?_
      have hlc := hY.2.2.2.2.1
      have hin := y_part_in hr (by simp only [List.length_nil] at hlc ⊢; omega) (k_nx_le hY.2.2.2.2.2)
      have hp1 : y_p1 (μ0 40) n 1 pos c1 = .inr (c2, nx) := by rw [y_p1, if_pos (by omega)]; exact hr
      unfold y_r1 at hR
      rw [hp1] at hR
      have hYn := yR.next (px := 0) hA hY o1 hy hin
      exact l_ri2 hA hn hb hF hD hYn hR
  · refine Zw_aload_0 dX6_readInto_31 ?_
    refine Zw_getv (nI (k_pl (μ0 40) n pos)) lf_X6_36 dX6_readInto_32 (by first | decide | assumption | omega) (by first | rfl | assumption) (by rfl) o2 ?_
    refine Zw_ireturn dX6_readInto_35 (by first | rfl | assumption) ?_
    unfold y_r1 at hR
    rw [show y_p1 (μ0 40) n 1 pos c1 = .inl (k_pl (μ0 40) n pos) by rw [y_p1, if_neg (by omega)]] at hR
    exact hF _ _ hR.symm hOa
set_option maxRecDepth 20000 in
theorem l_ri0 {Q : zQ} {τ : Int64} {n k cp bp : Nat} {μ0 μ : zMu} {R : Nat ⊕ (List Int32 × List Int32 × List Int32)} (hA : yA k cp bp) (hn : n ≤ 160) (hb : k_by (μ0 40) n) (hF : ∀ f μ2, R = .inl f → zOff [39, 41, k, cp, bp] μ0 μ2 → Q (some (.int (nI f))) μ2 τ) (hD : ∀ c1 c2 c3 μ2, R = .inr (c1, c2, c3) → (∃ pos, yR n k cp bp μ0 μ2 [0, c1.length, c2.length, c3.length] c3 pos) → Q (some (.int (-1))) μ2 τ) (hY : yR n k cp bp μ0 μ [] [] 0) (hR : y_r0 (μ0 40) n = R) : Zw 11 RX6 cX6_readInto 3 (some .int) Q 11 [.ref 39, .ref k, .int 0] [] μ τ := by
  obtain ⟨⟨a1, a2, a3, a4, a5, a6, n1, n2, n3⟩, b1, b2, b3, b4, b5, b6⟩ := id hA
  have hb40 : μ 40 = μ0 40 := hY.1 40 (by simp; omega)
  refine Zw_iload_2 dX6_readInto_11 ?_
  refine Zw_iconst (v := 3) dX6_readInto_12 (by decide) ?_
  refine Zw_icmp_ge 60 dX6_readInto_13 (by decide) (fun c => absurd c (by decide)) (fun _ => ?_)
  refine Zw_aload_0 dX6_readInto_16 ?_
  refine Zw_V0 (k := 9) lm_X6_30 dX6_readInto_17 (by decide) (by first | decide | assumption | omega) (by first | rfl | assumption) (by rfl) (Nat.le_of_ble_eq_true rfl) ?_
  refine s_advance hn (by rw [hb40]; exact hb) hY.2.2.2.2.2 hY.2.1.1 hY.2.1.2 (fun μa o1 o2 o3 o4 o5 => ?_)
  rw [hb40] at o2 o3 o4 o5
  have hOa : zOff [39, 41, k, cp, bp] μ0 μa := hY.1.tr (o1.1.sub (by simp))
  have htl := k_tok_lt (μ0 40) n 0
  have hck : μa k = μ k := o1.1 k (by simp; omega)
  have hcc : μa cp = μ cp := o1.1 cp (by simp; omega)
  refine Zw_aload_0 dX6_readInto_20 ?_
  refine Zw_getv (nI (k_tok (μ0 40) n 0)) lf_X6_33 dX6_readInto_21 (by first | decide | assumption | omega) (by first | rfl | assumption) (by rfl) o4 ?_
  refine Zw_bipush (v := 13) dX6_readInto_24 (by decide) ?_
  refine Zw_iload_2 dX6_readInto_26 ?_
  refine Zw_nadd (13) (0) dX6_readInto_27 rfl rfl ?_
  refine Zw_nicmp_eq ((k_tok (μ0 40) n 0)) ((13 + 0)) 36 dX6_readInto_28 (by decide) rfl rfl (by omega) (by omega) (fun c28 => ?_) (fun c28 => ?_)
  · refine Zw_aload_1 dX6_readInto_36 ?_
    refine Zw_iload_2 dX6_readInto_37 ?_
    refine Zw_V1 (k := 1) lm_X6_39 dX6_readInto_38 (by decide) (by first | decide | assumption | omega) (by first | rfl | assumption) (by rfl) (Nat.le_of_ble_eq_true rfl) ?_
    refine s_txBegin0 hA.1 ?_
    rw [show μa k 2 = nI ([] : List Int32).length by rw [hck]; exact hY.2.2.1.1]
    refine Zw_aload_0 dX6_readInto_41 ?_
    refine Zw_aload_1 dX6_readInto_42 ?_
    refine Zw_V1 (k := 10) lm_X6_43 dX6_readInto_43 (by decide) (by first | decide | assumption | omega) (by first | rfl | assumption) (by rfl) (Nat.le_of_ble_eq_true rfl) ?_
    have hup := k_nx_up (b := μ0 40) (n := n) (i := 0) (by omega)
    refine s_readPart (μ0 := zup μa bp 0 (nI ([] : List Int32).length)) (c := []) hA hn (by rw [zup_ne (by omega), o1.1 40 (by simp), hb40]; exact hb) (fun q hq => rfl) (by rw [zup_ne (by omega), o1.2 1 (by decide) (by decide) (by decide) (by decide)]; exact hY.2.1.1) (by rw [zup_ne (by omega)]; exact o3) (by rw [zup_ne (by omega)]; exact o4) (by rw [zup_ne (by omega)]; exact o2) (by rw [zup_ne (by omega), zup_ne (by omega), hck, hcc]; exact hY.2.2.1) (k_nx_le hY.2.2.2.2.2) (by have := hY.2.2.2.2.1; omega) (fun pl μc hr hz => ?_) (fun c1 nx μc hr hy => ?_)
    all_goals rw [zup_ne (show (40 : Nat) ≠ bp by omega), o1.1 40 (by simp), hb40] at hr
    · refine Zw_if_ne 54 dX6_readInto_46 (by decide) (fun c => absurd c (by decide)) (fun _ => ?_)
      refine Zw_aload_0 dX6_readInto_49 ?_
      refine Zw_getv (nI pl) lf_X6_36 dX6_readInto_50 (by first | decide | assumption | omega) (by first | rfl | assumption) (by rfl) hz.1 ?_
      refine Zw_ireturn dX6_readInto_53 (by first | rfl | assumption) ?_
      unfold y_r0 at hR
      rw [show y_p1 (μ0 40) n 0 0 [] = .inl pl by rw [y_p1, if_pos (by omega)]; exact hr] at hR
      refine hF _ _ hR.symm (fun q hq => ?_)
      have hq2 : q ≠ 39 ∧ q ≠ 41 ∧ q ≠ k ∧ q ≠ cp ∧ q ≠ bp := by simpa using hq
      rw [hz.2 q (by simp; omega), zup_ne hq2.2.2.2.2]
      exact hOa q hq
    · refine Zw_if_ne 54 dX6_readInto_46 (by decide) (fun _ => ?_) (fun c => absurd c (by decide))
      refine Zw_iinc_2 (y := 1) dX6_readInto_54 rfl (by decide) ?_
      refine Zw_goto 11 dX6_readInto_57 (by decide) ?_
      refine Zw_drop (L' := [.ref 39, .ref k, .int 1]) ⟨Or.inr rfl, Or.inr rfl, Or.inr rfl, trivial⟩ (Nat.le_of_ble_eq_true rfl) ?_
      have hlc := hY.2.2.2.2.1
      have hin := y_part_in hr (by simp only [List.length_nil] at hlc ⊢; omega) (k_nx_le hY.2.2.2.2.2)
      have hp1 : y_p1 (μ0 40) n 0 0 [] = .inr (c1, nx) := by rw [y_p1, if_pos (by omega)]; exact hr
      unfold y_r0 at hR
      rw [hp1] at hR
      have hYn := yR.next (px := 0) hA hY o1 hy hin
      exact l_ri1 hA hn hb hF hD hYn hR
  · refine Zw_aload_0 dX6_readInto_31 ?_
    refine Zw_getv (nI (k_pl (μ0 40) n 0)) lf_X6_36 dX6_readInto_32 (by first | decide | assumption | omega) (by first | rfl | assumption) (by rfl) o2 ?_
    refine Zw_ireturn dX6_readInto_35 (by first | rfl | assumption) ?_
    unfold y_r0 at hR
    rw [show y_p1 (μ0 40) n 0 0 [] = .inl (k_pl (μ0 40) n 0) by rw [y_p1, if_neg (by omega)]] at hR
    exact hF _ _ hR.symm hOa
set_option maxRecDepth 20000 in
theorem s_readInto {n k cp bp : Nat} {R : Nat ⊕ (List Int32 × List Int32 × List Int32)} {Q : zQ} {μ : zMu} {τ : Int64} (hA : yA k cp bp) (hn : n ≤ 160) (hb : k_by (μ 40) n) (h1 : μ 39 1 = nI n) (hF : ∀ f μ2, R = .inl f → zOff [39, 41, k, cp, bp] μ μ2 → Q (some (.int (nI f))) μ2 τ) (hD : ∀ c1 c2 c3 μ2, R = .inr (c1, c2, c3) → (∃ pos, yR n k cp bp μ μ2 [0, c1.length, c2.length, c3.length] c3 pos) → Q (some (.int (-1))) μ2 τ) (hR : y_r0 (μ 40) n = R) : Zc 11 yX6_readInto cX6_readInto 3 (some .int) [.ref 39, .ref k] μ τ Q := by
  refine Zc.mk 1 [.ref 39, .ref k, .null] rfl (by decide) (Nat.le_of_ble_eq_true rfl) ?_
  obtain ⟨⟨a1, a2, a3, a4, a5, a6, n1, n2, n3⟩, b1, b2, b3, b4, b5, b6⟩ := id hA
  refine Zw_aload_0 dX6_readInto_0 ?_
  refine Zw_iconst (v := 0) dX6_readInto_1 (by decide) ?_
  refine Zw_put lp_X6_22 dX6_readInto_2 (by first | decide | assumption | omega) (by first | rfl | assumption) (by rfl) (by first | rfl | assumption) (by first | rfl | assumption) ?_
  refine Zw_aload_1 dX6_readInto_5 ?_
  refine Zw_V0 (k := 0) lm_X6_25 dX6_readInto_6 (by decide) (by first | decide | assumption | omega) (by first | rfl | assumption) (by rfl) (Nat.le_of_ble_eq_true rfl) ?_
  refine s_txClear hA.1 ?_
  refine Zw_iconst (v := 0) dX6_readInto_9 (by decide) ?_
  refine Zw_istore_2 dX6_readInto_10 rfl ?_
  exact l_ri0 (μ0 := μ) hA hn hb hF hD ⟨fun q hq => by
    have hq2 : q ≠ 39 ∧ q ≠ 41 ∧ q ≠ k ∧ q ≠ cp ∧ q ≠ bp := by simpa using hq
    rw [zup_ne hq2.2.2.1, zup_ne hq2.2.2.1, zup_ne hq2.1], ⟨by rw [zup_ne (by omega), zup_ne (by omega)]; exact h1, by rw [zup_ne (by omega), zup_ne (by omega)]; rfl⟩, ⟨by rw [zup_eq, zup_eq]; rfl, by rw [zup_eq, zup_eq]; rfl, trivial⟩, fun j hj => absurd hj (by simp), Nat.le_refl 0, Nat.zero_le _⟩ hR
theorem yA_of {t : Nat} (h : t < 6) : yA (21 + 3 * t) (22 + 3 * t) (23 + 3 * t) := ⟨zText_of h, by omega, by omega, by omega, by omega, by omega, by omega⟩
theorem ztx_g : ∀ {t : Nat}, t < 6 → ([21, 24, 27, 30, 33, 36] : List Nat)[t]? = some (21 + 3 * t)
  | 0, _ => rfl
  | 1, _ => rfl
  | 2, _ => rfl
  | 3, _ => rfl
  | 4, _ => rfl
  | 5, _ => rfl
  | t + 6, h => absurd h (by omega)
theorem y_part_f {b : Nat → Int32} {n : Nat} : ∀ {m pos : Nat} {want : Bool} {s : List Nat} {c : List Int32} {f : Nat}, y_part b n m pos want s c = .inl f → pos ≤ n → f ≤ n
  | 0, pos, want, s, c, f, h, _ => by cases h; exact Nat.zero_le _
  | m + 1, pos, want, s, c, f, h, hp => by
    have h1 := k_nx_le (b := b) hp
    have h2 := k_pl_le (b := b) hp
    rw [y_part_s] at h
    split at h
    · split at h
      · exact y_part_f h h1
      · split at h
        · cases h; exact h2
        · exact y_part_f h h1
    · split at h
      · split at h
        · cases h
        · cases h; exact h2
      · split at h
        · split at h
          · cases h; exact h2
          · exact y_part_f h h1
        · split at h
          · cases h; exact h2
          · exact y_part_f h h1
theorem y_p1_f {b : Nat → Int32} {n p pos f : Nat} {c : List Int32} (h : y_p1 b n p pos c = .inl f) (hp : pos ≤ n) : f ≤ n := by
  unfold y_p1 at h
  split at h
  · exact y_part_f h (k_nx_le hp)
  · cases h; exact k_pl_le hp
theorem y_p1_r {b : Nat → Int32} {n p pos nx : Nat} {c c2 : List Int32} (h : y_p1 b n p pos c = .inr (c2, nx)) (hl : c.length ≤ pos) (hp : pos ≤ n) : c2.length ≤ nx ∧ nx ≤ n := by
  unfold y_p1 at h
  split at h
  · exact y_part_in h (by have := k_nx_ge b n pos; simp; omega) (k_nx_le hp)
  · cases h
theorem y_r0_f {b : Nat → Int32} {n f : Nat} (h : y_r0 b n = .inl f) : f ≤ n := by
  unfold y_r0 at h
  split at h
  · rename_i g hg; cases h; exact y_p1_f hg (Nat.zero_le _)
  · rename_i c1 p1 hg
    have h1 := y_p1_r hg (Nat.zero_le _) (Nat.zero_le _)
    unfold y_r1 at h
    split at h
    · rename_i g hg; cases h; exact y_p1_f hg h1.2
    · rename_i c2 p2 hg
      have h2 := y_p1_r hg h1.1 h1.2
      unfold y_r2 at h
      split at h
      · rename_i g hg; cases h; exact y_p1_f hg h2.2
      · rename_i c3 p3 hg
        have h3 := y_p1_r hg h2.1 h2.2
        unfold y_e at h
        split at h
        · cases h
        · cases h; exact k_pl_le h3.2
theorem nI_m1 {a : Nat} (h : a < 2 ^ 31) : ¬ nI a = -1 := by
  intro e
  have h1 := congrArg Int32.toInt e
  rw [nI_toInt h] at h1
  have h2 : (-1 : Int32).toInt = -1 := by decide
  omega
set_option maxRecDepth 20000 in
theorem s_X_text {cnt n : Nat} {Q : zQ} {μ : zMu} {τ : Int64} (hc : μ 17 3 = nI cnt) (hc6 : cnt ≤ 6) (hn : n ≤ 160) (hb : k_by (μ 40) n) (h1 : μ 39 1 = nI n) (hfull : cnt = 6 → Q (some (.int (-4))) μ τ) (hF : ∀ f μ2, cnt < 6 → y_r0 (μ 40) n = .inl f → zOff [39, 41, 21 + 3 * cnt, 22 + 3 * cnt, 23 + 3 * cnt] μ μ2 → μ2 39 1 = 0 → Q (some (.int (-100 - nI f))) μ2 τ) (hD : ∀ c1 c2 c3 μ2, cnt < 6 → y_r0 (μ 40) n = .inr (c1, c2, c3) → zOff [17, 39, 41, 21 + 3 * cnt, 22 + 3 * cnt, 23 + 3 * cnt] μ μ2 → μ2 17 3 = nI (cnt + 1) → μ2 39 1 = 0 → (∃ μ3 pos, yR n (21 + 3 * cnt) (22 + 3 * cnt) (23 + 3 * cnt) μ μ3 [0, c1.length, c2.length, c3.length] c3 pos ∧ μ2 (21 + 3 * cnt) = μ3 (21 + 3 * cnt) ∧ μ2 (22 + 3 * cnt) = μ3 (22 + 3 * cnt) ∧ μ2 (23 + 3 * cnt) = μ3 (23 + 3 * cnt)) → Q (some (.int (nI cnt))) μ2 τ) : Zc 12 yX10_text cX10_text 2 (some .int) [.ref 0] μ τ Q := by
  refine Zc.mk 1 [.ref 0, .null] rfl (by decide) (Nat.le_of_ble_eq_true rfl) ?_
  refine Zw_aload_0 dX10_text_0 ?_
  refine Zw_getr 17 lf_X10_22 dX10_text_1 (by first | decide | assumption | omega) (by first | rfl | assumption) (by rfl) ?_
  refine Zw_getv (nI cnt) lf_X10_124 dX10_text_4 (by first | decide | assumption | omega) (by first | rfl | assumption) (by rfl) hc ?_
  refine Zw_bipush (v := 6) dX10_text_7 (by decide) ?_
  refine Zw_nicmp_lt (cnt) (6) 15 dX10_text_9 (by decide) rfl rfl (by omega) (by omega) (fun c9 => ?_) (fun c9 => ?_)
  · refine Zw_aload_0 dX10_text_15 ?_
    refine Zw_getr 39 lf_X10_29 dX10_text_16 (by first | decide | assumption | omega) (by first | rfl | assumption) (by rfl) ?_
    refine Zw_aload_0 dX10_text_19 ?_
    refine Zw_getr 17 lf_X10_22 dX10_text_20 (by first | decide | assumption | omega) (by first | rfl | assumption) (by rfl) ?_
    refine Zw_getr 18 lf_X10_125 dX10_text_23 (by first | decide | assumption | omega) (by first | rfl | assumption) (by rfl) ?_
    refine Zw_aload_0 dX10_text_26 ?_
    refine Zw_getr 17 lf_X10_22 dX10_text_27 (by first | decide | assumption | omega) (by first | rfl | assumption) (by rfl) ?_
    refine Zw_getv (nI cnt) lf_X10_124 dX10_text_30 (by first | decide | assumption | omega) (by first | rfl | assumption) (by rfl) hc ?_
    refine Zw_aaldn (cnt) (21 + 3 * cnt) dX10_text_33 (by first | decide | assumption | omega) (by first | rfl | assumption) rfl (by omega) (ztx_g (by omega)) (by decide) ?_
    refine Zw_V1 (k := 11) lm_X10_129 dX10_text_34 (by decide) (by first | decide | assumption | omega) (by first | rfl | assumption) (by rfl) (Nat.le_of_ble_eq_true rfl) ?_
    refine s_readInto (R := y_r0 (μ 40) n) (yA_of (t := cnt) (by omega)) hn hb h1 (fun f μ2 hr hO => ?_) (fun c1 c2 c3 μ2 hr hy => ?_) rfl
    · refine Zw_istore_1 dX10_text_37 rfl ?_
      refine Zw_aload_0 dX10_text_38 ?_
      refine Zw_getr 39 lf_X10_29 dX10_text_39 (by first | decide | assumption | omega) (by first | rfl | assumption) (by rfl) ?_
      refine Zw_iconst (v := 0) dX10_text_42 (by decide) ?_
      refine Zw_put lp_X10_121 dX10_text_43 (by first | decide | assumption | omega) (by first | rfl | assumption) (by rfl) (by first | rfl | assumption) (by first | rfl | assumption) ?_
      have hf := y_r0_f hr
      refine Zw_iload_1 dX10_text_46 ?_
      refine Zw_iconst (v := (-1)) dX10_text_47 (by decide) ?_
      refine Zw_icmp_eq 56 dX10_text_48 (by decide) (fun c48 => absurd c48 (nI_m1 (by omega))) (fun c48 => ?_)
      refine Zw_bipush (v := (-100)) dX10_text_51 (by decide) ?_
      refine Zw_iload_1 dX10_text_53 ?_
      refine Zw_isub dX10_text_54 ?_
      refine Zw_ireturn dX10_text_55 (by first | rfl | assumption) ?_
      refine hF f _ (by omega) hr (fun q hq => ?_) rfl
      have hq2 : q ≠ 39 := by simp at hq; omega
      rw [zup_ne hq2]; exact hO q hq
    · refine Zw_istore_1 dX10_text_37 rfl ?_
      refine Zw_aload_0 dX10_text_38 ?_
      refine Zw_getr 39 lf_X10_29 dX10_text_39 (by first | decide | assumption | omega) (by first | rfl | assumption) (by rfl) ?_
      refine Zw_iconst (v := 0) dX10_text_42 (by decide) ?_
      refine Zw_put lp_X10_121 dX10_text_43 (by first | decide | assumption | omega) (by first | rfl | assumption) (by rfl) (by first | rfl | assumption) (by first | rfl | assumption) ?_
      refine Zw_iload_1 dX10_text_46 ?_
      refine Zw_iconst (v := (-1)) dX10_text_47 (by decide) ?_
      refine Zw_icmp_eq 56 dX10_text_48 (by decide) (fun _ => ?_) (fun c => absurd c (by decide))
      obtain ⟨pos, hY⟩ := hy
      have hcm : (zup μ2 39 1 0) 17 3 = nI cnt := by rw [zup_ne (by omega), hY.1 17 (by simp; omega)]; exact hc
      refine Zw_aload_0 dX10_text_56 ?_
      refine Zw_getr 17 lf_X10_22 dX10_text_57 (by first | decide | assumption | omega) (by first | rfl | assumption) (by rfl) ?_
      refine Zw_dup dX10_text_60 rfl ?_
      refine Zw_getv (nI cnt) lf_X10_124 dX10_text_61 (by first | decide | assumption | omega) (by first | rfl | assumption) (by rfl) hcm ?_
      refine Zw_iconst (v := 1) dX10_text_64 (by decide) ?_
      refine Zw_nadd (cnt) (1) dX10_text_65 rfl rfl ?_
      refine Zw_put lp_X10_124 dX10_text_66 (by first | decide | assumption | omega) (by first | rfl | assumption) (by rfl) (by first | rfl | assumption) (by first | rfl | assumption) ?_
      refine Zw_aload_0 dX10_text_69 ?_
      refine Zw_getr 17 lf_X10_22 dX10_text_70 (by first | decide | assumption | omega) (by first | rfl | assumption) (by rfl) ?_
      refine Zw_getv (nI (cnt + 1)) lf_X10_124 dX10_text_73 (by first | decide | assumption | omega) (by first | rfl | assumption) (by rfl) rfl ?_
      refine Zw_iconst (v := 1) dX10_text_76 (by decide) ?_
      refine Zw_nsub ((cnt + 1)) (1) dX10_text_77 rfl rfl (by omega) ?_
      refine Zw_ireturn dX10_text_78 (by first | rfl | assumption) ?_
      refine hD c1 c2 c3 _ (by omega) hr (fun q hq => ?_) rfl rfl ⟨μ2, pos, hY, ?_, ?_, ?_⟩
      · have hq2 : q ≠ 17 ∧ q ≠ 39 ∧ q ≠ 41 ∧ q ≠ 21 + 3 * cnt ∧ q ≠ 22 + 3 * cnt ∧ q ≠ 23 + 3 * cnt := by simpa using hq
        rw [zup_ne hq2.1, zup_ne hq2.2.1]; exact hY.1 q (by simp; omega)
      · rw [zup_ne (by omega), zup_ne (by omega)]
      · rw [zup_ne (by omega), zup_ne (by omega)]
      · rw [zup_ne (by omega), zup_ne (by omega)]
  · refine Zw_bipush (v := (-4)) dX10_text_12 (by decide) ?_
    refine Zw_ireturn dX10_text_14 (by first | rfl | assumption) ?_
    exact hfull (by omega)

