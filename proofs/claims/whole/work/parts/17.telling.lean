section ZTM
variable {d : Nat} {own : String} {cc : ByteArray} {nL : Nat} {rt : Option FieldType} {Q : zQ} {pc : Nat} {L st : List Value} {μ : zMu} {τ : Int64} {idx ci j k : Nat} {cs : List Nat}
theorem Zw_getmv (q : Nat) (hF : zF own idx ci j) (hd : decode cc pc = .ok (.getfield idx, 3)) (hk : k < 78) (hs : zSh k = .inl (ci, cs)) (hc : cs[j]? = some 2) (hq : (μ k j).toNatClampNeg = q) (h : Zw d own cc nL rt Q (pc + 3) L (.ref q :: st) μ τ) : Zw d own cc nL rt Q pc L (.ref k :: st) μ τ := Zw_getm hF hd hk hs hc (by rw [hq]; exact h)
end ZTM
/-- the two rows of Telling: starts at a, spare at b -/
def x_ab (a b : Nat) : Prop := (a = 49 ∧ b = 50) ∨ (a = 50 ∧ b = 49)
theorem x_ab.sh {a b : Nat} (h : x_ab a b) : a < 78 ∧ zSh a = .inr (.inl (.int, 8)) ∧ b < 78 ∧ zSh b = .inr (.inl (.int, 8)) ∧ a ≠ b ∧ a ≠ 48 ∧ b ≠ 48 ∧ a ≠ 43 ∧ b ≠ 43 ∧ a < 2 ^ 31 ∧ b < 2 ^ 31 := by
  rcases h with ⟨rfl, rfl⟩ | ⟨rfl, rfl⟩ <;> exact ⟨by decide, rfl, by decide, rfl, by decide, by decide, by decide, by decide, by decide, by decide, by decide⟩
theorem x_ab.swap {a b : Nat} (h : x_ab a b) : x_ab b a := h.symm.imp (fun e => ⟨e.2, e.1⟩) (fun e => ⟨e.2, e.1⟩)
theorem x_ab.mem {a b : Nat} (h : x_ab a b) : a ∈ [49, 50] ∧ b ∈ [49, 50] := by rcases h with ⟨rfl, rfl⟩ | ⟨rfl, rfl⟩ <;> simp
def q_last (s : Nat → Int32) : Int32 := q_orf (fun p => if s p = 0 then 0 else q_bit p) 8
def q_now (s : Nat → Int32) : Int32 := q_orf (fun p => if s p = 0 then 0 else s p) 8
def q_tmv (mv s : Nat → Int32) (to : Nat) : Int32 := q_orf (fun p => if q_has (mv p) to then s p else 0) 8
def q_fits (v wt : Int32) (p : Nat) : Bool := if v = -1 then !q_has wt p else q_has wt p && decide (nI p = v)
def q_tkp (v wt : Int32) (s : Nat → Int32) (p : Nat) : Int32 := if q_fits v wt p then s p else 0
set_option maxRecDepth 20000 in
theorem l_sumUp {Q : zQ} {μ0 : zMu} {τ : Int64} {a b : Nat} (hab : x_ab a b) (ra : μ0 48 2 = nI a) (h : ∀ μ2, zOff [48] μ0 μ2 → μ2 48 2 = μ0 48 2 → μ2 48 3 = μ0 48 3 → μ2 48 6 = μ0 48 6 → μ2 48 4 = q_last (μ0 a) → μ2 48 5 = q_now (μ0 a) → Q none μ2 τ) : ∀ m i μ, 8 - i < m → i ≤ 8 → zOff [48] μ0 μ → (∀ j, j ≠ 4 → j ≠ 5 → μ 48 j = μ0 48 j) → μ 48 4 = q_orf (fun p => if μ0 a p = 0 then 0 else q_bit p) i → μ 48 5 = q_orf (fun p => if μ0 a p = 0 then 0 else μ0 a p) i → Zw 0 RX7 cX7_sumUp 2 none Q 12 [.ref 48, .int (nI i)] [] μ τ
  | 0, i, _, hm, _, _, _, _, _ => absurd hm (by omega)
  | m + 1, i, μ, hm, hi, hO, hJ, h4, h5 => by
    obtain ⟨ha, hsa, hb, hsb, nab, na48, nb48, na43, nb43, ha31, hb31⟩ := hab.sh
    have ea : μ a = μ0 a := hO a (by simp; exact na48)
    have ra1 : (μ 48 2).toNatClampNeg = a := by rw [hJ 2 (by decide) (by decide), ra]; exact nI_clamp ha31
    refine Zw_iload_1 dX7_sumUp_12 ?_
    refine Zw_bipush (v := 8) dX7_sumUp_13 (by decide) ?_
    refine Zw_nicmp_ge (i) (8) 60 dX7_sumUp_15 (by decide) rfl rfl (by omega) (by omega) (fun c15 => ?_) (fun c15 => ?_)
    · refine Zw_return dX7_sumUp_60 ?_
      obtain rfl : i = 8 := by omega
      exact h _ hO (hJ 2 (by decide) (by decide)) (hJ 3 (by decide) (by decide)) (hJ 6 (by decide) (by decide)) h4 h5
    · refine Zw_aload_0 dX7_sumUp_18 ?_
      refine Zw_getmv (a) lf_X7_9 dX7_sumUp_19 (by first | decide | assumption | omega) (by first | rfl | assumption) (by rfl) ra1 ?_
      refine Zw_iload_1 dX7_sumUp_22 ?_
      refine Zw_ialdnv (i) (μ0 a i) dX7_sumUp_23 (by first | decide | assumption | omega) (by first | rfl | assumption) rfl (by omega) (by decide) (by rw [ea]) ?_
      refine Zw_if_eq 54 dX7_sumUp_24 (by decide) (fun c24 => ?_) (fun c24 => ?_)
      · refine Zw_iinc_1 dX7_sumUp_54 rfl (zincn _) ?_
        refine Zw_goto 12 dX7_sumUp_57 (by decide) ?_
        exact l_sumUp hab ra h m (i + 1) _ (by omega) (by omega) hO hJ (by show _ = q_orf _ i ||| _; rw [h4]; simp [c24, or_0]) (by show _ = q_orf _ i ||| _; rw [h5]; simp [c24, or_0])
      · refine Zw_aload_0 dX7_sumUp_27 ?_
        refine Zw_dup dX7_sumUp_28 rfl ?_
        refine Zw_getv (q_orf (fun p => if μ0 a p = 0 then 0 else q_bit p) i) lf_X7_63 dX7_sumUp_29 (by first | decide | assumption | omega) (by first | rfl | assumption) (by rfl) h4 ?_
        refine Zw_iconst (v := 1) dX7_sumUp_32 (by decide) ?_
        refine Zw_iload_1 dX7_sumUp_33 ?_
        refine Zw_ishl dX7_sumUp_34 ?_
        refine Zw_ior dX7_sumUp_35 ?_
        refine Zw_put lp_X7_63 dX7_sumUp_36 (by first | decide | assumption | omega) (by first | rfl | assumption) (by rfl) (by first | rfl | assumption) (by first | rfl | assumption) ?_
        refine Zw_aload_0 dX7_sumUp_39 ?_
        refine Zw_dup dX7_sumUp_40 rfl ?_
        refine Zw_getv (q_orf (fun p => if μ0 a p = 0 then 0 else μ0 a p) i) lf_X7_75 dX7_sumUp_41 (by first | decide | assumption | omega) (by first | rfl | assumption) (by rfl) (by simp [zup_at, h5]) ?_
        refine Zw_aload_0 dX7_sumUp_44 ?_
        refine Zw_getmv (a) lf_X7_9 dX7_sumUp_45 (by first | decide | assumption | omega) (by first | rfl | assumption) (by rfl) (by simp [zup_at]; exact ra1) ?_
        refine Zw_iload_1 dX7_sumUp_48 ?_
        refine Zw_ialdnv (i) (μ0 a i) dX7_sumUp_49 (by first | decide | assumption | omega) (by first | rfl | assumption) rfl (by omega) (by decide) (by rw [zup_ne na48, ea]) ?_
        refine Zw_ior dX7_sumUp_50 ?_
        refine Zw_put lp_X7_75 dX7_sumUp_51 (by first | decide | assumption | omega) (by first | rfl | assumption) (by rfl) (by first | rfl | assumption) (by first | rfl | assumption) ?_
        refine Zw_iinc_1 dX7_sumUp_54 rfl (zincn _) ?_
        refine Zw_goto 12 dX7_sumUp_57 (by decide) ?_
        exact l_sumUp hab ra h m (i + 1) _ (by omega) (by omega) ((hO.up (by simp)).up (by simp)) (fun j j4 j5 => by simp only [zup_at]; simp [j4, j5]; exact hJ j j4 j5) (by show _ = q_orf _ i ||| _; simp [zup_at, c24, q_bit]) (by show _ = q_orf _ i ||| _; simp [zup_at, c24])
set_option maxRecDepth 20000 in
theorem s_sumUp {a b : Nat} {Q : zQ} {μ : zMu} {τ : Int64} (hab : x_ab a b) (ra : μ 48 2 = nI a) (h : ∀ μ2, zOff [48] μ μ2 → μ2 48 2 = μ 48 2 → μ2 48 3 = μ 48 3 → μ2 48 6 = μ 48 6 → μ2 48 4 = q_last (μ a) → μ2 48 5 = q_now (μ a) → Q none μ2 τ) : Zc 0 yX7_sumUp cX7_sumUp 2 none [.ref 48] μ τ Q := by
  refine Zc.mk 1 [.ref 48, .null] rfl (by decide) (Nat.le_of_ble_eq_true rfl) ?_
  refine Zw_aload_0 dX7_sumUp_0 ?_
  refine Zw_iconst (v := 0) dX7_sumUp_1 (by decide) ?_
  refine Zw_put lp_X7_63 dX7_sumUp_2 (by first | decide | assumption | omega) (by first | rfl | assumption) (by rfl) (by first | rfl | assumption) (by first | rfl | assumption) ?_
  refine Zw_aload_0 dX7_sumUp_5 ?_
  refine Zw_iconst (v := 0) dX7_sumUp_6 (by decide) ?_
  refine Zw_put lp_X7_75 dX7_sumUp_7 (by first | decide | assumption | omega) (by first | rfl | assumption) (by rfl) (by first | rfl | assumption) (by first | rfl | assumption) ?_
  refine Zw_iconst (v := 0) dX7_sumUp_10 (by decide) ?_
  refine Zw_istore_1 dX7_sumUp_11 rfl ?_
  have na48 := hab.sh.2.2.2.2.2.1
  refine l_sumUp (μ0 := zup (zup μ 48 4 0) 48 5 0) hab (by simp [zup_at]; exact ra) (fun μ2 hO2 b2 b3 b6 b4 b5 => ?_) 9 0 _ (by omega) (by omega) zOff.rf (fun _ _ _ => rfl) (by simp [zup_at]; rfl) (by simp [zup_at]; rfl)
  refine h μ2 (((zOff.rf.up (by simp)).up (by simp)).tr hO2) (by rw [b2]; simp [zup_at]) (by rw [b3]; simp [zup_at]) (by rw [b6]; simp [zup_at]) (by rw [b4, zup_ne na48, zup_ne na48]) (by rw [b5, zup_ne na48, zup_ne na48])
set_option maxRecDepth 20000 in
theorem l_keepTold {Q : zQ} {μ0 : zMu} {τ : Int64} {a b : Nat} {v wt : Int32} (hab : x_ab a b) (ra : μ0 48 2 = nI a) (h : ∀ μ2, zOff [a] μ0 μ2 → (∀ p, p < 8 → μ2 a p = q_tkp v wt (μ0 a) p) → Q none μ2 τ) : ∀ m i μ, 8 - i < m → i ≤ 8 → zOff [a] μ0 μ → (∀ p, p < i → μ a p = q_tkp v wt (μ0 a) p) → (∀ p, i ≤ p → μ a p = μ0 a p) → Zw 0 RX7 cX7_keepTold 6 none Q 2 [.ref 48, .int v, .int wt, .int (nI i), .null, .null] [] μ τ
  | 0, i, _, hm, _, _, _, _ => absurd hm (by omega)
  | m + 1, i, μ, hm, hi, hO, hL, hG => by
    obtain ⟨ha, hsa, hb, hsb, nab, na48, nb48, na43, nb43, ha31, hb31⟩ := hab.sh
    have ra1 : (μ 48 2).toNatClampNeg = a := by rw [hO 48 (by simp; exact Ne.symm na48), ra]; exact nI_clamp ha31
    refine Zw_iload_3 dX7_keepTold_2 ?_
    refine Zw_bipush (v := 8) dX7_keepTold_3 (by decide) ?_
    refine Zw_nicmp_ge (i) (8) 76 dX7_keepTold_5 (by decide) rfl rfl (by omega) (by omega) (fun c5 => ?_) (fun c5 => ?_)
    · refine Zw_return dX7_keepTold_76 ?_
      exact h _ hO (fun p hp => hL p (by omega))
    · refine Zw_iload_2 dX7_keepTold_8 ?_
      refine Zw_iload_3 dX7_keepTold_9 ?_
      refine Zw_ishr dX7_keepTold_10 ?_
      refine Zw_iconst (v := 1) dX7_keepTold_11 (by decide) ?_
      refine Zw_iand dX7_keepTold_12 ?_
      refine Zw_if_eq 20 dX7_keepTold_13 (by decide) (fun c13 => ?_) (fun c13 => ?_)
      · refine Zw_iconst (v := 0) dX7_keepTold_20 (by decide) ?_
        refine Zw_istore_4 dX7_keepTold_21 rfl ?_
        refine Zw_iload_1 dX7_keepTold_23 ?_
        refine Zw_iconst (v := (-1)) dX7_keepTold_24 (by decide) ?_
        refine Zw_icmp_ne 41 dX7_keepTold_25 (by decide) (fun c25 => ?_) (fun c25 => ?_)
        · refine Zw_iload_4 dX7_keepTold_41 ?_
          refine Zw_if_eq 55 dX7_keepTold_43 (by decide) (fun _ => ?_) (fun c => absurd c (by decide))
          refine Zw_iconst (v := 0) dX7_keepTold_55 (by decide) ?_
          refine Zw_istore_5 dX7_keepTold_56 rfl ?_
          refine Zw_iload_5 dX7_keepTold_58 ?_
          refine Zw_if_ne 70 dX7_keepTold_60 (by decide) (fun c => absurd c (by decide)) (fun _ => ?_)
          refine Zw_aload_0 dX7_keepTold_63 ?_
          refine Zw_getmv (a) lf_X7_9 dX7_keepTold_64 (by first | decide | assumption | omega) (by first | rfl | assumption) (by rfl) ra1 ?_
          refine Zw_iload_3 dX7_keepTold_67 ?_
          refine Zw_iconst (v := 0) dX7_keepTold_68 (by decide) ?_
          refine Zw_iastn (i) dX7_keepTold_69 (by first | decide | assumption | omega) (by first | rfl | assumption) rfl (by omega) (by decide) ?_
          refine Zw_iinc_3 dX7_keepTold_70 rfl (zincn _) ?_
          refine Zw_goto 2 dX7_keepTold_73 (by decide) ?_
          refine Zw_drop (L' := [.ref 48, .int v, .int wt, .int (nI (i + 1)), .null, .null]) ⟨Or.inr rfl, Or.inr rfl, Or.inr rfl, Or.inr rfl, Or.inl rfl, Or.inl rfl, trivial⟩ (Nat.le_of_ble_eq_true rfl) ?_
          refine l_keepTold hab ra h m (i + 1) _ (by omega) (by omega) (hO.up (by simp)) (fun p hp => ?_) (fun p hp => by rw [zup_at, if_neg (by omega)]; exact hG p (by omega))
          if e : p = i then
            subst e
            rw [q_tkp, if_neg (by simp [q_fits, q_has, c13, c25])]
            simp [zup_at]
          else
            rw [zup_at, if_neg (by omega)]
            exact hL p (by omega)
        · refine Zw_iload_4 dX7_keepTold_28 ?_
          refine Zw_if_ne 37 dX7_keepTold_30 (by decide) (fun c => absurd c (by decide)) (fun _ => ?_)
          refine Zw_iconst (v := 1) dX7_keepTold_33 (by decide) ?_
          refine Zw_goto 56 dX7_keepTold_34 (by decide) ?_
          refine Zw_istore_5 dX7_keepTold_56 rfl ?_
          refine Zw_iload_5 dX7_keepTold_58 ?_
          refine Zw_if_ne 70 dX7_keepTold_60 (by decide) (fun _ => ?_) (fun c => absurd c (by decide))
          refine Zw_iinc_3 dX7_keepTold_70 rfl (zincn _) ?_
          refine Zw_goto 2 dX7_keepTold_73 (by decide) ?_
          refine Zw_drop (L' := [.ref 48, .int v, .int wt, .int (nI (i + 1)), .null, .null]) ⟨Or.inr rfl, Or.inr rfl, Or.inr rfl, Or.inr rfl, Or.inl rfl, Or.inl rfl, trivial⟩ (Nat.le_of_ble_eq_true rfl) ?_
          refine l_keepTold hab ra h m (i + 1) _ (by omega) (by omega) hO (fun p hp => ?_) (fun p hp => hG p (by omega))
          if e : p = i then
            subst e
            rw [hG p (by omega), q_tkp, if_pos (by simp [q_fits, q_has, c13, c25])]
          else
            exact hL p (by omega)
      · refine Zw_iconst (v := 1) dX7_keepTold_16 (by decide) ?_
        refine Zw_goto 21 dX7_keepTold_17 (by decide) ?_
        refine Zw_istore_4 dX7_keepTold_21 rfl ?_
        refine Zw_iload_1 dX7_keepTold_23 ?_
        refine Zw_iconst (v := (-1)) dX7_keepTold_24 (by decide) ?_
        refine Zw_icmp_ne 41 dX7_keepTold_25 (by decide) (fun c25 => ?_) (fun c25 => ?_)
        · refine Zw_iload_4 dX7_keepTold_41 ?_
          refine Zw_if_eq 55 dX7_keepTold_43 (by decide) (fun c => absurd c (by decide)) (fun _ => ?_)
          refine Zw_iload_3 dX7_keepTold_46 ?_
          refine Zw_iload_1 dX7_keepTold_47 ?_
          refine Zw_icmp_ne 55 dX7_keepTold_48 (by decide) (fun c48 => ?_) (fun c48 => ?_)
          · refine Zw_iconst (v := 0) dX7_keepTold_55 (by decide) ?_
            refine Zw_istore_5 dX7_keepTold_56 rfl ?_
            refine Zw_iload_5 dX7_keepTold_58 ?_
            refine Zw_if_ne 70 dX7_keepTold_60 (by decide) (fun c => absurd c (by decide)) (fun _ => ?_)
            refine Zw_aload_0 dX7_keepTold_63 ?_
            refine Zw_getmv (a) lf_X7_9 dX7_keepTold_64 (by first | decide | assumption | omega) (by first | rfl | assumption) (by rfl) ra1 ?_
            refine Zw_iload_3 dX7_keepTold_67 ?_
            refine Zw_iconst (v := 0) dX7_keepTold_68 (by decide) ?_
            refine Zw_iastn (i) dX7_keepTold_69 (by first | decide | assumption | omega) (by first | rfl | assumption) rfl (by omega) (by decide) ?_
            refine Zw_iinc_3 dX7_keepTold_70 rfl (zincn _) ?_
            refine Zw_goto 2 dX7_keepTold_73 (by decide) ?_
            refine Zw_drop (L' := [.ref 48, .int v, .int wt, .int (nI (i + 1)), .null, .null]) ⟨Or.inr rfl, Or.inr rfl, Or.inr rfl, Or.inr rfl, Or.inl rfl, Or.inl rfl, trivial⟩ (Nat.le_of_ble_eq_true rfl) ?_
            refine l_keepTold hab ra h m (i + 1) _ (by omega) (by omega) (hO.up (by simp)) (fun p hp => ?_) (fun p hp => by rw [zup_at, if_neg (by omega)]; exact hG p (by omega))
            if e : p = i then
              subst e
              rw [q_tkp, if_neg (by simp [q_fits, q_has, c13, c25, c48])]
              simp [zup_at]
            else
              rw [zup_at, if_neg (by omega)]
              exact hL p (by omega)
          · refine Zw_iconst (v := 1) dX7_keepTold_51 (by decide) ?_
            refine Zw_goto 56 dX7_keepTold_52 (by decide) ?_
            refine Zw_istore_5 dX7_keepTold_56 rfl ?_
            refine Zw_iload_5 dX7_keepTold_58 ?_
            refine Zw_if_ne 70 dX7_keepTold_60 (by decide) (fun _ => ?_) (fun c => absurd c (by decide))
            refine Zw_iinc_3 dX7_keepTold_70 rfl (zincn _) ?_
            refine Zw_goto 2 dX7_keepTold_73 (by decide) ?_
            refine Zw_drop (L' := [.ref 48, .int v, .int wt, .int (nI (i + 1)), .null, .null]) ⟨Or.inr rfl, Or.inr rfl, Or.inr rfl, Or.inr rfl, Or.inl rfl, Or.inl rfl, trivial⟩ (Nat.le_of_ble_eq_true rfl) ?_
            refine l_keepTold hab ra h m (i + 1) _ (by omega) (by omega) hO (fun p hp => ?_) (fun p hp => hG p (by omega))
            if e : p = i then
              subst e
              rw [hG p (by omega), q_tkp, if_pos (by unfold q_fits; rw [if_neg c25]; simp [q_has, c13]; exact c48)]
            else
              exact hL p (by omega)
        · refine Zw_iload_4 dX7_keepTold_28 ?_
          refine Zw_if_ne 37 dX7_keepTold_30 (by decide) (fun _ => ?_) (fun c => absurd c (by decide))
          refine Zw_iconst (v := 0) dX7_keepTold_37 (by decide) ?_
          refine Zw_goto 56 dX7_keepTold_38 (by decide) ?_
          refine Zw_istore_5 dX7_keepTold_56 rfl ?_
          refine Zw_iload_5 dX7_keepTold_58 ?_
          refine Zw_if_ne 70 dX7_keepTold_60 (by decide) (fun c => absurd c (by decide)) (fun _ => ?_)
          refine Zw_aload_0 dX7_keepTold_63 ?_
          refine Zw_getmv (a) lf_X7_9 dX7_keepTold_64 (by first | decide | assumption | omega) (by first | rfl | assumption) (by rfl) ra1 ?_
          refine Zw_iload_3 dX7_keepTold_67 ?_
          refine Zw_iconst (v := 0) dX7_keepTold_68 (by decide) ?_
          refine Zw_iastn (i) dX7_keepTold_69 (by first | decide | assumption | omega) (by first | rfl | assumption) rfl (by omega) (by decide) ?_
          refine Zw_iinc_3 dX7_keepTold_70 rfl (zincn _) ?_
          refine Zw_goto 2 dX7_keepTold_73 (by decide) ?_
          refine Zw_drop (L' := [.ref 48, .int v, .int wt, .int (nI (i + 1)), .null, .null]) ⟨Or.inr rfl, Or.inr rfl, Or.inr rfl, Or.inr rfl, Or.inl rfl, Or.inl rfl, trivial⟩ (Nat.le_of_ble_eq_true rfl) ?_
          refine l_keepTold hab ra h m (i + 1) _ (by omega) (by omega) (hO.up (by simp)) (fun p hp => ?_) (fun p hp => by rw [zup_at, if_neg (by omega)]; exact hG p (by omega))
          if e : p = i then
            subst e
            rw [q_tkp, if_neg (by simp [q_fits, q_has, c13, c25])]
            simp [zup_at]
          else
            rw [zup_at, if_neg (by omega)]
            exact hL p (by omega)
set_option maxRecDepth 20000 in
theorem s_keepTold {a b : Nat} {v wt : Int32} {Q : zQ} {μ : zMu} {τ : Int64} (hab : x_ab a b) (ra : μ 48 2 = nI a) (h : ∀ μ2, zOff [a] μ μ2 → (∀ p, p < 8 → μ2 a p = q_tkp v wt (μ a) p) → Q none μ2 τ) : Zc 0 yX7_keepTold cX7_keepTold 6 none [.ref 48, .int v, .int wt] μ τ Q := by
  refine Zc.mk 3 [.ref 48, .int v, .int wt, .null, .null, .null] rfl (by decide) (Nat.le_of_ble_eq_true rfl) ?_
  refine Zw_iconst (v := 0) dX7_keepTold_0 (by decide) ?_
  refine Zw_istore_3 dX7_keepTold_1 rfl ?_
  exact l_keepTold hab ra h 9 0 _ (by omega) (by omega) zOff.rf (fun p hp => absurd hp (by omega)) (fun _ _ => rfl)
set_option maxRecDepth 20000 in
theorem l_along1 {Q : zQ} {μ0 : zMu} {τ : Int64} {a b i : Nat} (hab : x_ab a b) (ra : μ0 48 2 = nI a) (rb : μ0 48 3 = nI b) (hi : i < 8) (h : ∀ μ2, zOff [b] μ0 μ2 → (∀ to, to < 8 → μ2 b to = q_orf (fun p => if q_has (μ0 43 p) to then μ0 a p else 0) (i + 1)) → Zw 1 RX7 cX7_goAlongMoves 3 none Q 10 [.ref 48, .int (nI (i + 1)), .null] [] μ2 τ) : ∀ m j μ, 8 - j < m → j ≤ 8 → zOff [b] μ0 μ → (∀ to, to < j → μ b to = q_orf (fun p => if q_has (μ0 43 p) to then μ0 a p else 0) (i + 1)) → (∀ to, j ≤ to → to < 8 → μ b to = q_orf (fun p => if q_has (μ0 43 p) to then μ0 a p else 0) i) → Zw 1 RX7 cX7_goAlongMoves 3 none Q 18 [.ref 48, .int (nI i), .int (nI j)] [] μ τ
  | 0, j, _, hm, _, _, _, _ => absurd hm (by omega)
  | m + 1, j, μ, hm, hj, hO, hL, hG => by
    obtain ⟨ha, hsa, hb, hsb, nab, na48, nb48, na43, nb43, ha31, hb31⟩ := hab.sh
    have ea : μ a = μ0 a := hO a (by simp; exact nab)
    have e43 : μ 43 = μ0 43 := hO 43 (by simp; exact Ne.symm nb43)
    have e48 : μ 48 = μ0 48 := hO 48 (by simp; exact Ne.symm nb48)
    have ra1 : (μ 48 2).toNatClampNeg = a := by rw [e48, ra]; exact nI_clamp ha31
    have rb1 : (μ 48 3).toNatClampNeg = b := by rw [e48, rb]; exact nI_clamp hb31
    refine Zw_iload_2 dX7_goAlongMoves_18 ?_
    refine Zw_bipush (v := 8) dX7_goAlongMoves_19 (by decide) ?_
    refine Zw_nicmp_ge (j) (8) 61 dX7_goAlongMoves_21 (by decide) rfl rfl (by omega) (by omega) (fun c21 => ?_) (fun c21 => ?_)
    · refine Zw_iinc_1 dX7_goAlongMoves_61 rfl (zincn _) ?_
      refine Zw_goto 10 dX7_goAlongMoves_64 (by decide) ?_
      refine Zw_drop (L' := [.ref 48, .int (nI (i + 1)), .null]) ⟨Or.inr rfl, Or.inr rfl, Or.inl rfl, trivial⟩ (Nat.le_of_ble_eq_true rfl) ?_
      exact h μ hO (fun to ht => hL to (by omega))
    · refine Zw_aload_0 dX7_goAlongMoves_24 ?_
      refine Zw_getr 42 lf_X7_22 dX7_goAlongMoves_25 (by first | decide | assumption | omega) (by first | rfl | assumption) (by rfl) ?_
      refine Zw_getr 43 lf_X7_72 dX7_goAlongMoves_28 (by first | decide | assumption | omega) (by first | rfl | assumption) (by rfl) ?_
      refine Zw_iload_1 dX7_goAlongMoves_31 ?_
      refine Zw_ialdnv (i) (μ0 43 i) dX7_goAlongMoves_32 (by first | decide | assumption | omega) (by first | rfl | assumption) rfl (by omega) (by decide) (by rw [e43]) ?_
      refine Zw_iload_2 dX7_goAlongMoves_33 ?_
      refine Zw_ishr dX7_goAlongMoves_34 ?_
      refine Zw_iconst (v := 1) dX7_goAlongMoves_35 (by decide) ?_
      refine Zw_iand dX7_goAlongMoves_36 ?_
      refine Zw_if_eq 55 dX7_goAlongMoves_37 (by decide) (fun c37 => ?_) (fun c37 => ?_)
      · refine Zw_iinc_2 dX7_goAlongMoves_55 rfl (zincn _) ?_
        refine Zw_goto 18 dX7_goAlongMoves_58 (by decide) ?_
        refine l_along1 hab ra rb hi h m (j + 1) _ (by omega) (by omega) hO (fun to ht => ?_) (fun to h1 h2 => hG to (by omega) h2)
        if e : to = j then
          subst e
          rw [hG to (by omega) (by omega)]
          show _ = q_orf _ i ||| _
          simp [q_has, c37, or_0]
        else
          exact hL to (by omega)
      · refine Zw_aload_0 dX7_goAlongMoves_40 ?_
        refine Zw_getmv (b) lf_X7_15 dX7_goAlongMoves_41 (by first | decide | assumption | omega) (by first | rfl | assumption) (by rfl) rb1 ?_
        refine Zw_iload_2 dX7_goAlongMoves_44 ?_
        refine Zw_dup2 dX7_goAlongMoves_45 rfl rfl ?_
        refine Zw_ialdnv (j) (q_orf (fun p => if q_has (μ0 43 p) j then μ0 a p else 0) i) dX7_goAlongMoves_46 (by first | decide | assumption | omega) (by first | rfl | assumption) rfl (by omega) (by decide) (hG j (by omega) (by omega)) ?_
        refine Zw_aload_0 dX7_goAlongMoves_47 ?_
        refine Zw_getmv (a) lf_X7_9 dX7_goAlongMoves_48 (by first | decide | assumption | omega) (by first | rfl | assumption) (by rfl) ra1 ?_
        refine Zw_iload_1 dX7_goAlongMoves_51 ?_
        refine Zw_ialdnv (i) (μ0 a i) dX7_goAlongMoves_52 (by first | decide | assumption | omega) (by first | rfl | assumption) rfl (by omega) (by decide) (by rw [ea]) ?_
        refine Zw_ior dX7_goAlongMoves_53 ?_
        refine Zw_iastn (j) dX7_goAlongMoves_54 (by first | decide | assumption | omega) (by first | rfl | assumption) rfl (by omega) (by decide) ?_
        refine Zw_iinc_2 dX7_goAlongMoves_55 rfl (zincn _) ?_
        refine Zw_goto 18 dX7_goAlongMoves_58 (by decide) ?_
        refine l_along1 hab ra rb hi h m (j + 1) _ (by omega) (by omega) (hO.up (by simp)) (fun to ht => ?_) (fun to h1 h2 => by rw [zup_at, if_neg (by omega)]; exact hG to (by omega) h2)
        if e : to = j then
          subst e
          show _ = q_orf _ i ||| _
          simp [zup_at, q_has, c37]
        else
          rw [zup_at, if_neg (by omega)]
          exact hL to (by omega)
set_option maxRecDepth 20000 in
theorem l_along {Q : zQ} {μ0 : zMu} {τ : Int64} {a b : Nat} (hab : x_ab a b) (ra : μ0 48 2 = nI a) (rb : μ0 48 3 = nI b) (h : ∀ μ2, zOff [48, 49, 50] μ0 μ2 → μ2 48 2 = nI b → μ2 48 3 = nI a → (∀ j, 4 ≤ j → μ2 48 j = μ0 48 j) → (∀ to, to < 8 → μ2 b to = q_tmv (μ0 43) (μ0 a) to) → Q none μ2 τ) : ∀ m i μ, 8 - i < m → i ≤ 8 → zOff [b] μ0 μ → (∀ to, to < 8 → μ b to = q_orf (fun p => if q_has (μ0 43 p) to then μ0 a p else 0) i) → Zw 1 RX7 cX7_goAlongMoves 3 none Q 10 [.ref 48, .int (nI i), .null] [] μ τ
  | 0, i, _, hm, _, _, _ => absurd hm (by omega)
  | m + 1, i, μ, hm, hi, hO, hL => by
    obtain ⟨ha, hsa, hb, hsb, nab, na48, nb48, na43, nb43, ha31, hb31⟩ := hab.sh
    have ea : μ a = μ0 a := hO a (by simp; exact nab)
    have e43 : μ 43 = μ0 43 := hO 43 (by simp; exact Ne.symm nb43)
    have e48 : μ 48 = μ0 48 := hO 48 (by simp; exact Ne.symm nb48)
    have ra1 : (μ 48 2).toNatClampNeg = a := by rw [e48, ra]; exact nI_clamp ha31
    have rb1 : (μ 48 3).toNatClampNeg = b := by rw [e48, rb]; exact nI_clamp hb31
    have hm49 := hab.mem
    refine Zw_iload_1 dX7_goAlongMoves_10 ?_
    refine Zw_bipush (v := 8) dX7_goAlongMoves_11 (by decide) ?_
    refine Zw_nicmp_ge (i) (8) 67 dX7_goAlongMoves_13 (by decide) rfl rfl (by omega) (by omega) (fun c13 => ?_) (fun c13 => ?_)
    · refine Zw_aload_0 dX7_goAlongMoves_67 ?_
      refine Zw_getmv (a) lf_X7_9 dX7_goAlongMoves_68 (by first | decide | assumption | omega) (by first | rfl | assumption) (by rfl) ra1 ?_
      refine Zw_astore_1 dX7_goAlongMoves_71 rfl ?_
      refine Zw_aload_0 dX7_goAlongMoves_72 ?_
      refine Zw_aload_0 dX7_goAlongMoves_73 ?_
      refine Zw_getmv (b) lf_X7_15 dX7_goAlongMoves_74 (by first | decide | assumption | omega) (by first | rfl | assumption) (by rfl) rb1 ?_
      refine Zw_putr lp_X7_9 dX7_goAlongMoves_77 (by first | decide | assumption | omega) (by first | rfl | assumption) (by rfl) (by first | decide | omega) rfl ?_
      refine Zw_aload_0 dX7_goAlongMoves_80 ?_
      refine Zw_aload_1 dX7_goAlongMoves_81 ?_
      refine Zw_putr lp_X7_15 dX7_goAlongMoves_82 (by first | decide | assumption | omega) (by first | rfl | assumption) (by rfl) (by first | decide | omega) rfl ?_
      refine Zw_return dX7_goAlongMoves_85 ?_
      obtain rfl : i = 8 := by omega
      refine h _ (((hO.sub (by intro k hk; simp at hk; subst hk; simpa using Or.inr hm49.2)).up (by simp)).up (by simp)) (by simp [zup_at]) (by simp [zup_at]) (fun j hj => by rw [zup_at, if_neg (by omega), zup_at, if_neg (by omega), e48]) (fun to ht => ?_)
      rw [zup_ne nb48, zup_ne nb48]
      exact hL to ht
    · refine Zw_iconst (v := 0) dX7_goAlongMoves_16 (by decide) ?_
      refine Zw_istore_2 dX7_goAlongMoves_17 rfl ?_
      refine l_along1 (μ0 := μ) hab (by rw [e48]; exact ra) (by rw [e48]; exact rb) c13 (fun μ2 hO2 hL2 => ?_) 9 0 _ (by omega) (by omega) zOff.rf (fun to ht => absurd ht (by omega)) (fun to _ h2 => by rw [e43, ea]; exact hL to h2)
      exact l_along hab ra rb h m (i + 1) μ2 (by omega) (by omega) (hO.tr hO2) (fun to ht => by rw [hL2 to ht, e43, ea])
set_option maxRecDepth 20000 in
theorem s_along {a b : Nat} {Q : zQ} {μ : zMu} {τ : Int64} (hab : x_ab a b) (ra : μ 48 2 = nI a) (rb : μ 48 3 = nI b) (h : ∀ μ2, zOff [48, 49, 50] μ μ2 → μ2 48 2 = nI b → μ2 48 3 = nI a → (∀ j, 4 ≤ j → μ2 48 j = μ 48 j) → (∀ to, to < 8 → μ2 b to = q_tmv (μ 43) (μ a) to) → Q none μ2 τ) : Zc 1 yX7_goAlongMoves cX7_goAlongMoves 3 none [.ref 48] μ τ Q := by
  refine Zc.mk 2 [.ref 48, .null, .null] rfl (by decide) (Nat.le_of_ble_eq_true rfl) ?_
  obtain ⟨ha, hsa, hb, hsb, nab, na48, nb48, na43, nb43, ha31, hb31⟩ := hab.sh
  refine Zw_aload_0 dX7_goAlongMoves_0 ?_
  refine Zw_getmv (b) lf_X7_15 dX7_goAlongMoves_1 (by first | decide | assumption | omega) (by first | rfl | assumption) (by rfl) (by rw [rb]; exact nI_clamp hb31) ?_
  refine Zw_iconst (v := 0) dX7_goAlongMoves_4 (by decide) ?_
  refine Zw_S2 (k := 0) lm_X7_66 dX7_goAlongMoves_5 (by decide) (Nat.le_of_ble_eq_true rfl) ?_
  refine s_fill hb hsb (by decide) (fun μ1 hO1 hV1 => ?_)
  refine Zw_iconst (v := 0) dX7_goAlongMoves_8 (by decide) ?_
  refine Zw_istore_1 dX7_goAlongMoves_9 rfl ?_
  refine l_along (μ0 := μ1) hab (by rw [hO1 48 (by simp; exact Ne.symm nb48)]; exact ra) (by rw [hO1 48 (by simp; exact Ne.symm nb48)]; exact rb) (fun μ2 hO2 b2 b3 b4 b5 => ?_) 9 0 _ (by omega) (by omega) zOff.rf (fun to ht => hV1 to ht)
  refine h μ2 ((hO1.sub (by intro k hk; simp at hk; subst hk; simpa using Or.inr hab.mem.2)).tr hO2) b2 b3 (fun j hj => by rw [b4 j hj, hO1 48 (by simp; exact Ne.symm nb48)]) (fun to ht => by rw [b5 to ht, hO1 43 (by simp; exact Ne.symm nb43), hO1 a (by simp; exact nab)])
