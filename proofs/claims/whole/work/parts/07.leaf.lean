theorem zinc1 (x : Int32) : x + Int32.ofInt 1 = x + 1 := rfl
theorem zincm1 (x : Int32) : x + Int32.ofInt (-1) = x + (-1) := rfl
def zLa : List Value → List Value
  | [] => []
  | v :: vs => if v.category = 2 then v :: .null :: zLa vs else v :: zLa vs
theorem zLa_len : ∀ as : List Value, (lg_sl as).length = (zLa as).length
  | [] => rfl
  | v :: vs => by
    have ih := zLa_len vs
    simp only [lg_sl, List.flatMap_cons, List.length_append, zLa] at ih ⊢
    by_cases h : v.category = 2
    · simp only [h, if_true, List.length_cons, List.length_nil]; omega
    · simp only [h, if_false, List.length_cons, List.length_nil]; omega
theorem zLa_ent : ∀ (as : List Value) (j i : Nat) (v : Value), (zLa as)[i]? = some v → v ≠ .null → (j + i, v) ∈ lv_args j as
  | [], j, i, v, h, _ => by simp [zLa] at h
  | a :: as, j, i, v, h, hn => by
    simp only [zLa] at h
    simp only [lv_args]
    by_cases hc : a.category = 2
    · rw [if_pos hc] at h ⊢
      match i, h with
      | 0, h => simp only [List.getElem?_cons_zero, Option.some.injEq] at h; subst h; exact List.mem_cons_self
      | 1, h => simp at h; exact absurd h.symm hn
      | i + 2, h =>
        rw [List.getElem?_cons_succ, List.getElem?_cons_succ] at h
        have := zLa_ent as (j + 2) i v h hn
        rw [show j + (i + 2) = j + 2 + i by omega]
        exact List.mem_cons_of_mem _ this
    · rw [if_neg hc] at h ⊢
      match i, h with
      | 0, h => simp only [List.getElem?_cons_zero, Option.some.injEq] at h; subst h; exact List.mem_cons_self
      | i + 1, h =>
        rw [List.getElem?_cons_succ] at h
        have := zLa_ent as (j + 1) i v h hn
        rw [show j + (i + 1) = j + 1 + i by omega]
        exact List.mem_cons_of_mem _ this
theorem Zc.mk {d : Nat} {y : MethodName} {cc : ByteArray} {nL : Nat} {rt : Option FieldType} {as : List Value} {μ : zMu} {τ : Int64} {Q : zQ} (n : Nat) (L : List Value) (hL : zLa as ++ List.replicate n .null = L) (hy : plainName y.cls = true) (hn : L.length ≤ nL) (h : Zw d y.cls cc nL rt Q 0 L [] μ τ) : Zc d y cc nL rt as μ τ Q := by
  refine Zc.of L hy ?_ hn ?_ h
  · rw [zLa_len]
    subst hL
    rw [List.length_append] at hn
    omega
  · intro i v h1 h2
    subst hL
    have h3 := zLa_ent as 0 i v
    rw [Nat.zero_add] at h3
    refine h3 ?_ h2
    rw [List.getElem?_append] at h1
    split at h1
    · exact h1
    · rw [List.getElem?_replicate] at h1
      split at h1
      · cases h1; exact absurd rfl h2
      · cases h1
theorem Zc.imp {d : Nat} {y : MethodName} {cc : ByteArray} {nL : Nat} {rt : Option FieldType} {as : List Value} {μ : zMu} {τ : Int64} {Q Q' : zQ} (hq : ∀ r μ' τ', Q r μ' τ' → Q' r μ' τ') (h : Zc d y cc nL rt as μ τ Q) : Zc d y cc nL rt as μ τ Q' := by
  intro l D ad ac X hD hX p e h1 h2 h3 s m args below hf ha hp hk
  obtain ⟨n, o, a1, a2, a3, ⟨⟨r, μ', τ', e1, e2, e3, e4⟩, hF⟩, hL⟩ := h l D ad ac X hD hX p e h1 h2 h3 s m args below hf ha hp hk
  exact ⟨n, o, a1, a2, a3, ⟨⟨r, μ', τ', e1, hq _ _ _ e2, e3, e4⟩, hF⟩, hL⟩
def zOff (S : List Nat) (μ μ' : zMu) : Prop := ∀ k, k ∉ S → μ' k = μ k
section ZG
variable {d : Nat} {own : String} {cc : ByteArray} {nL : Nat} {rt : Option FieldType} {Q : zQ} {pc : Nat} {L st : List Value} {μ : zMu} {τ : Int64} {idx ci j k : Nat} {cs : List Nat}
theorem Zw_geti (hF : zF own idx ci j) (hd : decode cc pc = .ok (.getfield idx, 3)) (hk : k < 78) (hs : zSh k = .inl (ci, cs)) (hc : cs[j]? = some 0) (h : Zw d own cc nL rt Q (pc + 3) L (.int (μ k j) :: st) μ τ) : Zw d own cc nL rt Q pc L (.ref k :: st) μ τ := Zw_get hF hd hk hs hc rfl h
theorem Zw_getr (q : Nat) (hF : zF own idx ci j) (hd : decode cc pc = .ok (.getfield idx, 3)) (hk : k < 78) (hs : zSh k = .inl (ci, cs)) (hc : cs[j]? = some (q + 3)) (h : Zw d own cc nL rt Q (pc + 3) L (.ref q :: st) μ τ) : Zw d own cc nL rt Q pc L (.ref k :: st) μ τ := Zw_get hF hd hk hs hc rfl h
theorem Zw_getm (hF : zF own idx ci j) (hd : decode cc pc = .ok (.getfield idx, 3)) (hk : k < 78) (hs : zSh k = .inl (ci, cs)) (hc : cs[j]? = some 2) (h : Zw d own cc nL rt Q (pc + 3) L (.ref (μ k j).toNatClampNeg :: st) μ τ) : Zw d own cc nL rt Q pc L (.ref k :: st) μ τ := Zw_get hF hd hk hs hc rfl h
theorem Zw_getl (hF : zF own idx ci j) (hd : decode cc pc = .ok (.getfield idx, 3)) (hk : k < 78) (hs : zSh k = .inl (ci, cs)) (hc : cs[j]? = some 1) (h : Zw d own cc nL rt Q (pc + 3) L (.long τ :: st) μ τ) : Zw d own cc nL rt Q pc L (.ref k :: st) μ τ := Zw_get hF hd hk hs hc rfl h
theorem Zw_getv (x : Int32) (hF : zF own idx ci j) (hd : decode cc pc = .ok (.getfield idx, 3)) (hk : k < 78) (hs : zSh k = .inl (ci, cs)) (hc : cs[j]? = some 0) (hx : μ k j = x) (h : Zw d own cc nL rt Q (pc + 3) L (.int x :: st) μ τ) : Zw d own cc nL rt Q pc L (.ref k :: st) μ τ := Zw_get hF hd hk hs hc (congrArg Value.int hx) h
theorem Zw_ialdv {n : Nat} {i : Int32} (x : Int32) (hd : decode cc pc = .ok (.iaload, 1)) (hk : k < 78) (hs : zSh k = .inr (.inl (.int, n))) (hin : vp_in i n) (hx : μ k i.toNatClampNeg = x) (h : Zw d own cc nL rt Q (pc + 1) L (.int x :: st) μ τ) : Zw d own cc nL rt Q pc L (.int i :: .ref k :: st) μ τ := Zw_iald hd hk hs hin (by rw [hx]; exact h)
theorem Zw_zaldv {n : Nat} {i : Int32} (x : Int32) (hd : decode cc pc = .ok (.baload, 1)) (hk : k < 78) (hs : zSh k = .inr (.inl (.boolean, n))) (hin : vp_in i n) (hx : μ k i.toNatClampNeg = x) (h : Zw d own cc nL rt Q (pc + 1) L (.int x :: st) μ τ) : Zw d own cc nL rt Q pc L (.int i :: .ref k :: st) μ τ := Zw_zald hd hk hs hin (by rw [hx]; exact h)
end ZG
theorem zOff.rf {S : List Nat} {μ : zMu} : zOff S μ μ := fun _ _ => rfl
theorem zOff.tr {S : List Nat} {μ μ1 μ2 : zMu} (h1 : zOff S μ μ1) (h2 : zOff S μ1 μ2) : zOff S μ μ2 := fun k hk => (h2 k hk).trans (h1 k hk)
theorem zOff.sub {S S' : List Nat} {μ μ' : zMu} (h : zOff S μ μ') (hs : ∀ k ∈ S, k ∈ S') : zOff S' μ μ' := fun k hk => h k (fun e => hk (hs k e))
theorem zOff.up {S : List Nat} {μ μ' : zMu} {k j : Nat} {x : Int32} (h : zOff S μ μ') (hk : k ∈ S) : zOff S μ (zup μ' k j x) := fun q hq => by
  rw [zup_ne (fun e => hq (by rw [e]; exact hk))]
  exact h q hq
theorem zOff.ar {S : List Nat} {μ μ' : zMu} {k : Nat} {f : Nat → Int32} (h : zOff S μ μ') (hk : k ∈ S) : zOff S μ (zar μ' k f) := fun q hq => by
  rw [zar_ne (fun e => hq (by rw [e]; exact hk))]
  exact h q hq
theorem zup_at (μ : zMu) (k j : Nat) (x : Int32) (k' j' : Nat) : zup μ k j x k' j' = if k' = k ∧ j' = j then x else μ k' j' := by
  by_cases h : k' = k
  · subst h
    rw [zup_eq]
    by_cases hj : j' = j
    · simp [upd, hj]
    · simp [upd, hj]
  · rw [zup_ne h]
    simp [h]
theorem lg_lt (x y : Int64) : lg_cmp x y < 0 ↔ x.toInt < y.toInt := by
  unfold lg_cmp
  split
  · rename_i h
    have h1 := Int64.lt_iff_toInt_lt.mp h
    constructor
    · intro h2; exact absurd h2 (by decide)
    · intro h2; omega
  · split
    · rename_i h1 h2
      subst h2
      constructor
      · intro h2; exact absurd h2 (by decide)
      · intro h2; omega
    · rename_i h1 h2
      have h3 : ¬ y.toInt < x.toInt := fun e => h1 (Int64.lt_iff_toInt_lt.mpr e)
      have h4 : x.toInt ≠ y.toInt := fun e => h2 (Int64.toInt_inj.mp e)
      constructor
      · intro _; omega
      · intro _; decide
theorem lg_gt (x y : Int64) : 0 < lg_cmp x y ↔ y.toInt < x.toInt := by
  unfold lg_cmp
  split
  · rename_i h
    have h1 := Int64.lt_iff_toInt_lt.mp h
    constructor
    · intro _; exact h1
    · intro _; decide
  · split
    · rename_i h1 h2
      subst h2
      constructor
      · intro h2; exact absurd h2 (by decide)
      · intro h2; omega
    · rename_i h1 h2
      have h3 : ¬ y.toInt < x.toInt := fun e => h1 (Int64.lt_iff_toInt_lt.mpr e)
      constructor
      · intro h2; exact absurd h2 (by decide)
      · intro h2; exact absurd h2 h3
theorem lg_e (x y : Int64) : lg_cmp x y = 0 ↔ x = y := by
  unfold lg_cmp
  split
  · rename_i h
    have h1 := Int64.lt_iff_toInt_lt.mp h
    constructor
    · intro h2; exact absurd h2 (by decide)
    · intro h2; subst h2; omega
  · split
    · rename_i h1 h2
      exact ⟨fun _ => h2, fun _ => rfl⟩
    · rename_i h1 h2
      constructor
      · intro h3; exact absurd h3 (by decide)
      · intro h3; exact absurd h3 h2
theorem z32 (x : Int32) : x.toInt64.toInt = x.toInt := Int32.toInt_toInt64 x
set_option maxRecDepth 20000 in
theorem s_within {v b : Int32} {Q : zQ} {μ : zMu} {τ : Int64} (n : Nat) (hb : b.toInt = n) (h1 : vp_in v n → Q (some (.int 1)) μ τ) (h0 : ¬ vp_in v n → Q (some (.int 0)) μ τ) : Zc 0 yX10_within cX10_within 2 (some .boolean) [.int v, .int b] μ τ Q := by
  refine Zc.mk 0 [.int v, .int b] rfl (by decide) (Nat.le_of_ble_eq_true rfl) ?_
  refine Zw_iload_0 dX10_within_0 ?_
  refine Zw_if_lt 13 dX10_within_1 (by decide) (fun c1 => ?_) (fun c1 => ?_)
  · refine Zw_iconst (v := 0) dX10_within_13 (by decide) ?_
    refine Zw_ireturn dX10_within_14 (by first | rfl | assumption) ?_
    exact h0 (fun e => by have e2 := vp_in_iff.mp e; have := Int32.lt_iff_toInt_lt.mp c1; simp at this; omega)
  · refine Zw_iload_0 dX10_within_4 ?_
    refine Zw_iload_1 dX10_within_5 ?_
    refine Zw_icmp_ge 13 dX10_within_6 (by decide) (fun c6 => ?_) (fun c6 => ?_)
    · refine Zw_iconst (v := 0) dX10_within_13 (by decide) ?_
      refine Zw_ireturn dX10_within_14 (by first | rfl | assumption) ?_
      exact h0 (fun e => by have e2 := vp_in_iff.mp e; have := Int32.le_iff_toInt_le.mp c6; omega)
    · refine Zw_iconst (v := 1) dX10_within_9 (by decide) ?_
      refine Zw_goto 14 dX10_within_10 (by decide) ?_
      refine Zw_ireturn dX10_within_14 (by first | rfl | assumption) ?_
      exact h1 (vp_in_iff.mpr ⟨by have h6 : ¬ v.toInt < (0 : Int32).toInt := fun e => c1 (Int32.lt_iff_toInt_lt.mpr e); simp at h6; omega, by have h6 : ¬ b.toInt ≤ v.toInt := fun e => c6 (Int32.le_iff_toInt_le.mpr e); omega⟩)
set_option maxRecDepth 20000 in
theorem s_in {v a b : Int64} {Q : zQ} {μ : zMu} {τ : Int64} (h1 : a.toInt ≤ v.toInt → v.toInt ≤ b.toInt → Q (some (.int 1)) μ τ) (h0 : ¬ (a.toInt ≤ v.toInt ∧ v.toInt ≤ b.toInt) → Q (some (.int 0)) μ τ) : Zc 0 yX11_in cX11_in 6 (some .boolean) [.long v, .long a, .long b] μ τ Q := by
  refine Zc.mk 0 [.long v, .null, .long a, .null, .long b, .null] rfl (by decide) (Nat.le_of_ble_eq_true rfl) ?_
  refine Zw_lload_0 dX11_in_0 ?_
  refine Zw_lload_2 dX11_in_1 ?_
  refine Zw_lcmp dX11_in_2 ?_
  refine Zw_if_lt 17 dX11_in_3 (by decide) (fun c3 => ?_) (fun c3 => ?_)
  · refine Zw_iconst (v := 0) dX11_in_17 (by decide) ?_
    refine Zw_ireturn dX11_in_18 (by first | rfl | assumption) ?_
    first | exact h1 (by simp only [lg_lt, lg_gt] at *; omega) (by simp only [lg_lt, lg_gt] at *; omega) | exact h0 (by simp only [lg_lt, lg_gt] at *; omega)
  · refine Zw_lload_0 dX11_in_6 ?_
    refine Zw_lload_4 dX11_in_7 ?_
    refine Zw_lcmp dX11_in_9 ?_
    refine Zw_if_gt 17 dX11_in_10 (by decide) (fun c10 => ?_) (fun c10 => ?_)
    · refine Zw_iconst (v := 0) dX11_in_17 (by decide) ?_
      refine Zw_ireturn dX11_in_18 (by first | rfl | assumption) ?_
      first | exact h1 (by simp only [lg_lt, lg_gt] at *; omega) (by simp only [lg_lt, lg_gt] at *; omega) | exact h0 (by simp only [lg_lt, lg_gt] at *; omega)
    · refine Zw_iconst (v := 1) dX11_in_13 (by decide) ?_
      refine Zw_goto 18 dX11_in_14 (by decide) ?_
      refine Zw_ireturn dX11_in_18 (by first | rfl | assumption) ?_
      first | exact h1 (by simp only [lg_lt, lg_gt] at *; omega) (by simp only [lg_lt, lg_gt] at *; omega) | exact h0 (by simp only [lg_lt, lg_gt] at *; omega)
set_option maxRecDepth 20000 in
theorem s_isPlace {v : Int32} {Q : zQ} {μ : zMu} {τ : Int64} (h1 : vp_in v 8 → Q (some (.int 1)) μ τ) (h0 : ¬ vp_in v 8 → Q (some (.int 0)) μ τ) : Zc 1 yX11_isPlace cX11_isPlace 1 (some .boolean) [.int v] μ τ Q := by
  refine Zc.mk 0 [.int v] rfl (by decide) (Nat.le_of_ble_eq_true rfl) ?_
  refine Zw_iload_0 dX11_isPlace_0 ?_
  refine Zw_i2l dX11_isPlace_1 ?_
  refine Zw_lconst (v := 0) dX11_isPlace_2 (by decide) ?_
  refine Zw_ldc2 dX11_isPlace_3 zw27 ?_
  refine Zw_S3 (k := 0) lm_X11_76 dX11_isPlace_6 (by decide) (Nat.le_of_ble_eq_true rfl) ?_
  refine s_in (fun a1 a2 => ?_) (fun a1 => ?_)
  · refine Zw_ireturn dX11_isPlace_9 (by first | rfl | assumption) ?_
    exact h1 (vp_in_iff.mpr (by rw [z32] at *; simp at *; omega))
  · refine Zw_ireturn dX11_isPlace_9 (by first | rfl | assumption) ?_
    exact h0 (fun e => a1 (by have e2 := vp_in_iff.mp e; rw [z32]; simp at *; omega))
set_option maxRecDepth 20000 in
theorem s_isSheet {v : Int32} {Q : zQ} {μ : zMu} {τ : Int64} (h1 : vp_in v 4 → Q (some (.int 1)) μ τ) (h0 : ¬ vp_in v 4 → Q (some (.int 0)) μ τ) : Zc 1 yX11_isSheet cX11_isSheet 1 (some .boolean) [.int v] μ τ Q := by
  refine Zc.mk 0 [.int v] rfl (by decide) (Nat.le_of_ble_eq_true rfl) ?_
  refine Zw_iload_0 dX11_isSheet_0 ?_
  refine Zw_i2l dX11_isSheet_1 ?_
  refine Zw_lconst (v := 0) dX11_isSheet_2 (by decide) ?_
  refine Zw_ldc2 dX11_isSheet_3 zw21 ?_
  refine Zw_S3 (k := 0) lm_X11_76 dX11_isSheet_6 (by decide) (Nat.le_of_ble_eq_true rfl) ?_
  refine s_in (fun a1 a2 => ?_) (fun a1 => ?_)
  · refine Zw_ireturn dX11_isSheet_9 (by first | rfl | assumption) ?_
    exact h1 (vp_in_iff.mpr (by rw [z32] at *; simp at *; omega))
  · refine Zw_ireturn dX11_isSheet_9 (by first | rfl | assumption) ?_
    exact h0 (fun e => a1 (by have e2 := vp_in_iff.mp e; rw [z32]; simp at *; omega))
set_option maxRecDepth 20000 in
theorem s_after {x : Int32} {Q : zQ} {μ : zMu} {τ : Int64} (h : Q (some (.int (x * 1103515245 + 12345))) μ τ) : Zc 0 yX1_after cX1_after 1 (some .int) [.int x] μ τ Q := by
  refine Zc.mk 0 [.int x] rfl (by decide) (Nat.le_of_ble_eq_true rfl) ?_
  refine Zw_iload_0 dX1_after_0 ?_
  refine Zw_ldc dX1_after_1 zw0 ?_
  refine Zw_imul dX1_after_3 ?_
  refine Zw_sipush (v := 12345) dX1_after_4 (by decide) ?_
  refine Zw_iadd dX1_after_7 ?_
  refine Zw_ireturn dX1_after_8 (by first | rfl | assumption) ?_
  exact h
set_option maxRecDepth 20000 in
theorem s_x_isLetter {x : Int32} {Q : zQ} {μ : zMu} {τ : Int64} (h1 : 97 ≤ x.toInt → x.toInt ≤ 122 → Q (some (.int 1)) μ τ) (h0 : ¬ (97 ≤ x.toInt ∧ x.toInt ≤ 122) → Q (some (.int 0)) μ τ) : Zc 0 yX6_isLetter cX6_isLetter 1 (some .boolean) [.int x] μ τ Q := by
  refine Zc.mk 0 [.int x] rfl (by decide) (Nat.le_of_ble_eq_true rfl) ?_
  refine Zw_iload_0 dX6_isLetter_0 ?_
  refine Zw_bipush (v := 97) dX6_isLetter_1 (by decide) ?_
  refine Zw_icmp_lt 16 dX6_isLetter_3 (by decide) (fun c3 => ?_) (fun c3 => ?_)
  · refine Zw_iconst (v := 0) dX6_isLetter_16 (by decide) ?_
    refine Zw_ireturn dX6_isLetter_17 (by first | rfl | assumption) ?_
    first | exact h1 (by simp only [Int32.lt_iff_toInt_lt, Int32.le_iff_toInt_le] at *; simp at *; omega) (by simp only [Int32.lt_iff_toInt_lt, Int32.le_iff_toInt_le] at *; simp at *; omega) | exact h0 (by simp only [Int32.lt_iff_toInt_lt, Int32.le_iff_toInt_le] at *; simp at *; omega)
  · refine Zw_iload_0 dX6_isLetter_6 ?_
    refine Zw_bipush (v := 122) dX6_isLetter_7 (by decide) ?_
    refine Zw_icmp_gt 16 dX6_isLetter_9 (by decide) (fun c9 => ?_) (fun c9 => ?_)
    · refine Zw_iconst (v := 0) dX6_isLetter_16 (by decide) ?_
      refine Zw_ireturn dX6_isLetter_17 (by first | rfl | assumption) ?_
      first | exact h1 (by simp only [Int32.lt_iff_toInt_lt, Int32.le_iff_toInt_le] at *; simp at *; omega) (by simp only [Int32.lt_iff_toInt_lt, Int32.le_iff_toInt_le] at *; simp at *; omega) | exact h0 (by simp only [Int32.lt_iff_toInt_lt, Int32.le_iff_toInt_le] at *; simp at *; omega)
    · refine Zw_iconst (v := 1) dX6_isLetter_12 (by decide) ?_
      refine Zw_goto 17 dX6_isLetter_13 (by decide) ?_
      refine Zw_ireturn dX6_isLetter_17 (by first | rfl | assumption) ?_
      first | exact h1 (by simp only [Int32.lt_iff_toInt_lt, Int32.le_iff_toInt_le] at *; simp at *; omega) (by simp only [Int32.lt_iff_toInt_lt, Int32.le_iff_toInt_le] at *; simp at *; omega) | exact h0 (by simp only [Int32.lt_iff_toInt_lt, Int32.le_iff_toInt_le] at *; simp at *; omega)
set_option maxRecDepth 20000 in
theorem s_x_isDigit {x : Int32} {Q : zQ} {μ : zMu} {τ : Int64} (h1 : 48 ≤ x.toInt → x.toInt ≤ 57 → Q (some (.int 1)) μ τ) (h0 : ¬ (48 ≤ x.toInt ∧ x.toInt ≤ 57) → Q (some (.int 0)) μ τ) : Zc 0 yX6_isDigit cX6_isDigit 1 (some .boolean) [.int x] μ τ Q := by
  refine Zc.mk 0 [.int x] rfl (by decide) (Nat.le_of_ble_eq_true rfl) ?_
  refine Zw_iload_0 dX6_isDigit_0 ?_
  refine Zw_bipush (v := 48) dX6_isDigit_1 (by decide) ?_
  refine Zw_icmp_lt 16 dX6_isDigit_3 (by decide) (fun c3 => ?_) (fun c3 => ?_)
  · refine Zw_iconst (v := 0) dX6_isDigit_16 (by decide) ?_
    refine Zw_ireturn dX6_isDigit_17 (by first | rfl | assumption) ?_
    first | exact h1 (by simp only [Int32.lt_iff_toInt_lt, Int32.le_iff_toInt_le] at *; simp at *; omega) (by simp only [Int32.lt_iff_toInt_lt, Int32.le_iff_toInt_le] at *; simp at *; omega) | exact h0 (by simp only [Int32.lt_iff_toInt_lt, Int32.le_iff_toInt_le] at *; simp at *; omega)
  · refine Zw_iload_0 dX6_isDigit_6 ?_
    refine Zw_bipush (v := 57) dX6_isDigit_7 (by decide) ?_
    refine Zw_icmp_gt 16 dX6_isDigit_9 (by decide) (fun c9 => ?_) (fun c9 => ?_)
    · refine Zw_iconst (v := 0) dX6_isDigit_16 (by decide) ?_
      refine Zw_ireturn dX6_isDigit_17 (by first | rfl | assumption) ?_
      first | exact h1 (by simp only [Int32.lt_iff_toInt_lt, Int32.le_iff_toInt_le] at *; simp at *; omega) (by simp only [Int32.lt_iff_toInt_lt, Int32.le_iff_toInt_le] at *; simp at *; omega) | exact h0 (by simp only [Int32.lt_iff_toInt_lt, Int32.le_iff_toInt_le] at *; simp at *; omega)
    · refine Zw_iconst (v := 1) dX6_isDigit_12 (by decide) ?_
      refine Zw_goto 17 dX6_isDigit_13 (by decide) ?_
      refine Zw_ireturn dX6_isDigit_17 (by first | rfl | assumption) ?_
      first | exact h1 (by simp only [Int32.lt_iff_toInt_lt, Int32.le_iff_toInt_le] at *; simp at *; omega) (by simp only [Int32.lt_iff_toInt_lt, Int32.le_iff_toInt_le] at *; simp at *; omega) | exact h0 (by simp only [Int32.lt_iff_toInt_lt, Int32.le_iff_toInt_le] at *; simp at *; omega)
set_option maxRecDepth 20000 in
theorem s_x_counts {x : Int32} {Q : zQ} {μ : zMu} {τ : Int64} (h1 : (x = 10 ∨ x = 3 ∨ x = 9) → Q (some (.int 1)) μ τ) (h0 : ¬ (x = 10 ∨ x = 3 ∨ x = 9) → Q (some (.int 0)) μ τ) : Zc 0 yX6_counts cX6_counts 1 (some .boolean) [.int x] μ τ Q := by
  refine Zc.mk 0 [.int x] rfl (by decide) (Nat.le_of_ble_eq_true rfl) ?_
  refine Zw_iload_0 dX6_counts_0 ?_
  refine Zw_bipush (v := 10) dX6_counts_1 (by decide) ?_
  refine Zw_icmp_eq 17 dX6_counts_3 (by decide) (fun c3 => ?_) (fun c3 => ?_)
  · refine Zw_iconst (v := 1) dX6_counts_17 (by decide) ?_
    refine Zw_goto 22 dX6_counts_18 (by decide) ?_
    refine Zw_ireturn dX6_counts_22 (by first | rfl | assumption) ?_
    first | exact h1 (by simp [*]) | exact h0 (by simp [*])
  · refine Zw_iload_0 dX6_counts_6 ?_
    refine Zw_iconst (v := 3) dX6_counts_7 (by decide) ?_
    refine Zw_icmp_eq 17 dX6_counts_8 (by decide) (fun c8 => ?_) (fun c8 => ?_)
    · refine Zw_iconst (v := 1) dX6_counts_17 (by decide) ?_
      refine Zw_goto 22 dX6_counts_18 (by decide) ?_
      refine Zw_ireturn dX6_counts_22 (by first | rfl | assumption) ?_
      first | exact h1 (by simp [*]) | exact h0 (by simp [*])
    · refine Zw_iload_0 dX6_counts_11 ?_
      refine Zw_bipush (v := 9) dX6_counts_12 (by decide) ?_
      refine Zw_icmp_ne 21 dX6_counts_14 (by decide) (fun c14 => ?_) (fun c14 => ?_)
      · refine Zw_iconst (v := 0) dX6_counts_21 (by decide) ?_
        refine Zw_ireturn dX6_counts_22 (by first | rfl | assumption) ?_
        first | exact h1 (by simp [*]) | exact h0 (by simp [*])
      · refine Zw_iconst (v := 1) dX6_counts_17 (by decide) ?_
        refine Zw_goto 22 dX6_counts_18 (by decide) ?_
        refine Zw_ireturn dX6_counts_22 (by first | rfl | assumption) ?_
        first | exact h1 (by simp [*]) | exact h0 (by simp [*])
def q_bc (x : Int32) : Int32 :=
  let a := x - ((x.toUInt32 >>> (Int32.toUInt32 1 &&& Int32.toUInt32 31)).toInt32 &&& 1431655765)
  let b := (a &&& 858993459) + ((a.toUInt32 >>> (Int32.toUInt32 2 &&& Int32.toUInt32 31)).toInt32 &&& 858993459)
  let c := (b + (b.toUInt32 >>> (Int32.toUInt32 4 &&& Int32.toUInt32 31)).toInt32) &&& 252645135
  let e := c + (c.toUInt32 >>> (Int32.toUInt32 8 &&& Int32.toUInt32 31)).toInt32
  (e + (e.toUInt32 >>> (Int32.toUInt32 16 &&& Int32.toUInt32 31)).toInt32) &&& 63
def pop8 (n : Nat) : Nat := n % 2 + n / 2 % 2 + n / 4 % 2 + n / 8 % 2 + n / 16 % 2 + n / 32 % 2 + n / 64 % 2 + n / 128 % 2
theorem q_bc_pop : ∀ n, n < 256 → q_bc (nI n) = nI (pop8 n) := by decide +kernel
set_option maxRecDepth 20000 in
theorem s_bitCount {x : Int32} {Q : zQ} {μ : zMu} {τ : Int64} (h : Q (some (.int (q_bc x))) μ τ) : Zc 0 yJ6_bitCount_0f7a4 cJ6_bitCount_0f7a4 1 (some .int) [.int x] μ τ Q := by
  refine Zc.mk 0 [.int x] rfl (by decide) (Nat.le_of_ble_eq_true rfl) ?_
  refine Zw_iload_0 dJ6_bitCount_0f7a4_0 ?_
  refine Zw_iload_0 dJ6_bitCount_0f7a4_1 ?_
  refine Zw_iconst (v := 1) dJ6_bitCount_0f7a4_2 (by decide) ?_
  refine Zw_iushr dJ6_bitCount_0f7a4_3 ?_
  refine Zw_ldcw dJ6_bitCount_0f7a4_4 zw5 ?_
  refine Zw_iand dJ6_bitCount_0f7a4_7 ?_
  refine Zw_isub dJ6_bitCount_0f7a4_8 ?_
  refine Zw_istore_0 dJ6_bitCount_0f7a4_9 ?_
  refine Zw_iload_0 dJ6_bitCount_0f7a4_10 ?_
  refine Zw_ldcw dJ6_bitCount_0f7a4_11 zw6 ?_
  refine Zw_iand dJ6_bitCount_0f7a4_14 ?_
  refine Zw_iload_0 dJ6_bitCount_0f7a4_15 ?_
  refine Zw_iconst (v := 2) dJ6_bitCount_0f7a4_16 (by decide) ?_
  refine Zw_iushr dJ6_bitCount_0f7a4_17 ?_
  refine Zw_ldcw dJ6_bitCount_0f7a4_18 zw6 ?_
  refine Zw_iand dJ6_bitCount_0f7a4_21 ?_
  refine Zw_iadd dJ6_bitCount_0f7a4_22 ?_
  refine Zw_istore_0 dJ6_bitCount_0f7a4_23 ?_
  refine Zw_iload_0 dJ6_bitCount_0f7a4_24 ?_
  refine Zw_iload_0 dJ6_bitCount_0f7a4_25 ?_
  refine Zw_iconst (v := 4) dJ6_bitCount_0f7a4_26 (by decide) ?_
  refine Zw_iushr dJ6_bitCount_0f7a4_27 ?_
  refine Zw_iadd dJ6_bitCount_0f7a4_28 ?_
  refine Zw_ldcw dJ6_bitCount_0f7a4_29 zw7 ?_
  refine Zw_iand dJ6_bitCount_0f7a4_32 ?_
  refine Zw_istore_0 dJ6_bitCount_0f7a4_33 ?_
  refine Zw_iload_0 dJ6_bitCount_0f7a4_34 ?_
  refine Zw_iload_0 dJ6_bitCount_0f7a4_35 ?_
  refine Zw_bipush (v := 8) dJ6_bitCount_0f7a4_36 (by decide) ?_
  refine Zw_iushr dJ6_bitCount_0f7a4_38 ?_
  refine Zw_iadd dJ6_bitCount_0f7a4_39 ?_
  refine Zw_istore_0 dJ6_bitCount_0f7a4_40 ?_
  refine Zw_iload_0 dJ6_bitCount_0f7a4_41 ?_
  refine Zw_iload_0 dJ6_bitCount_0f7a4_42 ?_
  refine Zw_bipush (v := 16) dJ6_bitCount_0f7a4_43 (by decide) ?_
  refine Zw_iushr dJ6_bitCount_0f7a4_45 ?_
  refine Zw_iadd dJ6_bitCount_0f7a4_46 ?_
  refine Zw_istore_0 dJ6_bitCount_0f7a4_47 ?_
  refine Zw_iload_0 dJ6_bitCount_0f7a4_48 ?_
  refine Zw_bipush (v := 63) dJ6_bitCount_0f7a4_49 (by decide) ?_
  refine Zw_iand dJ6_bitCount_0f7a4_51 ?_
  refine Zw_ireturn dJ6_bitCount_0f7a4_52 (by first | rfl | assumption) ?_
  exact h
section ZN
variable {d : Nat} {own : String} {cc : ByteArray} {nL : Nat} {rt : Option FieldType} {Q : zQ} {pc : Nat} {L st : List Value} {μ : zMu} {τ : Int64} {k n : Nat} {i x y : Int32}
theorem zincn (a : Nat) : nI a + Int32.ofInt 1 = nI (a + 1) := nI_1 a
theorem Zw_ialdn (a : Nat) (hd : decode cc pc = .ok (.iaload, 1)) (hk : k < 78) (hs : zSh k = .inr (.inl (.int, n))) (hi : i = nI a) (ha : a < n) (hn : n < 2 ^ 31) (h : Zw d own cc nL rt Q (pc + 1) L (.int (μ k a) :: st) μ τ) : Zw d own cc nL rt Q pc L (.int i :: .ref k :: st) μ τ := by
  subst hi
  exact Zw_iald hd hk hs (vp_in_nI ha hn) (by rw [nI_clamp (Nat.lt_trans ha hn)]; exact h)
theorem Zw_ialdnv (a : Nat) (v : Int32) (hd : decode cc pc = .ok (.iaload, 1)) (hk : k < 78) (hs : zSh k = .inr (.inl (.int, n))) (hi : i = nI a) (ha : a < n) (hn : n < 2 ^ 31) (hv : μ k a = v) (h : Zw d own cc nL rt Q (pc + 1) L (.int v :: st) μ τ) : Zw d own cc nL rt Q pc L (.int i :: .ref k :: st) μ τ := Zw_ialdn a hd hk hs hi ha hn (by rw [hv]; exact h)
theorem Zw_zaldn (a : Nat) (hd : decode cc pc = .ok (.baload, 1)) (hk : k < 78) (hs : zSh k = .inr (.inl (.boolean, n))) (hi : i = nI a) (ha : a < n) (hn : n < 2 ^ 31) (h : Zw d own cc nL rt Q (pc + 1) L (.int (μ k a) :: st) μ τ) : Zw d own cc nL rt Q pc L (.int i :: .ref k :: st) μ τ := by
  subst hi
  exact Zw_zald hd hk hs (vp_in_nI ha hn) (by rw [nI_clamp (Nat.lt_trans ha hn)]; exact h)
theorem Zw_zaldnv (a : Nat) (v : Int32) (hd : decode cc pc = .ok (.baload, 1)) (hk : k < 78) (hs : zSh k = .inr (.inl (.boolean, n))) (hi : i = nI a) (ha : a < n) (hn : n < 2 ^ 31) (hv : μ k a = v) (h : Zw d own cc nL rt Q (pc + 1) L (.int v :: st) μ τ) : Zw d own cc nL rt Q pc L (.int i :: .ref k :: st) μ τ := Zw_zaldn a hd hk hs hi ha hn (by rw [hv]; exact h)
theorem Zw_iastn (a : Nat) (hd : decode cc pc = .ok (.iastore, 1)) (hk : k < 78) (hs : zSh k = .inr (.inl (.int, n))) (hi : i = nI a) (ha : a < n) (hn : n < 2 ^ 31) (h : Zw d own cc nL rt Q (pc + 1) L st (zup μ k a x) τ) : Zw d own cc nL rt Q pc L (.int x :: .int i :: .ref k :: st) μ τ := by
  subst hi
  exact Zw_iast hd hk hs (vp_in_nI ha hn) (by rw [nI_clamp (Nat.lt_trans ha hn)]; exact h)
theorem Zw_zastn (a : Nat) (hd : decode cc pc = .ok (.bastore, 1)) (hk : k < 78) (hs : zSh k = .inr (.inl (.boolean, n))) (hi : i = nI a) (ha : a < n) (hn : n < 2 ^ 31) (h : Zw d own cc nL rt Q (pc + 1) L st (zup μ k a (vp_nar .boolean x)) τ) : Zw d own cc nL rt Q pc L (.int x :: .int i :: .ref k :: st) μ τ := by
  subst hi
  exact Zw_zast hd hk hs (vp_in_nI ha hn) (by rw [nI_clamp (Nat.lt_trans ha hn)]; exact h)
theorem Zw_aaldn (a q : Nat) {C : String} {ps : List Nat} (hd : decode cc pc = .ok (.aaload, 1)) (hk : k < 78) (hs : zSh k = .inr (.inr (C, ps))) (hi : i = nI a) (ha : a < 2 ^ 31) (hq : ps[a]? = some q) (hn : ps.length < 2 ^ 31) (h : Zw d own cc nL rt Q (pc + 1) L (.ref q :: st) μ τ) : Zw d own cc nL rt Q pc L (.int i :: .ref k :: st) μ τ := by
  subst hi
  exact Zw_aald hd hk hs (vp_in_nI (List.getElem?_eq_some_iff.mp hq).1 hn) (by rw [nI_clamp ha]; exact hq) h
theorem Zw_nadd (a b : Nat) (hd : decode cc pc = .ok (.iadd, 1)) (hx : x = nI a) (hy : y = nI b) (h : Zw d own cc nL rt Q (pc + 1) L (.int (nI (a + b)) :: st) μ τ) : Zw d own cc nL rt Q pc L (.int y :: .int x :: st) μ τ := by
  subst hx; subst hy
  exact Zw_iadd hd (by rw [nI_add]; exact h)
theorem Zw_nmul (a b : Nat) (hd : decode cc pc = .ok (.imul, 1)) (hx : x = nI a) (hy : y = nI b) (h : Zw d own cc nL rt Q (pc + 1) L (.int (nI (a * b)) :: st) μ τ) : Zw d own cc nL rt Q pc L (.int y :: .int x :: st) μ τ := by
  subst hx; subst hy
  exact Zw_imul hd (by rw [pk_mul]; exact h)
theorem Zw_nsub (a b : Nat) (hd : decode cc pc = .ok (.isub, 1)) (hx : x = nI a) (hy : y = nI b) (hab : b ≤ a) (h : Zw d own cc nL rt Q (pc + 1) L (.int (nI (a - b)) :: st) μ τ) : Zw d own cc nL rt Q pc L (.int y :: .int x :: st) μ τ := by
  subst hx; subst hy
  exact Zw_isub hd (by rw [pk_sub hab]; exact h)
theorem Zw_ndiv (a b : Nat) (hd : decode cc pc = .ok (.idiv, 1)) (hx : x = nI a) (hy : y = nI b) (ha : a < 2 ^ 31) (hb : 0 < b) (hb2 : b < 2 ^ 31) (h : Zw d own cc nL rt Q (pc + 1) L (.int (nI (a / b)) :: st) μ τ) : Zw d own cc nL rt Q pc L (.int y :: .int x :: st) μ τ := by
  subst hx; subst hy
  exact Zw_idiv hd (nI_ne0 hb hb2) (by rw [pk_div ha hb hb2]; exact h)
theorem Zw_nrem (a b : Nat) (hd : decode cc pc = .ok (.irem, 1)) (hx : x = nI a) (hy : y = nI b) (ha : a < 2 ^ 31) (hb : 0 < b) (hb2 : b < 2 ^ 31) (h : Zw d own cc nL rt Q (pc + 1) L (.int (nI (a % b)) :: st) μ τ) : Zw d own cc nL rt Q pc L (.int y :: .int x :: st) μ τ := by
  subst hx; subst hy
  exact Zw_irem hd (nI_ne0 hb hb2) (by rw [pk_rem ha hb hb2]; exact h)
theorem Zw_nicmp_eq {off : Int} (a b : Nat) (tgt : Nat) (hd : decode cc pc = .ok (.if_icmp .eq off, 3)) (ht : (pc : Int) + off = (tgt : Int)) (hx : x = nI a) (hy : y = nI b) (ha : a < 2 ^ 31) (hb : b < 2 ^ 31) (h1 : a = b → Zw d own cc nL rt Q tgt L st μ τ) (h2 : a ≠ b → Zw d own cc nL rt Q (pc + 3) L st μ τ) : Zw d own cc nL rt Q pc L (.int y :: .int x :: st) μ τ := by
  subst hx; subst hy
  exact Zw_icmp_eq tgt hd ht (fun c => h1 ((nI_eq ha hb).mp c)) (fun c => h2 (fun e => c ((nI_eq ha hb).mpr e)))
theorem Zw_nicmp_ne {off : Int} (a b : Nat) (tgt : Nat) (hd : decode cc pc = .ok (.if_icmp .ne off, 3)) (ht : (pc : Int) + off = (tgt : Int)) (hx : x = nI a) (hy : y = nI b) (ha : a < 2 ^ 31) (hb : b < 2 ^ 31) (h1 : a ≠ b → Zw d own cc nL rt Q tgt L st μ τ) (h2 : a = b → Zw d own cc nL rt Q (pc + 3) L st μ τ) : Zw d own cc nL rt Q pc L (.int y :: .int x :: st) μ τ := by
  subst hx; subst hy
  exact Zw_icmp_ne tgt hd ht (fun c => h1 (fun e => c ((nI_eq ha hb).mpr e))) (fun c => h2 ((nI_eq ha hb).mp c))
theorem Zw_nicmp_lt {off : Int} (a b : Nat) (tgt : Nat) (hd : decode cc pc = .ok (.if_icmp .lt off, 3)) (ht : (pc : Int) + off = (tgt : Int)) (hx : x = nI a) (hy : y = nI b) (ha : a < 2 ^ 31) (hb : b < 2 ^ 31) (h1 : a < b → Zw d own cc nL rt Q tgt L st μ τ) (h2 : b ≤ a → Zw d own cc nL rt Q (pc + 3) L st μ τ) : Zw d own cc nL rt Q pc L (.int y :: .int x :: st) μ τ := by
  subst hx; subst hy
  exact Zw_icmp_lt tgt hd ht (fun c => h1 ((nI_ltI ha hb).mp c)) (fun c => h2 (Nat.not_lt.mp (fun e => c ((nI_ltI ha hb).mpr e))))
theorem Zw_nicmp_ge {off : Int} (a b : Nat) (tgt : Nat) (hd : decode cc pc = .ok (.if_icmp .ge off, 3)) (ht : (pc : Int) + off = (tgt : Int)) (hx : x = nI a) (hy : y = nI b) (ha : a < 2 ^ 31) (hb : b < 2 ^ 31) (h1 : b ≤ a → Zw d own cc nL rt Q tgt L st μ τ) (h2 : a < b → Zw d own cc nL rt Q (pc + 3) L st μ τ) : Zw d own cc nL rt Q pc L (.int y :: .int x :: st) μ τ := by
  subst hx; subst hy
  exact Zw_icmp_ge tgt hd ht (fun c => h1 ((nI_leI hb ha).mp c)) (fun c => h2 (Nat.not_le.mp (fun e => c ((nI_leI hb ha).mpr e))))
theorem Zw_nicmp_gt {off : Int} (a b : Nat) (tgt : Nat) (hd : decode cc pc = .ok (.if_icmp .gt off, 3)) (ht : (pc : Int) + off = (tgt : Int)) (hx : x = nI a) (hy : y = nI b) (ha : a < 2 ^ 31) (hb : b < 2 ^ 31) (h1 : b < a → Zw d own cc nL rt Q tgt L st μ τ) (h2 : a ≤ b → Zw d own cc nL rt Q (pc + 3) L st μ τ) : Zw d own cc nL rt Q pc L (.int y :: .int x :: st) μ τ := by
  subst hx; subst hy
  exact Zw_icmp_gt tgt hd ht (fun c => h1 ((nI_ltI hb ha).mp c)) (fun c => h2 (Nat.not_lt.mp (fun e => c ((nI_ltI hb ha).mpr e))))
theorem Zw_nicmp_le {off : Int} (a b : Nat) (tgt : Nat) (hd : decode cc pc = .ok (.if_icmp .le off, 3)) (ht : (pc : Int) + off = (tgt : Int)) (hx : x = nI a) (hy : y = nI b) (ha : a < 2 ^ 31) (hb : b < 2 ^ 31) (h1 : a ≤ b → Zw d own cc nL rt Q tgt L st μ τ) (h2 : b < a → Zw d own cc nL rt Q (pc + 3) L st μ τ) : Zw d own cc nL rt Q pc L (.int y :: .int x :: st) μ τ := by
  subst hx; subst hy
  exact Zw_icmp_le tgt hd ht (fun c => h1 ((nI_leI ha hb).mp c)) (fun c => h2 (Nat.not_le.mp (fun e => c ((nI_leI ha hb).mpr e))))
end ZN
theorem zle {N i : Nat} {a : Int32} (ha : a = nI N) (hN : N < 2 ^ 31) (hi : i < 2 ^ 31) : a ≤ nI i ↔ N ≤ i := by rw [ha]; exact nI_leI hN hi
theorem zlt {N i : Nat} {a : Int32} (ha : a = nI N) (hN : N < 2 ^ 31) (hi : i < 2 ^ 31) : nI i < a ↔ i < N := by rw [ha]; exact nI_ltI hi hN
theorem zgt {N i : Nat} {a : Int32} (ha : a = nI N) (hN : N < 2 ^ 31) (hi : i < 2 ^ 31) : a < nI i ↔ N < i := by rw [ha]; exact nI_ltI hN hi
theorem zle2 {N i : Nat} {a : Int32} (ha : a = nI N) (hN : N < 2 ^ 31) (hi : i < 2 ^ 31) : nI i ≤ a ↔ i ≤ N := by rw [ha]; exact nI_leI hi hN
theorem zeq {N i : Nat} {a : Int32} (ha : a = nI N) (hN : N < 2 ^ 31) (hi : i < 2 ^ 31) : nI i = a ↔ i = N := by rw [ha]; exact nI_eq hi hN
theorem zlit {x : Int32} {k : Int} (h : x.toInt = k) : x = Int32.ofInt k := by rw [← h]; exact (Int32.ofInt_toInt x).symm
section ZSW
variable {d : Nat} {own : String} {cc : ByteArray} {nL : Nat} {rt : Option FieldType} {Q : zQ} {pc : Nat} {L st : List Value} {μ : zMu} {τ : Int64}
theorem Zw_sw {dflt lo hi : Int} {offs : Array Int} {len : Nat} {x : Int32} (td : Nat) (tgs : List Nat) (hd : decode cc pc = .ok (.tableswitch dflt lo hi offs, len)) (htd : (pc : Int) + dflt = (td : Int)) (hc : offs.toList.map (fun o => (pc : Int) + o) = tgs.map (fun t : Nat => (t : Int))) (hh : hi = lo + (tgs.length : Int) - 1) (h1 : ∀ (i t : Nat), tgs[i]? = some t → x.toInt = lo + (i : Int) → Zw d own cc nL rt Q t L st μ τ) (h2 : x.toInt < lo ∨ hi < x.toInt → Zw d own cc nL rt Q td L st μ τ) : Zw d own cc nL rt Q pc L (.int x :: st) μ τ := by
  refine Zw_switch td (fun i => tgs.getD i 0) hd htd (fun i hi2 => ?_) (fun i e1 e2 => ?_) h2
  · have hi3 : i < tgs.length := by omega
    have h3 : (offs.toList.map (fun o => (pc : Int) + o))[i]? = (tgs.map (fun t : Nat => (t : Int)))[i]? := by rw [hc]
    rw [List.getElem?_map, List.getElem?_map, List.getElem?_eq_getElem hi3] at h3
    cases ho : offs.toList[i]? with
    | none => rw [ho] at h3; cases h3
    | some off =>
      rw [ho] at h3
      refine ⟨off, by rw [← Array.getElem?_toList]; exact ho, ?_⟩
      have h4 := Option.some.inj h3
      show (pc : Int) + off = ((tgs.getD i 0 : Nat) : Int)
      rw [List.getD_eq_getElem?_getD, List.getElem?_eq_getElem hi3]
      exact h4
  · have hi3 : i < tgs.length := by omega
    refine h1 i (tgs.getD i 0) ?_ e1
    rw [List.getD_eq_getElem?_getD, List.getElem?_eq_getElem hi3]
    rfl
theorem Zw_swk {dflt lo hi : Int} {offs : Array Int} {len : Nat} {x : Int32} {t : Nat} (td i : Nat) (tgs : List Nat) (hd : decode cc pc = .ok (.tableswitch dflt lo hi offs, len)) (htd : (pc : Int) + dflt = (td : Int)) (hc : offs.toList.map (fun o => (pc : Int) + o) = tgs.map (fun t : Nat => (t : Int))) (hh : hi = lo + (tgs.length : Int) - 1) (hx : x.toInt = lo + (i : Int)) (ht : tgs[i]? = some t) (h : Zw d own cc nL rt Q t L st μ τ) : Zw d own cc nL rt Q pc L (.int x :: st) μ τ := by
  have hi3 : i < tgs.length := (List.getElem?_eq_some_iff.mp ht).1
  refine Zw_sw td tgs hd htd hc hh (fun i2 t2 h1 h2 => ?_) (fun h2 => by omega)
  have e : i2 = i := by omega
  subst e
  rw [ht] at h1
  cases h1
  exact h
theorem Zw_swd {dflt lo hi : Int} {offs : Array Int} {len : Nat} {x : Int32} (td : Nat) (tgs : List Nat) (hd : decode cc pc = .ok (.tableswitch dflt lo hi offs, len)) (htd : (pc : Int) + dflt = (td : Int)) (hc : offs.toList.map (fun o => (pc : Int) + o) = tgs.map (fun t : Nat => (t : Int))) (hh : hi = lo + (tgs.length : Int) - 1) (hx : x.toInt < lo ∨ hi < x.toInt) (h : Zw d own cc nL rt Q td L st μ τ) : Zw d own cc nL rt Q pc L (.int x :: st) μ τ := by
  refine Zw_sw td tgs hd htd hc hh (fun i2 t2 h1 h2 => ?_) (fun h2 => h)
  have hi3 : i2 < tgs.length := (List.getElem?_eq_some_iff.mp h1).1
  omega
end ZSW
