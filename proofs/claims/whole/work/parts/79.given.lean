def yTm : Nat → Term
  | 0 => .string RX6 104
  | _ => .string RX6 112
def ySt (i : Nat) : Term := .static RX10 (zTabN i) "[I"
theorem gv1 : ∀ i, i < 4 → Cond.arrayOf (ySt i) .int ∈ flatC (Jvm.Cond.and given_1 narrow_1) := by decide +kernel
theorem gv2 : ∀ i, i < 4 → Cond.eq (.length (ySt i)) (.int (Int32.ofNat (zTab i).length)) ∈ flatC (Jvm.Cond.and given_1 narrow_1) := by decide +kernel
theorem gv3 : ∀ i, i < 4 → ∀ j, j < (zTab i).length → Cond.eq (.elem (ySt i) (.int (Int32.ofNat j))) (.int ((zTab i).getD j 0)) ∈ flatC (Jvm.Cond.and given_1 narrow_1) := by decide +kernel
theorem gv4 : ∀ i, i < 4 → Cond.laysStatic RX10 (zTabN i) "[I" ∈ lw_tbl := by decide +kernel
theorem gs1 : ∀ i, i < 2 → Cond.exactly (yTm i) "java/lang/String" ∈ flatC (Jvm.Cond.and given_1 narrow_1) := by decide +kernel
theorem gs2 : ∀ i, i < 2 → Cond.eq (.field (yTm i) "java/lang/String" "coder" "B") (.int 0) ∈ flatC (Jvm.Cond.and given_1 narrow_1) := by decide +kernel
theorem gs3 : ∀ i, i < 2 → Cond.arrayOf (.field (yTm i) "java/lang/String" "value" "[B") .byte ∈ flatC (Jvm.Cond.and given_1 narrow_1) := by decide +kernel
theorem gs4 : ∀ i, i < 2 → Cond.eq (.length (.field (yTm i) "java/lang/String" "value" "[B")) (.int (Int32.ofNat (([72, 8] : List Nat).getD i 0))) ∈ flatC (Jvm.Cond.and given_1 narrow_1) := by decide +kernel
theorem gs5 : ∀ i, i < 2 → ∀ j, j < ([72, 8] : List Nat).getD i 0 → Cond.eq (.elem (.field (yTm i) "java/lang/String" "value" "[B") (.int (Int32.ofNat j))) (.int ((([zBytes zWords, zBytes zSigns] : List (List Int32)).getD i []).getD j 0)) ∈ flatC (Jvm.Cond.and given_1 narrow_1) := by decide +kernel
theorem gs6 : Cond.not (Cond.eq (yTm 0) (yTm 1)) ∈ flatC (Jvm.Cond.and given_1 narrow_1) := by decide +kernel
theorem gs7 : Cond.stringRef RX6 104 zWords ∈ lw_tbl ∧ Cond.stringRef RX6 112 zSigns ∈ lw_tbl := ⟨List.mem_of_getElem? (i := 563) (by decide +kernel), List.mem_of_getElem? (i := 615) (by decide +kernel)⟩
theorem gc1 : Cond.eq (.static "java/lang/String" "COMPACT_STRINGS" "Z") (.int 1) ∈ flatC (Jvm.Cond.and given_1 narrow_1) := by decide +kernel
theorem gc2 : Cond.isRef (.static "jdk/internal/util/Preconditions" "SIOOBE_FORMATTER" "Ljava/util/function/BiFunction;") ∈ flatC (Jvm.Cond.and given_1 narrow_1) := by decide +kernel
theorem gc3 : Cond.laysStatic "java/lang/String" "COMPACT_STRINGS" "Z" ∈ lw_tbl := List.mem_of_getElem? (i := 573) (by decide +kernel)
theorem gc4 : Cond.laysStatic "jdk/internal/util/Preconditions" "SIOOBE_FORMATTER" "Ljava/util/function/BiFunction;" ∈ lw_tbl := List.mem_of_getElem? (i := 581) (by decide +kernel)
theorem gc5 : Cond.initialized "java/lang/String" ∈ lw_tbl ∧ Cond.initialized "jdk/internal/util/Preconditions" ∈ lw_tbl ∧ Cond.initialized RX10 ∈ lw_tbl := by decide +kernel
theorem gn1 : ∀ w ∈ zNw, w ∈ lw_tbl ∧ w.onTables = true := by decide +kernel
theorem gn2 : ∀ w ∈ zNf, w ∈ lw_tbl ∧ w.onTables = true := by decide +kernel
theorem gn3 : Cond.arrayOver (.object RX3) ∈ lw_tbl ∧ Cond.arrayOver (.object RX8) ∈ lw_tbl ∧ Cond.arrayOver (.object RX5) ∈ lw_tbl := ⟨List.mem_of_getElem? (i := 124) (by decide +kernel), List.mem_of_getElem? (i := 206) (by decide +kernel), List.mem_of_getElem? (i := 397) (by decide +kernel)⟩
theorem y_given {s : State} {b L : Nat} {xs : Nat → Int32} (hts : ∀ w ∈ lw_tbl, w.before #[Value.ref b] s = true) (hgv : (Jvm.Cond.and given_1 narrow_1).before #[Value.ref b] s = true) (hX : va_X b L xs s s.heap) (hb : b < s.heap.size) : ∃ g : Nat → Nat, g 90 = b ∧ zSt (yAd s.heap.size g) (L, xs) s := by
  have hs := flat_of_before _ hgv
  have hA : ∀ a : Nat, a < s.heap.size → ¬ (fun q => s.heap.size ≤ q) a := fun a h1 h2 => by
    have h3 : s.heap.size ≤ a := h2
    omega
  have hT : ∀ i, i < 4 → ∃ t : Nat, (ySt i).eval #[Value.ref b] s none [] s = some (.ref t) ∧ va_T .int t (zTab i).length (fun j => .int ((zTab i).getD j 0)) (fun q => s.heap.size ≤ q) s s.heap := fun i hi =>
    va_Tof (by have h : ∀ i, i < 4 → (zTab i).length < 2 ^ 31 := by decide
               exact h i hi) (hs _ (gv1 i hi)) (va_eqt (hs _ (gv2 i hi))) (fun j hj => va_eqt (hs _ (gv3 i hi j hj))) hA
  have hZ : ∀ i t, i < 4 → (ySt i).eval #[Value.ref b] s none [] s = some (.ref t) → va_Z RX10 (zTabN i) "[I" (.ref t) (fun q => s.heap.size ≤ q) s s.heap := fun i t hi h => va_Zof (hts _ (gv4 i hi)) (hts _ gc5.2.2) h hA
  obtain ⟨t0, z0, T0⟩ := hT 0 (by decide)
  obtain ⟨t1, z1, T1⟩ := hT 1 (by decide)
  obtain ⟨t2, z2, T2⟩ := hT 2 (by decide)
  obtain ⟨t3, z3, T3⟩ := hT 3 (by decide)
  obtain ⟨adK, adV, hS, hE⟩ := vk_Sof (args := #[Value.ref b]) (s := s) (N := 2) (tm := yTm) (len := [72, 8]) (byt := [zBytes zWords, zBytes zSigns]) (A := fun q => s.heap.size ≤ q) (by decide) (fun i hi => hs _ (gs1 i hi)) (fun i hi => hs _ (gs2 i hi)) (fun i hi => hs _ (gs3 i hi)) (fun i hi => hs _ (gs4 i hi)) (fun i hi j hj => hs _ (gs5 i hi j hj)) (fun i j hi hj hne => by
    match i, j, hi, hj, hne with
    | 0, 0, _, _, h => exact absurd rfl h
    | 0, 1, _, _, _ => exact Or.inl (hs _ gs6)
    | 1, 0, _, _, _ => exact Or.inr (hs _ gs6)
    | 1, 1, _, _, h => exact absurd rfl h
    | i + 2, _, h, _, _ => exact absurd h (by omega)
    | 0, j + 2, _, h, _ => exact absurd h (by omega)
    | 1, j + 2, _, h, _ => exact absurd h (by omega)) hA
  let g : Nat → Nat := fun k => match k with
    | 80 => t0
    | 81 => t1
    | 82 => t2
    | 83 => t3
    | 84 => adK 0
    | 85 => adK 1
    | 86 => adV 0
    | 87 => adV 1
    | 90 => b
    | _ => 0
  have hnA : ∀ q, zA (yAd s.heap.size g) q → (fun q => s.heap.size ≤ q) q := fun q h => yAd_A q h
  refine ⟨g, rfl, fun w hw => va_Nw.of (gn1 w hw).2 (hts _ (gn1 w hw).1), fun w hw => va_Nw.of (gn2 w hw).2 (hts _ (gn2 w hw).1), ⟨vk_R.of (hts _ gs7.1) (hE 0 (by decide)), vk_R.of (hts _ gs7.2) (hE 1 (by decide))⟩, ?_, ?_, ?_, ?_, ?_, ?_⟩
  · intro i hi
    match i, hi with
    | 0, hi => exact (hZ 0 t0 hi z0).narrow hnA
    | 1, hi => exact (hZ 1 t1 hi z1).narrow hnA
    | 2, hi => exact (hZ 2 t2 hi z2).narrow hnA
    | 3, hi => exact (hZ 3 t3 hi z3).narrow hnA
    | i + 4, hi => exact absurd hi (by omega)
  · intro i hi
    match i, hi with
    | 0, hi => exact T0.narrow hnA
    | 1, hi => exact T1.narrow hnA
    | 2, hi => exact T2.narrow hnA
    | 3, hi => exact T3.narrow hnA
    | i + 4, hi => exact absurd hi (by omega)
  · obtain ⟨scr, h1, h2, h3, h4, h5⟩ := hX
    exact ⟨scr, h1, h2, h3, Nat.le_of_eq h4.symm, by rw [h4], h5, fun h => hA b hb (hnA b h)⟩
  · have e1 : ∀ i, i < 2 → yAd s.heap.size g (84 + i) = adK i := fun i hi => by
      match i, hi with
      | 0, _ => rfl
      | 1, _ => rfl
      | i + 2, h => exact absurd h (by omega)
    have e2 : ∀ i, i < 2 → yAd s.heap.size g (86 + i) = adV i := fun i hi => by
      match i, hi with
      | 0, _ => rfl
      | 1, _ => rfl
      | i + 2, h => exact absurd h (by omega)
    have hS2 := hS.narrow hnA
    refine ⟨fun i hi => ?_, fun i j hi hj he => hS2.2 i j hi hj ?_⟩
    · show va_O _ (yAd s.heap.size g (84 + i)) _ _ _ ∧ va_OF _ _ _ _ (yAd s.heap.size g (84 + i)) _ _ _ ∧ va_OF _ _ _ (.ref (yAd s.heap.size g (86 + i))) (yAd s.heap.size g (84 + i)) _ _ _ ∧ va_T _ (yAd s.heap.size g (86 + i)) _ _ _ _ _
      rw [e1 i hi, e2 i hi]
      exact hS2.1 i hi
    · rw [← e1 i hi, ← e1 j hj]
      exact he
  · exact (va_Zof (hts _ gc3) (hts _ gc5.1) (va_eqi (hs _ gc1)) hA).narrow hnA
  · exact (va_Zqof (hts _ gc4) (hts _ gc5.2.1) (hs _ gc2) hA).narrow hnA
theorem y_insts {c : Nat} {C : String} {T : u_T} {N : Nat} (h : vwCl[c]? = some (C, T, N)) : Cond.instantiable C N ∈ zT := by
  match c, h with
  | 0, h => cases h; exact y_in0
  | 1, h => cases h; exact y_in1
  | 2, h => cases h; exact y_in2
  | 3, h => cases h; exact y_in3
  | 4, h => cases h; exact y_in4
  | 5, h => cases h; exact y_in5
  | 6, h => cases h; exact y_in6
  | 7, h => cases h; exact y_in7
  | 8, h => cases h; exact y_in8
  | 9, h => cases h; exact y_in9
  | 10, h => cases h; exact y_in10
  | 11, h => cases h; exact y_in11
  | n + 12, h => simp [vwCl] at h
theorem y_know {s : State} {args : Array Value} (hts : ∀ w ∈ zT, w.before args s = true) : ∃ D : va_G, ∀ (c : Nat) (q : vw_C), vwCl[c]? = some q → u_Kn s q.1 q.2.1 q.2.2 (D.1 c) (D.2 c) := by
  have h : ∀ c : Nat, ∃ p : ClassId × (Nat → Nat), ∀ q : vw_C, vwCl[c]? = some q → u_Kn s q.1 q.2.1 q.2.2 p.1 p.2 := by
    intro c
    cases hq : vwCl[c]? with
    | none => exact ⟨(0, fun _ => 0), fun q h => by cases h⟩
    | some q0 =>
      obtain ⟨C, T, N⟩ := q0
      obtain ⟨cC, iS, hK⟩ := u_known hts (zCl hq).1 (hts _ (y_insts hq))
      exact ⟨(cC, iS), fun q h => by cases h; exact hK⟩
  exact ⟨(fun c => (Classical.choose (h c)).1, fun c => (Classical.choose (h c)).2), fun c q hq => Classical.choose_spec (h c) q hq⟩
theorem y_arr {s : State} {args : Array Value} (h0 : (Cond.arrayClass .int).before args s = true) (h1 : (Cond.arrayClass .boolean).before args s = true) (h2 : (Cond.arrayOver (.object RX3)).before args s = true) (h3 : (Cond.arrayOver (.object RX8)).before args s = true) (h4 : (Cond.arrayOver (.object RX5)).before args s = true) : ∃ κ : Nat → ClassId, ∀ (k : Nat) (q : ClassId × FieldType), (yKs κ)[k]? = some q → ArrOfT s q.1 q.2 ∧ va_RA s q.1 q.2 := by
  obtain ⟨c0, k0, p0, n0, a0, b0⟩ := Cond.arrayClass_spec h0
  obtain ⟨c1, k1, p1, n1, a1, b1⟩ := Cond.arrayClass_spec h1
  obtain ⟨p2, c2, k2, q2, -, a2, b2, n2⟩ := Cond.arrayOver_spec h2
  obtain ⟨p3, c3, k3, q3, -, a3, b3, n3⟩ := Cond.arrayOver_spec h3
  obtain ⟨p4, c4, k4, q4, -, a4, b4, n4⟩ := Cond.arrayOver_spec h4
  refine ⟨fun t => match t with | 0 => c0 | 1 => c1 | 2 => c2 | 3 => c3 | _ => c4, fun k q hk => ?_⟩
  match k, hk with
  | 0, hk => cases hk; exact ⟨fun n z => ⟨fun k h => (by cases h), k0, a0, p0, b0⟩, n0⟩
  | 1, hk => cases hk; exact ⟨fun n z => ⟨fun k h => (by cases h), k1, a1, p1, b1⟩, n1⟩
  | 2, hk => cases hk; exact ⟨fun n z => ⟨fun k h => (by cases h), k2, a2, p2, b2⟩, k2, p2, a2, b2, q2, n2⟩
  | 3, hk => cases hk; exact ⟨fun n z => ⟨fun k h => (by cases h), k3, a3, p3, b3⟩, k3, p3, a3, b3, q3, n3⟩
  | 4, hk => cases hk; exact ⟨fun n z => ⟨fun k h => (by cases h), k4, a4, p4, b4⟩, k4, p4, a4, b4, q4, n4⟩
  | k + 5, hk => simp [yKs] at hk
