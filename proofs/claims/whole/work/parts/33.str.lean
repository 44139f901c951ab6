theorem lfs_9 : Cond.fieldLink RJ0 9 "java/lang/String" "value" "[B" ∈ zT := zT_mem 1531 (by decide +kernel) (by decide +kernel)
theorem lfs_15 : Cond.fieldLink RJ0 15 "java/lang/String" "coder" "B" ∈ zT := zT_mem 1530 (by decide +kernel) (by decide +kernel)
theorem lfs_38 : Cond.fieldLink RJ0 38 "java/lang/String" "COMPACT_STRINGS" "Z" ∈ zT := zT_mem 572 (by decide +kernel) (by decide +kernel)
theorem lfs_1053 : Cond.fieldLink RJ0 1053 "jdk/internal/util/Preconditions" "SIOOBE_FORMATTER" "Ljava/util/function/BiFunction;" ∈ zT := zT_mem 580 (by decide +kernel) (by decide +kernel)
def zByt : Nat → List Int32
  | 0 => zBytes zWords
  | _ => zBytes zSigns
def zByl : Nat → Nat
  | 0 => 72
  | _ => 8
section ZS
variable {d : Nat} {own : String} {cc : ByteArray} {nL : Nat} {rt : Option FieldType} {Q : zQ} {pc : Nat} {L st : List Value} {μ : zMu} {τ : Int64}
theorem Zw_ldcS0 (hd : decode cc pc = .ok (.ldc 104, 2)) (h : Zw d RX6 cc nL rt Q (pc + 2) L (.ref 84 :: st) μ τ) : Zw d RX6 cc nL rt Q pc L st μ τ := by
  intro p l e R s m args below meth c D ad ac X K cells slots H locs ls hC hH hL hK
  exact va_ldcS hC.1 hC.2.1 hC.2.2.2.2.2.1 hC.2.2.2.2.2.2.2.2.2.2.2.2.1.1 hd (h p l e R s m args below meth c D ad ac X K cells slots H locs ls hC hH hL hK)
theorem Zw_ldcS1 (hd : decode cc pc = .ok (.ldc 112, 2)) (h : Zw d RX6 cc nL rt Q (pc + 2) L (.ref 85 :: st) μ τ) : Zw d RX6 cc nL rt Q pc L st μ τ := by
  intro p l e R s m args below meth c D ad ac X K cells slots H locs ls hC hH hL hK
  exact va_ldcS hC.1 hC.2.1 hC.2.2.2.2.2.1 hC.2.2.2.2.2.2.2.2.2.2.2.2.1.2 hd (h p l e R s m args below meth c D ad ac X K cells slots H locs ls hC hH hL hK)
theorem Zw_sval {i : Nat} (hi : i < 2) (hd : decode cc pc = .ok (.getfield 9, 3)) (h : Zw d RJ0 cc nL rt Q (pc + 3) L (.ref (86 + i) :: st) μ τ) : Zw d RJ0 cc nL rt Q pc L (.ref (84 + i) :: st) μ τ := by
  intro p l e R s m args below meth c D ad ac X K cells slots H locs ls hC hH hL hK
  exact vk_getf hC.1 hC.2.1 (hC.2.2.2.2.2.2.2.2.2.2.2.2.2.2.2.2.1.1 i hi).2.2.1 hH.2.1 hC.2.2.2.2.2.1 (hC.2.2.2.2.2.2.1 _ lfs_9) (fun x hx => hx) hd (h p l e R s m args below meth c D ad ac X K cells slots H locs ls hC hH hL hK)
theorem Zw_scod {i : Nat} (hi : i < 2) (hd : decode cc pc = .ok (.getfield 15, 3)) (h : Zw d RJ0 cc nL rt Q (pc + 3) L (.int 0 :: st) μ τ) : Zw d RJ0 cc nL rt Q pc L (.ref (84 + i) :: st) μ τ := by
  intro p l e R s m args below meth c D ad ac X K cells slots H locs ls hC hH hL hK
  exact vk_getf hC.1 hC.2.1 (hC.2.2.2.2.2.2.2.2.2.2.2.2.2.2.2.2.1.1 i hi).2.1 hH.2.1 hC.2.2.2.2.2.1 (hC.2.2.2.2.2.2.1 _ lfs_15) (fun x hx => hx) hd (h p l e R s m args below meth c D ad ac X K cells slots H locs ls hC hH hL hK)
theorem Zw_getC (hd : decode cc pc = .ok (.getstatic 38, 3)) (h : Zw d RJ0 cc nL rt Q (pc + 3) L (.int 1 :: st) μ τ) : Zw d RJ0 cc nL rt Q pc L st μ τ := by
  intro p l e R s m args below meth c D ad ac X K cells slots H locs ls hC hH hL hK
  exact va_gets hC.1 hC.2.1 hC.2.2.2.2.2.2.2.2.2.2.2.2.2.2.2.2.2.1 hH.2.1 hC.2.2.2.2.2.1 (hC.2.2.2.2.2.2.1 _ lfs_38) (fun x hx => hx) hd (h p l e R s m args below meth c D ad ac X K cells slots H locs ls hC hH hL hK)
theorem Zw_blen {i : Nat} (hi : i < 2) (hd : decode cc pc = .ok (.arraylength, 1)) (h : Zw d own cc nL rt Q (pc + 1) L (.int (nI (zByl i)) :: st) μ τ) : Zw d own cc nL rt Q pc L (.ref (86 + i) :: st) μ τ := by
  intro p l e R s m args below meth c D ad ac X K cells slots H locs ls hC hH hL hK
  exact va_tlen hC.1 hC.2.1 (hC.2.2.2.2.2.2.2.2.2.2.2.2.2.2.2.2.1.1 i hi).2.2.2 hH.2.1 (by match i, hi with | 0, _ => rfl | 1, _ => rfl) hd (h p l e R s m args below meth c D ad ac X K cells slots H locs ls hC hH hL hK)
theorem Zw_bald {i : Nat} {j : Int32} (hi : i < 2) (hd : decode cc pc = .ok (.baload, 1)) (hin : vp_in j (zByl i)) (h : Zw d own cc nL rt Q (pc + 1) L (.int ((zByt i).getD j.toNatClampNeg 0) :: st) μ τ) : Zw d own cc nL rt Q pc L (.int j :: .ref (86 + i) :: st) μ τ := by
  intro p l e R s m args below meth c D ad ac X K cells slots H locs ls hC hH hL hK
  exact va_tb hC.1 hC.2.1 (hC.2.2.2.2.2.2.2.2.2.2.2.2.2.2.2.2.1.1 i hi).2.2.2 hH.2.1 (by match i, hi with | 0, _ => exact hin | 1, _ => exact hin) (v := .int ((zByt i).getD j.toNatClampNeg 0)) (by match i, hi with | 0, _ => rfl | 1, _ => rfl) hd (h p l e R s m args below meth c D ad ac X K cells slots H locs ls hC hH hL hK)
theorem Zw_invVS {idx n k i : Nat} {y : MethodName} {cc' : ByteArray} {nL' : Nat} {rt' : Option FieldType} (as rest : List Value) (hi : i < 2) (hM : zCV own idx y cc' nL' rt' n) (hd : decode cc pc = .ok (.invokevirtual idx, 3)) (hk : k + 1 ≤ d) (hyc : y.cls = "java/lang/String") (hn : as.length = n) (hW : (rest.map fun v => v.category).sum ≤ 8)
    (hZ : Zc k y cc' nL' rt' (.ref (84 + i) :: as) μ τ (fun r μ' τ' => Zw d own cc nL rt Q (pc + 3) L (r.toList ++ rest) μ' τ')) : Zw d own cc nL rt Q pc L (as.reverse ++ .ref (84 + i) :: rest) μ τ := by
  intro p l e R s m args below meth c D ad ac X K cells slots H locs ls hC hH hL hK
  obtain ⟨m1, m2, m3, m4, m5, m6, m7⟩ := hM
  obtain ⟨hx, hcc, hml, hr, hlocks, hown, hts, ⟨r1, r2, r3, r4⟩, hKK, hDj, hSt⟩ := id hC
  have hfix : CallFix p m c cc nL s args zT own := ⟨hx, hcc, hml, hown, hts⟩
  have hcw : CallW R s args own y.cls idx y cc' nL' rt' (Cond.code y cc' nL' rt' :: zT) (zRm k) 0 0 n :=
    ⟨callB_of n hts (zGood m5) rfl rfl rfl (hts _ m4) (hts _ m1) m6 ⟨show k + 1 ≤ R.frames by omega, show 8 + (nL' + 11) + 44 * k ≤ R.locals by omega⟩, hts _ m2, hts _ m3⟩
  have hrec := vk_recv hSt.2.2.2.2.2.2.1 hi hH.2.1
  rw [← hyc] at hrec
  refine z_run (va_runV (C := y.cls) (As := as.map (tr ad)) (rest := rest.map (tr ad)) hfix (hZ l D ad ac X hDj hH.2.2) hcw ⟨z_blind, hrec, fun U hU hW1 => ⟨rfl, by rw [hU]; exact hH.1, va_K.moved hW1.alike hKK, hSt.go hW1 hU hH.2.1⟩⟩ rfl (by rw [List.length_map]; exact hn) hL.1 (by simp [tr]) (lv_room (by rw [z_cat]; exact hW)) hd ⟨r3, r4⟩) hH.2.1 (fun r μ' τ' H' locs' hq hH' => ?_)
  rw [← z_app]
  exact hq p l e R s m args below meth c D ad ac X K cells slots H' locs' ls hC hH' hL hK
theorem Zw_VS0 {idx k i : Nat} {y : MethodName} {cc' : ByteArray} {nL' : Nat} {rt' : Option FieldType} {rest : List Value} (hi : i < 2) (hM : zCV own idx y cc' nL' rt' 0) (hd : decode cc pc = .ok (.invokevirtual idx, 3)) (hk : k + 1 ≤ d) (hyc : y.cls = "java/lang/String") (hW : (rest.map fun v => v.category).sum ≤ 8) (hZ : Zc k y cc' nL' rt' [.ref (84 + i)] μ τ (fun r μ' τ' => Zw d own cc nL rt Q (pc + 3) L (r.toList ++ rest) μ' τ')) : Zw d own cc nL rt Q pc L (.ref (84 + i) :: rest) μ τ := Zw_invVS [] rest hi hM hd hk hyc rfl hW hZ
theorem Zw_VS1 {idx k i : Nat} {y : MethodName} {cc' : ByteArray} {nL' : Nat} {rt' : Option FieldType} {rest : List Value} {a1 : Value} (hi : i < 2) (hM : zCV own idx y cc' nL' rt' 1) (hd : decode cc pc = .ok (.invokevirtual idx, 3)) (hk : k + 1 ≤ d) (hyc : y.cls = "java/lang/String") (hW : (rest.map fun v => v.category).sum ≤ 8) (hZ : Zc k y cc' nL' rt' [.ref (84 + i), a1] μ τ (fun r μ' τ' => Zw d own cc nL rt Q (pc + 3) L (r.toList ++ rest) μ' τ')) : Zw d own cc nL rt Q pc L (a1 :: .ref (84 + i) :: rest) μ τ := Zw_invVS [a1] rest hi hM hd hk hyc rfl hW hZ
theorem Zw_VS2 {idx k i : Nat} {y : MethodName} {cc' : ByteArray} {nL' : Nat} {rt' : Option FieldType} {rest : List Value} {a1 a2 : Value} (hi : i < 2) (hM : zCV own idx y cc' nL' rt' 2) (hd : decode cc pc = .ok (.invokevirtual idx, 3)) (hk : k + 1 ≤ d) (hyc : y.cls = "java/lang/String") (hW : (rest.map fun v => v.category).sum ≤ 8) (hZ : Zc k y cc' nL' rt' [.ref (84 + i), a1, a2] μ τ (fun r μ' τ' => Zw d own cc nL rt Q (pc + 3) L (r.toList ++ rest) μ' τ')) : Zw d own cc nL rt Q pc L (a2 :: a1 :: .ref (84 + i) :: rest) μ τ := Zw_invVS [a1, a2] rest hi hM hd hk hyc rfl hW hZ
end ZS
/-- Preconditions.checkIndex, whatever its third argument is -/
theorem z_pre {μ : zMu} {τ : Int64} {i n : Int32} {v : Value} (hv : v.category = 1) (h0 : ¬ i < 0) (h1 : i < n) (l : Launch) (D : va_G) (ad : Nat → Nat) (ac : Nat → ClassId) (X : zXs) (hDj : zDj ad) (hXm : zXm X μ) : Met l yJ3_checkIndex_8e157 (.code yJ3_checkIndex_8e157 cJ3_checkIndex_8e157 3 (some .int) :: zT) (zRm 0) (va_Pc [.int i, .int n, v] (zHq D ad ac X μ τ)) (zQc D ad ac X (fun r μ' τ' => r = some (.int i) ∧ μ' = μ ∧ τ' = τ)) 0 0 (zA ad) := by
  have h : Zw 0 RJ3 cJ3_checkIndex_8e157 3 (some .int) (fun r μ' τ' => r = some (.int i) ∧ μ' = μ ∧ τ' = τ) 0 [.int i, .int n, .null] [] μ τ := by
    refine Zw_iload_0 dJ3_checkIndex_8e157_0 ?_
    refine Zw_if_lt 9 dJ3_checkIndex_8e157_1 (by decide) (fun c1 => absurd c1 h0) (fun c1 => ?_)
    refine Zw_iload_0 dJ3_checkIndex_8e157_4 ?_
    refine Zw_iload_1 dJ3_checkIndex_8e157_5 ?_
    refine Zw_icmp_lt 16 dJ3_checkIndex_8e157_6 (by decide) (fun c6 => ?_) (fun c6 => absurd c6 (fun e => e h1))
    refine Zw_iload_0 dJ3_checkIndex_8e157_16 ?_
    refine Zw_ireturn dJ3_checkIndex_8e157_17 (by first | rfl | assumption) ?_
    exact ⟨rfl, rfl, rfl⟩
  refine Met.ofW (cc := cJ3_checkIndex_8e157) (maxL := 3) (ret := some .int) (by decide) rfl ?_
  intro p e s m args below meth c s₁ B hml hv'
  obtain ⟨rfl, hP, hK, hSt⟩ := hv'
  have hx := B.exec
  have hb := B.bytes
  have hr := B.returns
  have hts := atoms_spec (ws := .code yJ3_checkIndex_8e157 cJ3_checkIndex_8e157 3 (some .int) :: zT) B.pre
  have hown : s.vm.findClass RJ3 = some m.cls := findClass_of_methodNamed B.named
  have hlocks := B.notSynchronized
  have hsl : (lg_sl [.int i, .int n, v]).length ≤ 3 := by simp only [lg_sl, List.flatMap_cons, List.flatMap_nil, hv]; simp [Value.category]
  have hl := lv_entry [.int i, .int n, v] (n := 3) hsl
  rw [lg_entry_eq]
  generalize (lg_sl [.int i, .int n, v] ++ List.replicate (3 - (lg_sl [.int i, .int n, v]).length) Slot.unset).toArray = ls at hl ⊢
  refine h p l e _ s m _ below meth c D ad ac X _ 0 0 s.heap [] ls ⟨hx, hb, hml, hr, hlocks, hown, fun w hw => hts w (List.mem_cons_of_mem _ hw), ⟨Nat.le_refl 0, Nat.le_refl _, Nat.zero_le _, Nat.zero_le _⟩, hK, hDj, hSt⟩ ⟨hP, va_S.rf, hXm⟩ ⟨hl.1, hl.2.1, Nat.le_refl 3, ?_⟩ ?_
  · intro k u h1 h2
    match k, h1 with
    | 0, h1 => cases h1; exact hl.2.2 (0, .int i) (by simp [lv_args])
    | 1, h1 => cases h1; exact hl.2.2 (1, .int n) (by simp [lv_args, Value.category])
    | 2, h1 => cases h1; exact absurd rfl h2
    | k + 3, h1 => simp at h1
  · intro r μ' τ' H' locs' pc' ls' hq hH' hret
    obtain ⟨hP', hS', hX'⟩ := hH'
    rcases hret with ⟨x, ty, rfl, hty, hnw, hdg⟩ | ⟨x, rfl, hty, hdg⟩ | ⟨rfl, hty, hdg⟩
    · cases hty
      exact W.zret hx hb hr hnw (fun t ht hw => ⟨⟨some (.int x), μ', τ', rfl, hq, by rw [ht]; exact hP', hX'⟩, hS'.F ht⟩) (fun q hq => hS'.2.2 q hq) hdg hlocks
    · cases hty
    · cases hty
theorem Zw_chk {d : Nat} {cc : ByteArray} {nL : Nat} {rt : Option FieldType} {Q : zQ} {pc : Nat} {L st : List Value} {μ : zMu} {τ : Int64} {i n : Int32} (hd : decode cc pc = .ok (.getstatic 1053, 3)) (hd2 : decode cc (pc + 3) = .ok (.invokestatic 1059, 3)) (hk : 1 ≤ d) (h0 : ¬ i < 0) (h1 : i < n) (hW : (st.map fun v => v.category).sum ≤ 8) (h : Zw d RJ0 cc nL rt Q (pc + 6) L (.int i :: st) μ τ) : Zw d RJ0 cc nL rt Q pc L (.int n :: .int i :: st) μ τ := by
  intro p l e R s m args below meth c D ad ac X K cells slots H locs ls hC hH hL hK
  obtain ⟨m1, m2, m4, m5, m6, m7⟩ := lm_J0_1059
  obtain ⟨hx, hcc, hml, hr, hlocks, hown, hts, ⟨r1, r2, r3, r4⟩, hKK, hDj, hSt⟩ := id hC
  have hfix : CallFix p m c cc nL s args zT RJ0 := ⟨hx, hcc, hml, hown, hts⟩
  have go : ∀ v : Value, v.category = 1 → W p l e R s m args below meth c H locs cells slots K (F0 m (pc + 3) ls (v :: .int n :: .int i :: st.map (tr ad))) := by
    intro v hv
    have hcw : CallB R s args RJ0 1059 yJ3_checkIndex_8e157 cJ3_checkIndex_8e157 3 (some .int) (Cond.code yJ3_checkIndex_8e157 cJ3_checkIndex_8e157 3 (some .int) :: zT) (zRm 0) 0 0 3 ∧ (Cond.static yJ3_checkIndex_8e157).before args s = true :=
      ⟨callB_of 3 hts (zGood m5) rfl rfl rfl (hts _ m4) (hts _ m1) m6 ⟨show 0 + 1 ≤ R.frames by omega, show 8 + (3 + 11) + 44 * 0 ≤ R.locals by omega⟩, hts _ m2⟩
    refine z_run (va_runS (As := [.int i, .int n, v]) (rest := st.map (tr ad)) hfix (z_pre hv h0 h1 l D ad ac X hDj hH.2.2) hcw ⟨z_blind, fun U hU hW1 => ⟨rfl, by rw [hU]; exact hH.1, va_K.moved hW1.alike hKK, hSt.go hW1 hU hH.2.1⟩⟩ rfl rfl hL.1 (by simp) (lv_room (by rw [z_cat]; exact hW)) hd2 ⟨r3, r4⟩) hH.2.1 (fun r μ' τ' H' locs' hq hH' => ?_)
    obtain ⟨rfl, rfl, rfl⟩ := hq
    exact h p l e R s m args below meth c D ad ac X K cells slots H' locs' ls hC hH' hL hK
  rcases hSt.2.2.2.2.2.2.2.2 with hz | ⟨t, hz⟩
  · exact va_gets hx hcc hz hH.2.1 hown (hts _ lfs_1053) (fun x hx => hx) hd (go .null rfl)
  · exact va_gets hx hcc hz hH.2.1 hown (hts _ lfs_1053) (fun x hx => hx) hd (go (.ref t) rfl)
