theorem Yc.mk {d : Nat} {y : MethodName} {cc : ByteArray} {nL : Nat} {rt : Option FieldType} {as : List Value} {κ : Nat → ClassId} {h : Nat} {suf : List va_E} {B : Nat} {Q : yQ} (n : Nat) (L : List Value) (hL : zLa as ++ List.replicate n .null = L) (hy : plainName y.cls = true) (hn : L.length ≤ nL) (hh : Yw d y cc nL rt κ h (yEx cc rt h Q) B 0 L [] suf) : Yc d y cc nL rt as κ h suf B Q := by
  refine Yc.of L hy ?_ hn ?_ hh
  · rw [zLa_len]
    subst hL
    rw [List.length_append] at hn
    omega
  · intro i v h1 h2
    subst hL
    have h3 := zLa_ent as 0 i v
    rw [Nat.zero_add] at h3
    refine h3 ?_ h2
    rw [List.getElem?_append] at h1
    split at h1
    · exact h1
    · rw [List.getElem?_replicate] at h1
      split at h1
      · cases h1; exact absurd rfl h2
      · cases h1
theorem y_arr0 : Cond.arrayClass .int ∈ zT := zT_mem 154 (by decide +kernel) (by decide +kernel)
theorem y_arr1 : Cond.arrayClass .boolean ∈ zT := zT_mem 1107 (by decide +kernel) (by decide +kernel)
theorem y_obi : Cond.instanceMethod Lib.objectInit ∈ zT := zT_mem 115 (by decide +kernel) (by decide +kernel)
theorem y_obc : Cond.code Lib.objectInit ⟨#[0xb1]⟩ 1 none ∈ zT := zT_mem 116 (by decide +kernel) (by decide +kernel)
theorem y_in0 : Cond.instantiable RX0 4 ∈ zT := zT_mem 200 (by decide +kernel) (by decide +kernel)
theorem y_ini0 : Cond.initialized RX0 ∈ zT := zT_mem 91 (by decide +kernel) (by decide +kernel)
abbrev y_bl0 : List Value := [.null, .null, .null, .int 0]
theorem y_fs0 : ∀ j, j < 4 → defaultValue (zTy 0 j) = vp_V y_bl0 j
  | 0, _ => rfl
  | 1, _ => rfl
  | 2, _ => rfl
  | 3, _ => rfl
  | j + 4, h => absurd h (by omega)
theorem y_in1 : Cond.instantiable RX1 5 ∈ zT := zT_mem 374 (by decide +kernel) (by decide +kernel)
theorem y_ini1 : Cond.initialized RX1 ∈ zT := zT_mem 97 (by decide +kernel) (by decide +kernel)
abbrev y_bl1 : List Value := [.null, .null, .int 0, .int 0, .int 0]
theorem y_fs1 : ∀ j, j < 5 → defaultValue (zTy 1 j) = vp_V y_bl1 j
  | 0, _ => rfl
  | 1, _ => rfl
  | 2, _ => rfl
  | 3, _ => rfl
  | 4, _ => rfl
  | j + 5, h => absurd h (by omega)
theorem y_in2 : Cond.instantiable RX2 8 ∈ zT := zT_mem 118 (by decide +kernel) (by decide +kernel)
theorem y_ini2 : Cond.initialized RX2 ∈ zT := zT_mem 89 (by decide +kernel) (by decide +kernel)
abbrev y_bl2 : List Value := [.null, .null, .int 0, .int 0, .int 0, .int 0, .int 0, .int 0]
theorem y_fs2 : ∀ j, j < 8 → defaultValue (zTy 2 j) = vp_V y_bl2 j
  | 0, _ => rfl
  | 1, _ => rfl
  | 2, _ => rfl
  | 3, _ => rfl
  | 4, _ => rfl
  | 5, _ => rfl
  | 6, _ => rfl
  | 7, _ => rfl
  | j + 8, h => absurd h (by omega)
theorem y_in3 : Cond.instantiable RX3 4 ∈ zT := zT_mem 125 (by decide +kernel) (by decide +kernel)
theorem y_ini3 : Cond.initialized RX3 ∈ zT := zT_mem 90 (by decide +kernel) (by decide +kernel)
abbrev y_bl3 : List Value := [.int 0, .int 0, .int 0, .int 0]
theorem y_fs3 : ∀ j, j < 4 → defaultValue (zTy 3 j) = vp_V y_bl3 j
  | 0, _ => rfl
  | 1, _ => rfl
  | 2, _ => rfl
  | 3, _ => rfl
  | j + 4, h => absurd h (by omega)
theorem y_in4 : Cond.instantiable RX4 8 ∈ zT := zT_mem 312 (by decide +kernel) (by decide +kernel)
theorem y_ini4 : Cond.initialized RX4 ∈ zT := zT_mem 95 (by decide +kernel) (by decide +kernel)
abbrev y_bl4 : List Value := [.null, .null, .null, .null, .null, .int 0, .int 0, .int 0]
theorem y_fs4 : ∀ j, j < 8 → defaultValue (zTy 4 j) = vp_V y_bl4 j
  | 0, _ => rfl
  | 1, _ => rfl
  | 2, _ => rfl
  | 3, _ => rfl
  | 4, _ => rfl
  | 5, _ => rfl
  | 6, _ => rfl
  | 7, _ => rfl
  | j + 8, h => absurd h (by omega)
theorem y_in5 : Cond.instantiable RX5 3 ∈ zT := zT_mem 398 (by decide +kernel) (by decide +kernel)
theorem y_ini5 : Cond.initialized RX5 ∈ zT := zT_mem 98 (by decide +kernel) (by decide +kernel)
abbrev y_bl5 : List Value := [.null, .int 0, .int 0]
theorem y_fs5 : ∀ j, j < 3 → defaultValue (zTy 5 j) = vp_V y_bl5 j
  | 0, _ => rfl
  | 1, _ => rfl
  | 2, _ => rfl
  | j + 3, h => absurd h (by omega)
theorem y_in6 : Cond.instantiable RX6 9 ∈ zT := zT_mem 260 (by decide +kernel) (by decide +kernel)
theorem y_ini6 : Cond.initialized RX6 ∈ zT := zT_mem 93 (by decide +kernel) (by decide +kernel)
abbrev y_bl6 : List Value := [.null, .int 0, .int 0, .int 0, .int 0, .int 0, .null, .int 0, .int 0]
theorem y_fs6 : ∀ j, j < 9 → defaultValue (zTy 6 j) = vp_V y_bl6 j
  | 0, _ => rfl
  | 1, _ => rfl
  | 2, _ => rfl
  | 3, _ => rfl
  | 4, _ => rfl
  | 5, _ => rfl
  | 6, _ => rfl
  | 7, _ => rfl
  | 8, _ => rfl
  | j + 9, h => absurd h (by omega)
theorem y_in7 : Cond.instantiable RX7 7 ∈ zT := zT_mem 343 (by decide +kernel) (by decide +kernel)
theorem y_ini7 : Cond.initialized RX7 ∈ zT := zT_mem 96 (by decide +kernel) (by decide +kernel)
abbrev y_bl7 : List Value := [.null, .null, .null, .null, .int 0, .int 0, .int 0]
theorem y_fs7 : ∀ j, j < 7 → defaultValue (zTy 7 j) = vp_V y_bl7 j
  | 0, _ => rfl
  | 1, _ => rfl
  | 2, _ => rfl
  | 3, _ => rfl
  | 4, _ => rfl
  | 5, _ => rfl
  | 6, _ => rfl
  | j + 7, h => absurd h (by omega)
theorem y_in8 : Cond.instantiable RX8 4 ∈ zT := zT_mem 207 (by decide +kernel) (by decide +kernel)
theorem y_ini8 : Cond.initialized RX8 ∈ zT := zT_mem 92 (by decide +kernel) (by decide +kernel)
abbrev y_bl8 : List Value := [.null, .null, .int 0, .int 0]
theorem y_fs8 : ∀ j, j < 4 → defaultValue (zTy 8 j) = vp_V y_bl8 j
  | 0, _ => rfl
  | 1, _ => rfl
  | 2, _ => rfl
  | 3, _ => rfl
  | j + 4, h => absurd h (by omega)
theorem y_in9 : Cond.instantiable RX9 3 ∈ zT := zT_mem 295 (by decide +kernel) (by decide +kernel)
theorem y_ini9 : Cond.initialized RX9 ∈ zT := zT_mem 94 (by decide +kernel) (by decide +kernel)
abbrev y_bl9 : List Value := [.null, .null, .null]
theorem y_fs9 : ∀ j, j < 3 → defaultValue (zTy 9 j) = vp_V y_bl9 j
  | 0, _ => rfl
  | 1, _ => rfl
  | 2, _ => rfl
  | j + 3, h => absurd h (by omega)
theorem y_in10 : Cond.instantiable RX10 10 ∈ zT := zT_mem 110 (by decide +kernel) (by decide +kernel)
theorem y_ini10 : Cond.initialized RX10 ∈ zT := zT_mem 88 (by decide +kernel) (by decide +kernel)
abbrev y_bl10 : List Value := [.null, .null, .null, .null, .null, .null, .null, .null, .null, .int 0]
theorem y_fs10 : ∀ j, j < 10 → defaultValue (zTy 10 j) = vp_V y_bl10 j
  | 0, _ => rfl
  | 1, _ => rfl
  | 2, _ => rfl
  | 3, _ => rfl
  | 4, _ => rfl
  | 5, _ => rfl
  | 6, _ => rfl
  | 7, _ => rfl
  | 8, _ => rfl
  | 9, _ => rfl
  | j + 10, h => absurd h (by omega)
theorem y_in11 : Cond.instantiable RX11 40 ∈ zT := zT_mem 978 (by decide +kernel) (by decide +kernel)
theorem y_ini11 : Cond.initialized RX11 ∈ zT := zT_mem 99 (by decide +kernel) (by decide +kernel)
abbrev y_bl11 : List Value := [.int 0, .null, .null, .int 0, .int 0, .null, .int 0, .null, .null, .null, .null, .int 0, .int 0, .int 0, .int 0, .int 0, .int 0, .int 0, .int 0, .int 0, .int 0, .int 0, .int 0, .long 0, .int 0, .int 0, .int 0, .null, .null, .int 0, .int 0, .null, .null, .null, .int 0, .int 0, .null, .null, .null, .null]
theorem y_fs11 : ∀ j, j < 40 → defaultValue (zTy 11 j) = vp_V y_bl11 j
  | 0, _ => rfl
  | 1, _ => rfl
  | 2, _ => rfl
  | 3, _ => rfl
  | 4, _ => rfl
  | 5, _ => rfl
  | 6, _ => rfl
  | 7, _ => rfl
  | 8, _ => rfl
  | 9, _ => rfl
  | 10, _ => rfl
  | 11, _ => rfl
  | 12, _ => rfl
  | 13, _ => rfl
  | 14, _ => rfl
  | 15, _ => rfl
  | 16, _ => rfl
  | 17, _ => rfl
  | 18, _ => rfl
  | 19, _ => rfl
  | 20, _ => rfl
  | 21, _ => rfl
  | 22, _ => rfl
  | 23, _ => rfl
  | 24, _ => rfl
  | 25, _ => rfl
  | 26, _ => rfl
  | 27, _ => rfl
  | 28, _ => rfl
  | 29, _ => rfl
  | 30, _ => rfl
  | 31, _ => rfl
  | 32, _ => rfl
  | 33, _ => rfl
  | 34, _ => rfl
  | 35, _ => rfl
  | 36, _ => rfl
  | 37, _ => rfl
  | 38, _ => rfl
  | 39, _ => rfl
  | j + 40, h => absurd h (by omega)
theorem y_ob_X0_3 : Cond.methodLink RX0 3 Lib.objectInit ∈ zT := zT_mem 204 (by decide +kernel) (by decide +kernel)
theorem y_ob_X1_3 : Cond.methodLink RX1 3 Lib.objectInit ∈ zT := zT_mem 378 (by decide +kernel) (by decide +kernel)
theorem y_ob_X2_3 : Cond.methodLink RX2 3 Lib.objectInit ∈ zT := zT_mem 122 (by decide +kernel) (by decide +kernel)
theorem y_ob_X3_3 : Cond.methodLink RX3 3 Lib.objectInit ∈ zT := zT_mem 129 (by decide +kernel) (by decide +kernel)
theorem y_ob_X4_3 : Cond.methodLink RX4 3 Lib.objectInit ∈ zT := zT_mem 316 (by decide +kernel) (by decide +kernel)
theorem y_ob_X5_3 : Cond.methodLink RX5 3 Lib.objectInit ∈ zT := zT_mem 402 (by decide +kernel) (by decide +kernel)
theorem y_ob_X6_3 : Cond.methodLink RX6 3 Lib.objectInit ∈ zT := zT_mem 264 (by decide +kernel) (by decide +kernel)
theorem y_ob_X7_3 : Cond.methodLink RX7 3 Lib.objectInit ∈ zT := zT_mem 347 (by decide +kernel) (by decide +kernel)
theorem y_ob_X8_3 : Cond.methodLink RX8 3 Lib.objectInit ∈ zT := zT_mem 211 (by decide +kernel) (by decide +kernel)
theorem y_ob_X9_3 : Cond.methodLink RX9 3 Lib.objectInit ∈ zT := zT_mem 299 (by decide +kernel) (by decide +kernel)
theorem y_ob_X10_1 : Cond.methodLink RX10 1 Lib.objectInit ∈ zT := zT_mem 114 (by decide +kernel) (by decide +kernel)
theorem y_ob_X11_7 : Cond.methodLink RX11 7 Lib.objectInit ∈ zT := zT_mem 982 (by decide +kernel) (by decide +kernel)
theorem y_cl_X2_15 : Cond.classLink RX2 15 RX3 ∈ zT := zT_mem 123 (by decide +kernel) (by decide +kernel)
theorem lq_X1_9 : zPF RX1 9 1 0 (.object "DukeIsLost$Duchy") := ⟨_, _, rfl, by decide, zT_mem 379 (by decide +kernel) (by decide +kernel), rfl, rfl, by decide +kernel⟩
theorem lq_X1_15 : zPF RX1 15 1 1 (.object "DukeIsLost$Weeks") := ⟨_, _, rfl, by decide, zT_mem 380 (by decide +kernel) (by decide +kernel), rfl, rfl, by decide +kernel⟩
theorem lq_X2_9 : zPF RX2 9 2 0 (.array .int) := ⟨_, _, rfl, by decide, zT_mem 155 (by decide +kernel) (by decide +kernel), rfl, rfl, by decide +kernel⟩
theorem lq_X2_17 : zPF RX2 17 2 1 (.array (.object "DukeIsLost$Finder")) := ⟨_, _, rfl, by decide, zT_mem 159 (by decide +kernel) (by decide +kernel), rfl, rfl, by decide +kernel⟩
theorem lq_X4_9 : zPF RX4 9 4 2 (.array .int) := ⟨_, _, rfl, by decide, zT_mem 319 (by decide +kernel) (by decide +kernel), rfl, rfl, by decide +kernel⟩
theorem lq_X4_15 : zPF RX4 15 4 3 (.array .int) := ⟨_, _, rfl, by decide, zT_mem 320 (by decide +kernel) (by decide +kernel), rfl, rfl, by decide +kernel⟩
theorem lq_X4_18 : zPF RX4 18 4 4 (.array .int) := ⟨_, _, rfl, by decide, zT_mem 321 (by decide +kernel) (by decide +kernel), rfl, rfl, by decide +kernel⟩
theorem lq_X4_21 : zPF RX4 21 4 0 (.object "DukeIsLost$Duchy") := ⟨_, _, rfl, by decide, zT_mem 317 (by decide +kernel) (by decide +kernel), rfl, rfl, by decide +kernel⟩
theorem lq_X4_25 : zPF RX4 25 4 1 (.object "DukeIsLost$Weeks") := ⟨_, _, rfl, by decide, zT_mem 318 (by decide +kernel) (by decide +kernel), rfl, rfl, by decide +kernel⟩
theorem lq_X5_9 : zPF RX5 9 5 0 (.array .int) := ⟨_, _, rfl, by decide, zT_mem 403 (by decide +kernel) (by decide +kernel), rfl, rfl, by decide +kernel⟩
theorem lq_X6_9 : zPF RX6 9 6 0 (.array .int) := ⟨_, _, rfl, by decide, zT_mem 265 (by decide +kernel) (by decide +kernel), rfl, rfl, by decide +kernel⟩
theorem lq_X6_15 : zPF RX6 15 6 6 (.array .int) := ⟨_, _, rfl, by decide, zT_mem 272 (by decide +kernel) (by decide +kernel), rfl, rfl, by decide +kernel⟩
theorem lq_X7_18 : zPF RX7 18 7 0 (.object "DukeIsLost$Duchy") := ⟨_, _, rfl, by decide, zT_mem 348 (by decide +kernel) (by decide +kernel), rfl, rfl, by decide +kernel⟩
theorem lq_X7_22 : zPF RX7 22 7 1 (.object "DukeIsLost$Weeks") := ⟨_, _, rfl, by decide, zT_mem 349 (by decide +kernel) (by decide +kernel), rfl, rfl, by decide +kernel⟩
theorem lq_X8_9 : zPF RX8 9 8 0 (.array .int) := ⟨_, _, rfl, by decide, zT_mem 212 (by decide +kernel) (by decide +kernel), rfl, rfl, by decide +kernel⟩
theorem lq_X8_15 : zPF RX8 15 8 1 (.array .int) := ⟨_, _, rfl, by decide, zT_mem 214 (by decide +kernel) (by decide +kernel), rfl, rfl, by decide +kernel⟩
theorem lq_X9_9 : zPF RX9 9 9 2 (.array .int) := ⟨_, _, rfl, by decide, zT_mem 302 (by decide +kernel) (by decide +kernel), rfl, rfl, by decide +kernel⟩
theorem lq_X9_15 : zPF RX9 15 9 0 (.object "DukeIsLost$Duchy") := ⟨_, _, rfl, by decide, zT_mem 300 (by decide +kernel) (by decide +kernel), rfl, rfl, by decide +kernel⟩
theorem lq_X9_19 : zPF RX9 19 9 1 (.object "DukeIsLost$Book") := ⟨_, _, rfl, by decide, zT_mem 301 (by decide +kernel) (by decide +kernel), rfl, rfl, by decide +kernel⟩
theorem li_X2_25 : yCIN RX2 25 yX3_init cX3_init 1 0 := ⟨by decide +kernel, zT_mem 127 (by decide +kernel) (by decide +kernel), rfl, y_ini3, zT_mem 128 (by decide +kernel) (by decide +kernel), by decide +kernel, by decide⟩
set_option maxRecDepth 20000 in
theorem k_X3 {κ : Nat → ClassId} {h : Nat} : Yc 1 yX3_init cX3_init 1 none [.ref h] κ h ([.inr (3, [.int 0, .int 0, .int 0, .int 0])]) 0 (fun r s' => r = none ∧ s' = [.inr (3, [.int 0, .int 0, .int 0, .int 0])]) := by
  refine Yc.mk 0 [.ref h] rfl (by decide) (Nat.le_of_ble_eq_true rfl) ?_
  refine Yw_aload dX3_init_0 rfl rfl ?_
  refine Yw_obj dX3_init_1 y_ob_X3_3 y_obi y_obc (by decide) (show (0 : Nat) ≤ 8 by decide) ?_
  exact Yw_ret dX3_init_4 rfl ⟨rfl, rfl⟩
set_option maxRecDepth 20000 in
theorem k_X8 {κ : Nat → ClassId} {h : Nat} : Yc 1 yX8_init cX8_init 1 none [.ref h] κ h ([.inr (8, [.null, .null, .int 0, .int 0])]) 2 (fun r s' => r = none ∧ s' = [.inr (8, [.ref (h + 1), .ref (h + 2), .int 0, .int 0]), .inl (κ 0, 160, .inl (fun _ => 0)), .inl (κ 0, 4, .inl (fun _ => 0))]) := by
  refine Yc.mk 0 [.ref h] rfl (by decide) (Nat.le_of_ble_eq_true rfl) ?_
  refine Yw_aload dX8_init_0 rfl rfl ?_
  refine Yw_obj dX8_init_1 y_ob_X8_3 y_obi y_obc (by decide) (show (0 : Nat) ≤ 8 by decide) ?_
  refine Yw_aload dX8_init_4 rfl rfl ?_
  refine Yw_sipush (v := 160) dX8_init_5 (by decide) ?_
  refine Yw_newa_int (n := 1) (N := 160) dX8_init_8 y_arr0 (by decide) (by decide) (by decide) rfl ?_
  dsimp only [List.cons_append, List.nil_append, List.set_cons_zero, List.set_cons_succ]
  refine Yw_putF (q := 0) lq_X8_9 rfl dX8_init_10 rfl (Nat.lt_of_lt_of_eq (m := 4) (by decide) rfl) rfl rfl ?_
  dsimp only [List.cons_append, List.nil_append, List.set_cons_zero, List.set_cons_succ]
  refine Yw_aload dX8_init_13 rfl rfl ?_
  refine Yw_iconst (v := 4) dX8_init_14 (by decide) ?_
  refine Yw_newa_int (n := 2) (N := 4) dX8_init_15 y_arr0 (by decide) (by decide) (by decide) rfl ?_
  dsimp only [List.cons_append, List.nil_append, List.set_cons_zero, List.set_cons_succ]
  refine Yw_putF (q := 0) lq_X8_15 rfl dX8_init_17 rfl (Nat.lt_of_lt_of_eq (m := 4) (by decide) rfl) rfl rfl ?_
  dsimp only [List.cons_append, List.nil_append, List.set_cons_zero, List.set_cons_succ]
  exact Yw_ret dX8_init_20 rfl ⟨rfl, rfl⟩
set_option maxRecDepth 20000 in
theorem k_X6 {κ : Nat → ClassId} {h : Nat} : Yc 1 yX6_init cX6_init 1 none [.ref h] κ h ([.inr (6, [.null, .int 0, .int 0, .int 0, .int 0, .int 0, .null, .int 0, .int 0])]) 2 (fun r s' => r = none ∧ s' = [.inr (6, [.ref (h + 1), .int 0, .int 0, .int 0, .int 0, .int 0, .ref (h + 2), .int 0, .int 0]), .inl (κ 0, 160, .inl (fun _ => 0)), .inl (κ 0, 64, .inl (fun _ => 0))]) := by
  refine Yc.mk 0 [.ref h] rfl (by decide) (Nat.le_of_ble_eq_true rfl) ?_
  refine Yw_aload dX6_init_0 rfl rfl ?_
  refine Yw_obj dX6_init_1 y_ob_X6_3 y_obi y_obc (by decide) (show (0 : Nat) ≤ 8 by decide) ?_
  refine Yw_aload dX6_init_4 rfl rfl ?_
  refine Yw_sipush (v := 160) dX6_init_5 (by decide) ?_
  refine Yw_newa_int (n := 1) (N := 160) dX6_init_8 y_arr0 (by decide) (by decide) (by decide) rfl ?_
  dsimp only [List.cons_append, List.nil_append, List.set_cons_zero, List.set_cons_succ]
  refine Yw_putF (q := 0) lq_X6_9 rfl dX6_init_10 rfl (Nat.lt_of_lt_of_eq (m := 9) (by decide) rfl) rfl rfl ?_
  dsimp only [List.cons_append, List.nil_append, List.set_cons_zero, List.set_cons_succ]
  refine Yw_aload dX6_init_13 rfl rfl ?_
  refine Yw_bipush (v := 64) dX6_init_14 (by decide) ?_
  refine Yw_newa_int (n := 2) (N := 64) dX6_init_16 y_arr0 (by decide) (by decide) (by decide) rfl ?_
  dsimp only [List.cons_append, List.nil_append, List.set_cons_zero, List.set_cons_succ]
  refine Yw_putF (q := 0) lq_X6_15 rfl dX6_init_18 rfl (Nat.lt_of_lt_of_eq (m := 9) (by decide) rfl) rfl rfl ?_
  dsimp only [List.cons_append, List.nil_append, List.set_cons_zero, List.set_cons_succ]
  exact Yw_ret dX6_init_21 rfl ⟨rfl, rfl⟩
set_option maxRecDepth 20000 in
theorem k_X5 {κ : Nat → ClassId} {h : Nat} : Yc 1 yX5_init cX5_init 1 none [.ref h] κ h ([.inr (5, [.null, .int 0, .int 0])]) 1 (fun r s' => r = none ∧ s' = [.inr (5, [.ref (h + 1), .int (-1), .int 0]), .inl (κ 0, 40, .inl (fun _ => 0))]) := by
  refine Yc.mk 0 [.ref h] rfl (by decide) (Nat.le_of_ble_eq_true rfl) ?_
  refine Yw_aload dX5_init_0 rfl rfl ?_
  refine Yw_obj dX5_init_1 y_ob_X5_3 y_obi y_obc (by decide) (show (0 : Nat) ≤ 8 by decide) ?_
  refine Yw_aload dX5_init_4 rfl rfl ?_
  refine Yw_bipush (v := 40) dX5_init_5 (by decide) ?_
  refine Yw_newa_int (n := 1) (N := 40) dX5_init_7 y_arr0 (by decide) (by decide) (by decide) rfl ?_
  dsimp only [List.cons_append, List.nil_append, List.set_cons_zero, List.set_cons_succ]
  refine Yw_putF (q := 0) lq_X5_9 rfl dX5_init_9 rfl (Nat.lt_of_lt_of_eq (m := 3) (by decide) rfl) rfl rfl ?_
  dsimp only [List.cons_append, List.nil_append, List.set_cons_zero, List.set_cons_succ]
  refine Yw_aload dX5_init_12 rfl rfl ?_
  refine Yw_iconst (v := (-1)) dX5_init_13 (by decide) ?_
  refine Yw_put (q := 0) lp_X5_15 dX5_init_14 rfl (Nat.lt_of_lt_of_eq (m := 3) (by decide) rfl) rfl rfl ?_
  dsimp only [List.cons_append, List.nil_append, List.set_cons_zero, List.set_cons_succ]
  exact Yw_ret dX5_init_17 rfl ⟨rfl, rfl⟩
set_option maxRecDepth 20000 in
theorem k_X1 {κ : Nat → ClassId} {h : Nat} {a1 a2 : Nat} : Yc 1 yX1_init cX1_init 3 none [.ref h, .ref a1, .ref a2] κ h ([.inr (1, [.null, .null, .int 0, .int 0, .int 0])]) 0 (fun r s' => r = none ∧ s' = [.inr (1, [.ref a1, .ref a2, .int 0, .int 0, .int 0])]) := by
  refine Yc.mk 0 [.ref h, .ref a1, .ref a2] rfl (by decide) (Nat.le_of_ble_eq_true rfl) ?_
  refine Yw_aload dX1_init_0 rfl rfl ?_
  refine Yw_obj dX1_init_1 y_ob_X1_3 y_obi y_obc (by decide) (show (0 : Nat) ≤ 8 by decide) ?_
  refine Yw_aload dX1_init_4 rfl rfl ?_
  refine Yw_aload dX1_init_5 rfl rfl ?_
  refine Yw_putF (q := 0) lq_X1_9 rfl dX1_init_6 rfl (Nat.lt_of_lt_of_eq (m := 5) (by decide) rfl) rfl rfl ?_
  dsimp only [List.cons_append, List.nil_append, List.set_cons_zero, List.set_cons_succ]
  refine Yw_aload dX1_init_9 rfl rfl ?_
  refine Yw_aload dX1_init_10 rfl rfl ?_
  refine Yw_putF (q := 0) lq_X1_15 rfl dX1_init_11 rfl (Nat.lt_of_lt_of_eq (m := 5) (by decide) rfl) rfl rfl ?_
  dsimp only [List.cons_append, List.nil_append, List.set_cons_zero, List.set_cons_succ]
  exact Yw_ret dX1_init_14 rfl ⟨rfl, rfl⟩
set_option maxRecDepth 20000 in
theorem k_X4 {κ : Nat → ClassId} {h : Nat} {a1 a2 : Nat} : Yc 1 yX4_init cX4_init 3 none [.ref h, .ref a1, .ref a2] κ h ([.inr (4, [.null, .null, .null, .null, .null, .int 0, .int 0, .int 0])]) 3 (fun r s' => r = none ∧ s' = [.inr (4, [.ref a1, .ref a2, .ref (h + 1), .ref (h + 2), .ref (h + 3), .int 0, .int 0, .int 0]), .inl (κ 0, 256, .inl (fun _ => 0)), .inl (κ 0, 2048, .inl (fun _ => 0)), .inl (κ 0, 2048, .inl (fun _ => 0))]) := by
  refine Yc.mk 0 [.ref h, .ref a1, .ref a2] rfl (by decide) (Nat.le_of_ble_eq_true rfl) ?_
  refine Yw_aload dX4_init_0 rfl rfl ?_
  refine Yw_obj dX4_init_1 y_ob_X4_3 y_obi y_obc (by decide) (show (0 : Nat) ≤ 8 by decide) ?_
  refine Yw_aload dX4_init_4 rfl rfl ?_
  refine Yw_sipush (v := 256) dX4_init_5 (by decide) ?_
  refine Yw_newa_int (n := 1) (N := 256) dX4_init_8 y_arr0 (by decide) (by decide) (by decide) rfl ?_
  dsimp only [List.cons_append, List.nil_append, List.set_cons_zero, List.set_cons_succ]
  refine Yw_putF (q := 0) lq_X4_9 rfl dX4_init_10 rfl (Nat.lt_of_lt_of_eq (m := 8) (by decide) rfl) rfl rfl ?_
  dsimp only [List.cons_append, List.nil_append, List.set_cons_zero, List.set_cons_succ]
  refine Yw_aload dX4_init_13 rfl rfl ?_
  refine Yw_sipush (v := 2048) dX4_init_14 (by decide) ?_
  refine Yw_newa_int (n := 2) (N := 2048) dX4_init_17 y_arr0 (by decide) (by decide) (by decide) rfl ?_
  dsimp only [List.cons_append, List.nil_append, List.set_cons_zero, List.set_cons_succ]
  refine Yw_putF (q := 0) lq_X4_15 rfl dX4_init_19 rfl (Nat.lt_of_lt_of_eq (m := 8) (by decide) rfl) rfl rfl ?_
  dsimp only [List.cons_append, List.nil_append, List.set_cons_zero, List.set_cons_succ]
  refine Yw_aload dX4_init_22 rfl rfl ?_
  refine Yw_sipush (v := 2048) dX4_init_23 (by decide) ?_
  refine Yw_newa_int (n := 3) (N := 2048) dX4_init_26 y_arr0 (by decide) (by decide) (by decide) rfl ?_
  dsimp only [List.cons_append, List.nil_append, List.set_cons_zero, List.set_cons_succ]
  refine Yw_putF (q := 0) lq_X4_18 rfl dX4_init_28 rfl (Nat.lt_of_lt_of_eq (m := 8) (by decide) rfl) rfl rfl ?_
  dsimp only [List.cons_append, List.nil_append, List.set_cons_zero, List.set_cons_succ]
  refine Yw_aload dX4_init_31 rfl rfl ?_
  refine Yw_aload dX4_init_32 rfl rfl ?_
  refine Yw_putF (q := 0) lq_X4_21 rfl dX4_init_33 rfl (Nat.lt_of_lt_of_eq (m := 8) (by decide) rfl) rfl rfl ?_
  dsimp only [List.cons_append, List.nil_append, List.set_cons_zero, List.set_cons_succ]
  refine Yw_aload dX4_init_36 rfl rfl ?_
  refine Yw_aload dX4_init_37 rfl rfl ?_
  refine Yw_putF (q := 0) lq_X4_25 rfl dX4_init_38 rfl (Nat.lt_of_lt_of_eq (m := 8) (by decide) rfl) rfl rfl ?_
  dsimp only [List.cons_append, List.nil_append, List.set_cons_zero, List.set_cons_succ]
  exact Yw_ret dX4_init_41 rfl ⟨rfl, rfl⟩
set_option maxRecDepth 20000 in
theorem k_X7 {κ : Nat → ClassId} {h : Nat} {a1 a2 : Nat} : Yc 1 yX7_init cX7_init 3 none [.ref h, .ref a1, .ref a2] κ h ([.inr (7, [.null, .null, .null, .null, .int 0, .int 0, .int 0])]) 2 (fun r s' => r = none ∧ s' = [.inr (7, [.ref a1, .ref a2, .ref (h + 1), .ref (h + 2), .int 0, .int 0, .int 0]), .inl (κ 0, 8, .inl (fun _ => 0)), .inl (κ 0, 8, .inl (fun _ => 0))]) := by
  refine Yc.mk 0 [.ref h, .ref a1, .ref a2] rfl (by decide) (Nat.le_of_ble_eq_true rfl) ?_
  refine Yw_aload dX7_init_0 rfl rfl ?_
  refine Yw_obj dX7_init_1 y_ob_X7_3 y_obi y_obc (by decide) (show (0 : Nat) ≤ 8 by decide) ?_
  refine Yw_aload dX7_init_4 rfl rfl ?_
  refine Yw_bipush (v := 8) dX7_init_5 (by decide) ?_
  refine Yw_newa_int (n := 1) (N := 8) dX7_init_7 y_arr0 (by decide) (by decide) (by decide) rfl ?_
  dsimp only [List.cons_append, List.nil_append, List.set_cons_zero, List.set_cons_succ]
  refine Yw_put (q := 0) lp_X7_9 dX7_init_9 rfl (Nat.lt_of_lt_of_eq (m := 7) (by decide) rfl) rfl rfl ?_
  dsimp only [List.cons_append, List.nil_append, List.set_cons_zero, List.set_cons_succ]
  refine Yw_aload dX7_init_12 rfl rfl ?_
  refine Yw_bipush (v := 8) dX7_init_13 (by decide) ?_
  refine Yw_newa_int (n := 2) (N := 8) dX7_init_15 y_arr0 (by decide) (by decide) (by decide) rfl ?_
  dsimp only [List.cons_append, List.nil_append, List.set_cons_zero, List.set_cons_succ]
  refine Yw_put (q := 0) lp_X7_15 dX7_init_17 rfl (Nat.lt_of_lt_of_eq (m := 7) (by decide) rfl) rfl rfl ?_
  dsimp only [List.cons_append, List.nil_append, List.set_cons_zero, List.set_cons_succ]
  refine Yw_aload dX7_init_20 rfl rfl ?_
  refine Yw_aload dX7_init_21 rfl rfl ?_
  refine Yw_putF (q := 0) lq_X7_18 rfl dX7_init_22 rfl (Nat.lt_of_lt_of_eq (m := 7) (by decide) rfl) rfl rfl ?_
  dsimp only [List.cons_append, List.nil_append, List.set_cons_zero, List.set_cons_succ]
  refine Yw_aload dX7_init_25 rfl rfl ?_
  refine Yw_aload dX7_init_26 rfl rfl ?_
  refine Yw_putF (q := 0) lq_X7_22 rfl dX7_init_27 rfl (Nat.lt_of_lt_of_eq (m := 7) (by decide) rfl) rfl rfl ?_
  dsimp only [List.cons_append, List.nil_append, List.set_cons_zero, List.set_cons_succ]
  exact Yw_ret dX7_init_30 rfl ⟨rfl, rfl⟩
set_option maxRecDepth 20000 in
theorem k_X9 {κ : Nat → ClassId} {h : Nat} {a1 a2 : Nat} : Yc 1 yX9_init cX9_init 3 none [.ref h, .ref a1, .ref a2] κ h ([.inr (9, [.null, .null, .null])]) 1 (fun r s' => r = none ∧ s' = [.inr (9, [.ref a1, .ref a2, .ref (h + 1)]), .inl (κ 0, 8, .inl (fun _ => 0))]) := by
  refine Yc.mk 0 [.ref h, .ref a1, .ref a2] rfl (by decide) (Nat.le_of_ble_eq_true rfl) ?_
  refine Yw_aload dX9_init_0 rfl rfl ?_
  refine Yw_obj dX9_init_1 y_ob_X9_3 y_obi y_obc (by decide) (show (0 : Nat) ≤ 8 by decide) ?_
  refine Yw_aload dX9_init_4 rfl rfl ?_
  refine Yw_bipush (v := 8) dX9_init_5 (by decide) ?_
  refine Yw_newa_int (n := 1) (N := 8) dX9_init_7 y_arr0 (by decide) (by decide) (by decide) rfl ?_
  dsimp only [List.cons_append, List.nil_append, List.set_cons_zero, List.set_cons_succ]
  refine Yw_putF (q := 0) lq_X9_9 rfl dX9_init_9 rfl (Nat.lt_of_lt_of_eq (m := 3) (by decide) rfl) rfl rfl ?_
  dsimp only [List.cons_append, List.nil_append, List.set_cons_zero, List.set_cons_succ]
  refine Yw_aload dX9_init_12 rfl rfl ?_
  refine Yw_aload dX9_init_13 rfl rfl ?_
  refine Yw_putF (q := 0) lq_X9_15 rfl dX9_init_14 rfl (Nat.lt_of_lt_of_eq (m := 3) (by decide) rfl) rfl rfl ?_
  dsimp only [List.cons_append, List.nil_append, List.set_cons_zero, List.set_cons_succ]
  refine Yw_aload dX9_init_17 rfl rfl ?_
  refine Yw_aload dX9_init_18 rfl rfl ?_
  refine Yw_putF (q := 0) lq_X9_19 rfl dX9_init_19 rfl (Nat.lt_of_lt_of_eq (m := 3) (by decide) rfl) rfl rfl ?_
  dsimp only [List.cons_append, List.nil_append, List.set_cons_zero, List.set_cons_succ]
  exact Yw_ret dX9_init_22 rfl ⟨rfl, rfl⟩
set_option maxRecDepth 20000 in
theorem k_within {κ : Nat → ClassId} {h : Nat} {suf : List va_E} {a b : Int32} (h1 : ¬ a < 0) (h2 : ¬ b ≤ a) : Yc 0 yX10_within cX10_within 2 (some .boolean) [.int a, .int b] κ h suf 0 (fun r s' => r = some (.int 1) ∧ s' = suf) := by
  refine Yc.mk 0 [.int a, .int b] rfl (by decide) (Nat.le_of_ble_eq_true rfl) ?_
  refine Yw_iload dX10_within_0 rfl rfl ?_
  refine Yw_if_lt_f 13 dX10_within_1 (by decide) h1 ?_
  refine Yw_iload dX10_within_4 rfl rfl ?_
  refine Yw_iload dX10_within_5 rfl rfl ?_
  refine Yw_icmp_ge_f 13 dX10_within_6 (by decide) h2 ?_
  refine Yw_iconst (v := 1) dX10_within_9 (by decide) ?_
  refine Yw_goto 14 dX10_within_10 (by decide) ?_
  exact Yw_ireturn dX10_within_14 rfl rfl ⟨rfl, rfl⟩
set_option maxRecDepth 20000 in
theorem k_X2 {κ : Nat → ClassId} {h : Nat} : Yc 2 yX2_init cX2_init 2 none [.ref h] κ h ([.inr (2, [.null, .null, .int 0, .int 0, .int 0, .int 0, .int 0, .int 0])]) 7 (fun r s' => r = none ∧ s' = [.inr (2, [.ref (h + 1), .ref (h + 2), .int 0, .int 0, .int 0, .int 0, .int 255, .int 0]), .inl (κ 0, 8, .inl (fun _ => 0)), .inl (κ 2, 5, .inr (.inr (.inr (.inr (va_up (va_up (va_up (va_up (va_up (fun _ => none) (0 : Int32).toNatClampNeg (some (h + 3))) (1 : Int32).toNatClampNeg (some (h + 4))) (2 : Int32).toNatClampNeg (some (h + 5))) (3 : Int32).toNatClampNeg (some (h + 6))) (4 : Int32).toNatClampNeg (some (h + 7))))))), .inr (3, [.int 0, .int 0, .int 0, .int 0]), .inr (3, [.int 0, .int 0, .int 0, .int 0]), .inr (3, [.int 0, .int 0, .int 0, .int 0]), .inr (3, [.int 0, .int 0, .int 0, .int 0]), .inr (3, [.int 0, .int 0, .int 0, .int 0])]) := by
  refine Yc.mk 1 [.ref h, .null] rfl (by decide) (Nat.le_of_ble_eq_true rfl) ?_
  refine Yw_aload dX2_init_0 rfl rfl ?_
  refine Yw_obj dX2_init_1 y_ob_X2_3 y_obi y_obc (by decide) (show (0 : Nat) ≤ 8 by decide) ?_
  refine Yw_aload dX2_init_4 rfl rfl ?_
  refine Yw_bipush (v := 8) dX2_init_5 (by decide) ?_
  refine Yw_newa_int (n := 1) (N := 8) dX2_init_7 y_arr0 (by decide) (by decide) (by decide) rfl ?_
  dsimp only [List.cons_append, List.nil_append, List.set_cons_zero, List.set_cons_succ]
  refine Yw_putF (q := 0) lq_X2_9 rfl dX2_init_9 rfl (Nat.lt_of_lt_of_eq (m := 8) (by decide) rfl) rfl rfl ?_
  dsimp only [List.cons_append, List.nil_append, List.set_cons_zero, List.set_cons_succ]
  refine Yw_aload dX2_init_12 rfl rfl ?_
  refine Yw_iconst (v := 5) dX2_init_13 (by decide) ?_
  refine Yw_newq (n := 2) (N := 5) (t := 2) dX2_init_14 y_cl_X2_15 rfl (fun U hU => hU.2.1) (by decide) (by decide) (by decide) rfl ?_
  dsimp only [List.cons_append, List.nil_append, List.set_cons_zero, List.set_cons_succ]
  refine Yw_putF (q := 0) lq_X2_17 rfl dX2_init_17 rfl (Nat.lt_of_lt_of_eq (m := 8) (by decide) rfl) rfl rfl ?_
  dsimp only [List.cons_append, List.nil_append, List.set_cons_zero, List.set_cons_succ]
  refine Yw_aload dX2_init_20 rfl rfl ?_
  refine Yw_sipush (v := 255) dX2_init_21 (by decide) ?_
  refine Yw_put (q := 0) lp_X2_21 dX2_init_24 rfl (Nat.lt_of_lt_of_eq (m := 8) (by decide) rfl) rfl rfl ?_
  dsimp only [List.cons_append, List.nil_append, List.set_cons_zero, List.set_cons_succ]
  refine Yw_iconst (v := 0) dX2_init_27 (by decide) ?_
  refine Yw_istore (L' := [.ref h, .int 0]) dX2_init_28 rfl (by decide) (fun w _ hw => by cases hw; decide) rfl ?_
  refine Yw_iload dX2_init_29 rfl rfl ?_
  refine Yw_iconst (v := 5) dX2_init_30 (by decide) ?_
  refine Yw_icmp_ge_f 53 dX2_init_31 (by decide) (by decide) ?_
  refine Yw_aload dX2_init_34 rfl rfl ?_
  refine Yw_get (q := 0) lf_X2_17 dX2_init_35 rfl rfl ?_
  refine Yw_iload dX2_init_38 rfl rfl ?_
  refine Yw_new (ci := 3) (n := 3) (fs := y_bl3) rfl y_cl_X2_15 y_in3 y_ini3 y_fs3 (by decide) dX2_init_39 rfl ?_
  refine Yw_dup dX2_init_42 rfl ?_
  refine Yw_IN (k := 1) (B1 := 0) (B2 := 4) (n1 := 3) _ _ [] [.ref (h + 3), .int 0, .ref (h + 2)] li_X2_25 dX2_init_43 (by decide) rfl rfl rfl rfl (show (3 : Nat) ≤ 8 by decide) (Yc.imp (fun r s1 hq => ?_) k_X3)
  obtain ⟨rfl, rfl⟩ := hq
  dsimp only [Option.toList, List.cons_append, List.nil_append]
  refine Yw_aast (q := 2) (qk := 3) (t := 2) (ci := 3) dX2_init_46 rfl rfl rfl rfl (by decide) ?_
  dsimp only [List.cons_append, List.nil_append, List.set_cons_zero, List.set_cons_succ]
  refine Yw_iinc (z := 1) (L' := [.ref h, .int 1]) dX2_init_47 rfl (by decide) (by decide) (fun w _ hw => by cases hw; decide) rfl ?_
  refine Yw_goto 29 dX2_init_50 (by decide) ?_
  refine Yw_iload dX2_init_29 rfl rfl ?_
  refine Yw_iconst (v := 5) dX2_init_30 (by decide) ?_
  refine Yw_icmp_ge_f 53 dX2_init_31 (by decide) (by decide) ?_
  refine Yw_aload dX2_init_34 rfl rfl ?_
  refine Yw_get (q := 0) lf_X2_17 dX2_init_35 rfl rfl ?_
  refine Yw_iload dX2_init_38 rfl rfl ?_
  refine Yw_new (ci := 3) (n := 4) (fs := y_bl3) rfl y_cl_X2_15 y_in3 y_ini3 y_fs3 (by decide) dX2_init_39 rfl ?_
  refine Yw_dup dX2_init_42 rfl ?_
  refine Yw_IN (k := 1) (B1 := 0) (B2 := 3) (n1 := 4) _ _ [] [.ref (h + 4), .int 1, .ref (h + 2)] li_X2_25 dX2_init_43 (by decide) rfl rfl rfl rfl (show (3 : Nat) ≤ 8 by decide) (Yc.imp (fun r s1 hq => ?_) k_X3)
  obtain ⟨rfl, rfl⟩ := hq
  dsimp only [Option.toList, List.cons_append, List.nil_append]
  refine Yw_aast (q := 2) (qk := 4) (t := 2) (ci := 3) dX2_init_46 rfl rfl rfl rfl (by decide) ?_
  dsimp only [List.cons_append, List.nil_append, List.set_cons_zero, List.set_cons_succ]
  refine Yw_iinc (z := 2) (L' := [.ref h, .int 2]) dX2_init_47 rfl (by decide) (by decide) (fun w _ hw => by cases hw; decide) rfl ?_
  refine Yw_goto 29 dX2_init_50 (by decide) ?_
  refine Yw_iload dX2_init_29 rfl rfl ?_
  refine Yw_iconst (v := 5) dX2_init_30 (by decide) ?_
  refine Yw_icmp_ge_f 53 dX2_init_31 (by decide) (by decide) ?_
  refine Yw_aload dX2_init_34 rfl rfl ?_
  refine Yw_get (q := 0) lf_X2_17 dX2_init_35 rfl rfl ?_
  refine Yw_iload dX2_init_38 rfl rfl ?_
  refine Yw_new (ci := 3) (n := 5) (fs := y_bl3) rfl y_cl_X2_15 y_in3 y_ini3 y_fs3 (by decide) dX2_init_39 rfl ?_
  refine Yw_dup dX2_init_42 rfl ?_
  refine Yw_IN (k := 1) (B1 := 0) (B2 := 2) (n1 := 5) _ _ [] [.ref (h + 5), .int 2, .ref (h + 2)] li_X2_25 dX2_init_43 (by decide) rfl rfl rfl rfl (show (3 : Nat) ≤ 8 by decide) (Yc.imp (fun r s1 hq => ?_) k_X3)
  obtain ⟨rfl, rfl⟩ := hq
  dsimp only [Option.toList, List.cons_append, List.nil_append]
  refine Yw_aast (q := 2) (qk := 5) (t := 2) (ci := 3) dX2_init_46 rfl rfl rfl rfl (by decide) ?_
  dsimp only [List.cons_append, List.nil_append, List.set_cons_zero, List.set_cons_succ]
  refine Yw_iinc (z := 3) (L' := [.ref h, .int 3]) dX2_init_47 rfl (by decide) (by decide) (fun w _ hw => by cases hw; decide) rfl ?_
  refine Yw_goto 29 dX2_init_50 (by decide) ?_
  refine Yw_iload dX2_init_29 rfl rfl ?_
  refine Yw_iconst (v := 5) dX2_init_30 (by decide) ?_
  refine Yw_icmp_ge_f 53 dX2_init_31 (by decide) (by decide) ?_
  refine Yw_aload dX2_init_34 rfl rfl ?_
  refine Yw_get (q := 0) lf_X2_17 dX2_init_35 rfl rfl ?_
  refine Yw_iload dX2_init_38 rfl rfl ?_
  refine Yw_new (ci := 3) (n := 6) (fs := y_bl3) rfl y_cl_X2_15 y_in3 y_ini3 y_fs3 (by decide) dX2_init_39 rfl ?_
  refine Yw_dup dX2_init_42 rfl ?_
  refine Yw_IN (k := 1) (B1 := 0) (B2 := 1) (n1 := 6) _ _ [] [.ref (h + 6), .int 3, .ref (h + 2)] li_X2_25 dX2_init_43 (by decide) rfl rfl rfl rfl (show (3 : Nat) ≤ 8 by decide) (Yc.imp (fun r s1 hq => ?_) k_X3)
  obtain ⟨rfl, rfl⟩ := hq
  dsimp only [Option.toList, List.cons_append, List.nil_append]
  refine Yw_aast (q := 2) (qk := 6) (t := 2) (ci := 3) dX2_init_46 rfl rfl rfl rfl (by decide) ?_
  dsimp only [List.cons_append, List.nil_append, List.set_cons_zero, List.set_cons_succ]
  refine Yw_iinc (z := 4) (L' := [.ref h, .int 4]) dX2_init_47 rfl (by decide) (by decide) (fun w _ hw => by cases hw; decide) rfl ?_
  refine Yw_goto 29 dX2_init_50 (by decide) ?_
  refine Yw_iload dX2_init_29 rfl rfl ?_
  refine Yw_iconst (v := 5) dX2_init_30 (by decide) ?_
  refine Yw_icmp_ge_f 53 dX2_init_31 (by decide) (by decide) ?_
  refine Yw_aload dX2_init_34 rfl rfl ?_
  refine Yw_get (q := 0) lf_X2_17 dX2_init_35 rfl rfl ?_
  refine Yw_iload dX2_init_38 rfl rfl ?_
  refine Yw_new (ci := 3) (n := 7) (fs := y_bl3) rfl y_cl_X2_15 y_in3 y_ini3 y_fs3 (by decide) dX2_init_39 rfl ?_
  refine Yw_dup dX2_init_42 rfl ?_
  refine Yw_IN (k := 1) (B1 := 0) (B2 := 0) (n1 := 7) _ _ [] [.ref (h + 7), .int 4, .ref (h + 2)] li_X2_25 dX2_init_43 (by decide) rfl rfl rfl rfl (show (3 : Nat) ≤ 8 by decide) (Yc.imp (fun r s1 hq => ?_) k_X3)
  obtain ⟨rfl, rfl⟩ := hq
  dsimp only [Option.toList, List.cons_append, List.nil_append]
  refine Yw_aast (q := 2) (qk := 7) (t := 2) (ci := 3) dX2_init_46 rfl rfl rfl rfl (by decide) ?_
  dsimp only [List.cons_append, List.nil_append, List.set_cons_zero, List.set_cons_succ]
  refine Yw_iinc (z := 5) (L' := [.ref h, .int 5]) dX2_init_47 rfl (by decide) (by decide) (fun w _ hw => by cases hw; decide) rfl ?_
  refine Yw_goto 29 dX2_init_50 (by decide) ?_
  refine Yw_iload dX2_init_29 rfl rfl ?_
  refine Yw_iconst (v := 5) dX2_init_30 (by decide) ?_
  refine Yw_icmp_ge_t 53 dX2_init_31 (by decide) (by decide) ?_
  exact Yw_ret dX2_init_53 rfl ⟨rfl, rfl⟩
