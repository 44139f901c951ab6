theorem Yc.mk {d : Nat} {y : MethodName} {cc : ByteArray} {nL : Nat} {rt : Option FieldType} {as : List Value} {κ : Nat → ClassId} {h : Nat} {suf : List va_E} {B : Nat} {Q : yQ} (n : Nat) (L : List Value) (hL : zLa as ++ List.replicate n .null = L) (hy : plainName y.cls = true) (hn : L.length ≤ nL) (hh : Yw d y cc nL rt κ h (yEx cc rt h Q) B 0 L [] suf) : Yc d y cc nL rt as κ h suf B Q := by
  refine Yc.of L hy ?_ hn ?_ hh
  · rw [zLa_len]
    subst hL
    rw [List.length_append] at hn
    omega
  · intro i v h1 h2
    subst hL
    have h3 := zLa_ent as 0 i v
    rw [Nat.zero_add] at h3
    refine h3 ?_ h2
    rw [List.getElem?_append] at h1
    split at h1
    · exact h1
    · rw [List.getElem?_replicate] at h1
      split at h1
      · cases h1; exact absurd rfl h2
      · cases h1
theorem y_arr0 : Cond.arrayClass .int ∈ zT := zT_mem 154 (by decide +kernel) (by decide +kernel)
theorem y_arr1 : Cond.arrayClass .boolean ∈ zT := zT_mem 1107 (by decide +kernel) (by decide +kernel)
theorem y_obi : Cond.instanceMethod Lib.objectInit ∈ zT := zT_mem 115 (by decide +kernel) (by decide +kernel)
theorem y_obc : Cond.code Lib.objectInit ⟨#[0xb1]⟩ 1 none ∈ zT := zT_mem 116 (by decide +kernel) (by decide +kernel)
theorem y_in0 : Cond.instantiable RX0 4 ∈ zT := zT_mem 200 (by decide +kernel) (by decide +kernel)
theorem y_ini0 : Cond.initialized RX0 ∈ zT := zT_mem 91 (by decide +kernel) (by decide +kernel)
abbrev y_bl0 : List Value := [.null, .null, .null, .int 0]
theorem y_fs0 : ∀ j, j < 4 → defaultValue (zTy 0 j) = vp_V y_bl0 j
  | 0, _ => rfl
  | 1, _ => rfl
  | 2, _ => rfl
  | 3, _ => rfl
  | j + 4, h => absurd h (by omega)
theorem y_in1 : Cond.instantiable RX1 5 ∈ zT := zT_mem 374 (by decide +kernel) (by decide +kernel)
theorem y_ini1 : Cond.initialized RX1 ∈ zT := zT_mem 97 (by decide +kernel) (by decide +kernel)
abbrev y_bl1 : List Value := [.null, .null, .int 0, .int 0, .int 0]
theorem y_fs1 : ∀ j, j < 5 → defaultValue (zTy 1 j) = vp_V y_bl1 j
  | 0, _ => rfl
  | 1, _ => rfl
  | 2, _ => rfl
  | 3, _ => rfl
  | 4, _ => rfl
  | j + 5, h => absurd h (by omega)
theorem y_in2 : Cond.instantiable RX2 8 ∈ zT := zT_mem 118 (by decide +kernel) (by decide +kernel)
theorem y_ini2 : Cond.initialized RX2 ∈ zT := zT_mem 89 (by decide +kernel) (by decide +kernel)
abbrev y_bl2 : List Value := [.null, .null, .int 0, .int 0, .int 0, .int 0, .int 0, .int 0]
theorem y_fs2 : ∀ j, j < 8 → defaultValue (zTy 2 j) = vp_V y_bl2 j
  | 0, _ => rfl
  | 1, _ => rfl
  | 2, _ => rfl
  | 3, _ => rfl
  | 4, _ => rfl
  | 5, _ => rfl
  | 6, _ => rfl
  | 7, _ => rfl
  | j + 8, h => absurd h (by omega)
theorem y_in3 : Cond.instantiable RX3 4 ∈ zT := zT_mem 125 (by decide +kernel) (by decide +kernel)
theorem y_ini3 : Cond.initialized RX3 ∈ zT := zT_mem 90 (by decide +kernel) (by decide +kernel)
abbrev y_bl3 : List Value := [.int 0, .int 0, .int 0, .int 0]
theorem y_fs3 : ∀ j, j < 4 → defaultValue (zTy 3 j) = vp_V y_bl3 j
  | 0, _ => rfl
  | 1, _ => rfl
  | 2, _ => rfl
  | 3, _ => rfl
  | j + 4, h => absurd h (by omega)
theorem y_in4 : Cond.instantiable RX4 8 ∈ zT := zT_mem 312 (by decide +kernel) (by decide +kernel)
theorem y_ini4 : Cond.initialized RX4 ∈ zT := zT_mem 95 (by decide +kernel) (by decide +kernel)
abbrev y_bl4 : List Value := [.null, .null, .null, .null, .null, .int 0, .int 0, .int 0]
theorem y_fs4 : ∀ j, j < 8 → defaultValue (zTy 4 j) = vp_V y_bl4 j
  | 0, _ => rfl
  | 1, _ => rfl
  | 2, _ => rfl
  | 3, _ => rfl
  | 4, _ => rfl
  | 5, _ => rfl
  | 6, _ => rfl
  | 7, _ => rfl
  | j + 8, h => absurd h (by omega)
theorem y_in5 : Cond.instantiable RX5 3 ∈ zT := zT_mem 398 (by decide +kernel) (by decide +kernel)
theorem y_ini5 : Cond.initialized RX5 ∈ zT := zT_mem 98 (by decide +kernel) (by decide +kernel)
abbrev y_bl5 : List Value := [.null, .int 0, .int 0]
theorem y_fs5 : ∀ j, j < 3 → defaultValue (zTy 5 j) = vp_V y_bl5 j
  | 0, _ => rfl
  | 1, _ => rfl
  | 2, _ => rfl
  | j + 3, h => absurd h (by omega)
theorem y_in6 : Cond.instantiable RX6 9 ∈ zT := zT_mem 260 (by decide +kernel) (by decide +kernel)
theorem y_ini6 : Cond.initialized RX6 ∈ zT := zT_mem 93 (by decide +kernel) (by decide +kernel)
abbrev y_bl6 : List Value := [.null, .int 0, .int 0, .int 0, .int 0, .int 0, .null, .int 0, .int 0]
theorem y_fs6 : ∀ j, j < 9 → defaultValue (zTy 6 j) = vp_V y_bl6 j
  | 0, _ => rfl
  | 1, _ => rfl
  | 2, _ => rfl
  | 3, _ => rfl
  | 4, _ => rfl
  | 5, _ => rfl
  | 6, _ => rfl
  | 7, _ => rfl
  | 8, _ => rfl
  | j + 9, h => absurd h (by omega)
theorem y_in7 : Cond.instantiable RX7 7 ∈ zT := zT_mem 343 (by decide +kernel) (by decide +kernel)
theorem y_ini7 : Cond.initialized RX7 ∈ zT := zT_mem 96 (by decide +kernel) (by decide +kernel)
abbrev y_bl7 : List Value := [.null, .null, .null, .null, .int 0, .int 0, .int 0]
theorem y_fs7 : ∀ j, j < 7 → defaultValue (zTy 7 j) = vp_V y_bl7 j
  | 0, _ => rfl
  | 1, _ => rfl
  | 2, _ => rfl
  | 3, _ => rfl
  | 4, _ => rfl
  | 5, _ => rfl
  | 6, _ => rfl
  | j + 7, h => absurd h (by omega)
theorem y_in8 : Cond.instantiable RX8 4 ∈ zT := zT_mem 207 (by decide +kernel) (by decide +kernel)
theorem y_ini8 : Cond.initialized RX8 ∈ zT := zT_mem 92 (by decide +kernel) (by decide +kernel)
abbrev y_bl8 : List Value := [.null, .null, .int 0, .int 0]
theorem y_fs8 : ∀ j, j < 4 → defaultValue (zTy 8 j) = vp_V y_bl8 j
  | 0, _ => rfl
  | 1, _ => rfl
  | 2, _ => rfl
  | 3, _ => rfl
  | j + 4, h => absurd h (by omega)
theorem y_in9 : Cond.instantiable RX9 3 ∈ zT := zT_mem 295 (by decide +kernel) (by decide +kernel)
theorem y_ini9 : Cond.initialized RX9 ∈ zT := zT_mem 94 (by decide +kernel) (by decide +kernel)
abbrev y_bl9 : List Value := [.null, .null, .null]
theorem y_fs9 : ∀ j, j < 3 → defaultValue (zTy 9 j) = vp_V y_bl9 j
  | 0, _ => rfl
  | 1, _ => rfl
  | 2, _ => rfl
  | j + 3, h => absurd h (by omega)
theorem y_in10 : Cond.instantiable RX10 10 ∈ zT := zT_mem 110 (by decide +kernel) (by decide +kernel)
theorem y_ini10 : Cond.initialized RX10 ∈ zT := zT_mem 88 (by decide +kernel) (by decide +kernel)
abbrev y_bl10 : List Value := [.null, .null, .null, .null, .null, .null, .null, .null, .null, .int 0]
theorem y_fs10 : ∀ j, j < 10 → defaultValue (zTy 10 j) = vp_V y_bl10 j
  | 0, _ => rfl
  | 1, _ => rfl
  | 2, _ => rfl
  | 3, _ => rfl
  | 4, _ => rfl
  | 5, _ => rfl
  | 6, _ => rfl
  | 7, _ => rfl
  | 8, _ => rfl
  | 9, _ => rfl
  | j + 10, h => absurd h (by omega)
theorem y_in11 : Cond.instantiable RX11 40 ∈ zT := zT_mem 978 (by decide +kernel) (by decide +kernel)
theorem y_ini11 : Cond.initialized RX11 ∈ zT := zT_mem 99 (by decide +kernel) (by decide +kernel)
abbrev y_bl11 : List Value := [.int 0, .null, .null, .int 0, .int 0, .null, .int 0, .null, .null, .null, .null, .int 0, .int 0, .int 0, .int 0, .int 0, .int 0, .int 0, .int 0, .int 0, .int 0, .int 0, .int 0, .long 0, .int 0, .int 0, .int 0, .null, .null, .int 0, .int 0, .null, .null, .null, .int 0, .int 0, .null, .null, .null, .null]
theorem y_fs11 : ∀ j, j < 40 → defaultValue (zTy 11 j) = vp_V y_bl11 j
  | 0, _ => rfl
  | 1, _ => rfl
  | 2, _ => rfl
  | 3, _ => rfl
  | 4, _ => rfl
  | 5, _ => rfl
  | 6, _ => rfl
  | 7, _ => rfl
  | 8, _ => rfl
  | 9, _ => rfl
  | 10, _ => rfl
  | 11, _ => rfl
  | 12, _ => rfl
  | 13, _ => rfl
  | 14, _ => rfl
  | 15, _ => rfl
  | 16, _ => rfl
  | 17, _ => rfl
  | 18, _ => rfl
  | 19, _ => rfl
  | 20, _ => rfl
  | 21, _ => rfl
  | 22, _ => rfl
  | 23, _ => rfl
  | 24, _ => rfl
  | 25, _ => rfl
  | 26, _ => rfl
  | 27, _ => rfl
  | 28, _ => rfl
  | 29, _ => rfl
  | 30, _ => rfl
  | 31, _ => rfl
  | 32, _ => rfl
  | 33, _ => rfl
  | 34, _ => rfl
  | 35, _ => rfl
  | 36, _ => rfl
  | 37, _ => rfl
  | 38, _ => rfl
  | 39, _ => rfl
  | j + 40, h => absurd h (by omega)
theorem y_ob_X0_3 : Cond.methodLink RX0 3 Lib.objectInit ∈ zT := zT_mem 204 (by decide +kernel) (by decide +kernel)
theorem y_ob_X1_3 : Cond.methodLink RX1 3 Lib.objectInit ∈ zT := zT_mem 378 (by decide +kernel) (by decide +kernel)
theorem y_ob_X2_3 : Cond.methodLink RX2 3 Lib.objectInit ∈ zT := zT_mem 122 (by decide +kernel) (by decide +kernel)
theorem y_ob_X3_3 : Cond.methodLink RX3 3 Lib.objectInit ∈ zT := zT_mem 129 (by decide +kernel) (by decide +kernel)
theorem y_ob_X4_3 : Cond.methodLink RX4 3 Lib.objectInit ∈ zT := zT_mem 316 (by decide +kernel) (by decide +kernel)
theorem y_ob_X5_3 : Cond.methodLink RX5 3 Lib.objectInit ∈ zT := zT_mem 402 (by decide +kernel) (by decide +kernel)
theorem y_ob_X6_3 : Cond.methodLink RX6 3 Lib.objectInit ∈ zT := zT_mem 264 (by decide +kernel) (by decide +kernel)
theorem y_ob_X7_3 : Cond.methodLink RX7 3 Lib.objectInit ∈ zT := zT_mem 347 (by decide +kernel) (by decide +kernel)
theorem y_ob_X8_3 : Cond.methodLink RX8 3 Lib.objectInit ∈ zT := zT_mem 211 (by decide +kernel) (by decide +kernel)
theorem y_ob_X9_3 : Cond.methodLink RX9 3 Lib.objectInit ∈ zT := zT_mem 299 (by decide +kernel) (by decide +kernel)
theorem y_ob_X10_1 : Cond.methodLink RX10 1 Lib.objectInit ∈ zT := zT_mem 114 (by decide +kernel) (by decide +kernel)
theorem y_ob_X11_7 : Cond.methodLink RX11 7 Lib.objectInit ∈ zT := zT_mem 982 (by decide +kernel) (by decide +kernel)
theorem y_cl_X0_9 : Cond.classLink RX0 9 RX8 ∈ zT := zT_mem 205 (by decide +kernel) (by decide +kernel)
theorem y_cl_X10_7 : Cond.classLink RX10 7 RX2 ∈ zT := zT_mem 117 (by decide +kernel) (by decide +kernel)
theorem y_cl_X10_19 : Cond.classLink RX10 19 RX0 ∈ zT := zT_mem 199 (by decide +kernel) (by decide +kernel)
theorem y_cl_X10_26 : Cond.classLink RX10 26 RX6 ∈ zT := zT_mem 259 (by decide +kernel) (by decide +kernel)
theorem y_cl_X10_33 : Cond.classLink RX10 33 RX9 ∈ zT := zT_mem 294 (by decide +kernel) (by decide +kernel)
theorem y_cl_X10_42 : Cond.classLink RX10 42 RX4 ∈ zT := zT_mem 311 (by decide +kernel) (by decide +kernel)
theorem y_cl_X10_51 : Cond.classLink RX10 51 RX7 ∈ zT := zT_mem 342 (by decide +kernel) (by decide +kernel)
theorem y_cl_X10_58 : Cond.classLink RX10 58 RX1 ∈ zT := zT_mem 373 (by decide +kernel) (by decide +kernel)
theorem y_cl_X10_65 : Cond.classLink RX10 65 RX5 ∈ zT := zT_mem 396 (by decide +kernel) (by decide +kernel)
theorem y_cl_X2_15 : Cond.classLink RX2 15 RX3 ∈ zT := zT_mem 123 (by decide +kernel) (by decide +kernel)
theorem lq_X0_11 : zPF RX0 11 0 0 (.array (.object "DukeIsLost$Text")) := ⟨_, _, rfl, by decide, zT_mem 243 (by decide +kernel) (by decide +kernel), rfl, rfl, by decide +kernel⟩
theorem lq_X0_17 : zPF RX0 17 0 1 (.array .int) := ⟨_, _, rfl, by decide, zT_mem 245 (by decide +kernel) (by decide +kernel), rfl, rfl, by decide +kernel⟩
theorem lq_X0_21 : zPF RX0 21 0 2 (.array .int) := ⟨_, _, rfl, by decide, zT_mem 247 (by decide +kernel) (by decide +kernel), rfl, rfl, by decide +kernel⟩
theorem lq_X1_9 : zPF RX1 9 1 0 (.object "DukeIsLost$Duchy") := ⟨_, _, rfl, by decide, zT_mem 379 (by decide +kernel) (by decide +kernel), rfl, rfl, by decide +kernel⟩
theorem lq_X1_15 : zPF RX1 15 1 1 (.object "DukeIsLost$Weeks") := ⟨_, _, rfl, by decide, zT_mem 380 (by decide +kernel) (by decide +kernel), rfl, rfl, by decide +kernel⟩
theorem lq_X10_10 : zPF RX10 10 10 0 (.object "DukeIsLost$Duchy") := ⟨_, _, rfl, by decide, zT_mem 418 (by decide +kernel) (by decide +kernel), rfl, rfl, by decide +kernel⟩
theorem lq_X10_16 : zPF RX10 16 10 1 (.object "DukeIsLost$Duchy") := ⟨_, _, rfl, by decide, zT_mem 419 (by decide +kernel) (by decide +kernel), rfl, rfl, by decide +kernel⟩
theorem lq_X10_22 : zPF RX10 22 10 2 (.object "DukeIsLost$Book") := ⟨_, _, rfl, by decide, zT_mem 420 (by decide +kernel) (by decide +kernel), rfl, rfl, by decide +kernel⟩
theorem lq_X10_29 : zPF RX10 29 10 3 (.object "DukeIsLost$Tape") := ⟨_, _, rfl, by decide, zT_mem 421 (by decide +kernel) (by decide +kernel), rfl, rfl, by decide +kernel⟩
theorem lq_X10_38 : zPF RX10 38 10 4 (.object "DukeIsLost$Weeks") := ⟨_, _, rfl, by decide, zT_mem 422 (by decide +kernel) (by decide +kernel), rfl, rfl, by decide +kernel⟩
theorem lq_X10_47 : zPF RX10 47 10 5 (.object "DukeIsLost$Hunt") := ⟨_, _, rfl, by decide, zT_mem 423 (by decide +kernel) (by decide +kernel), rfl, rfl, by decide +kernel⟩
theorem lq_X10_54 : zPF RX10 54 10 6 (.object "DukeIsLost$Telling") := ⟨_, _, rfl, by decide, zT_mem 424 (by decide +kernel) (by decide +kernel), rfl, rfl, by decide +kernel⟩
theorem lq_X10_61 : zPF RX10 61 10 7 (.object "DukeIsLost$Draw") := ⟨_, _, rfl, by decide, zT_mem 425 (by decide +kernel) (by decide +kernel), rfl, rfl, by decide +kernel⟩
theorem lq_X10_67 : zPF RX10 67 10 8 (.array (.object "DukeIsLost$Row")) := ⟨_, _, rfl, by decide, zT_mem 426 (by decide +kernel) (by decide +kernel), rfl, rfl, by decide +kernel⟩
theorem lq_X11_13 : zPF RX11 13 11 1 (.array .int) := ⟨_, _, rfl, by decide, zT_mem 987 (by decide +kernel) (by decide +kernel), rfl, rfl, by decide +kernel⟩
theorem lq_X11_17 : zPF RX11 17 11 2 (.array .int) := ⟨_, _, rfl, by decide, zT_mem 988 (by decide +kernel) (by decide +kernel), rfl, rfl, by decide +kernel⟩
theorem lq_X11_20 : zPF RX11 20 11 5 (.array .int) := ⟨_, _, rfl, by decide, zT_mem 991 (by decide +kernel) (by decide +kernel), rfl, rfl, by decide +kernel⟩
theorem lq_X11_23 : zPF RX11 23 11 7 (.array .int) := ⟨_, _, rfl, by decide, zT_mem 993 (by decide +kernel) (by decide +kernel), rfl, rfl, by decide +kernel⟩
theorem lq_X11_26 : zPF RX11 26 11 8 (.array .int) := ⟨_, _, rfl, by decide, zT_mem 994 (by decide +kernel) (by decide +kernel), rfl, rfl, by decide +kernel⟩
theorem lq_X11_29 : zPF RX11 29 11 9 (.array .int) := ⟨_, _, rfl, by decide, zT_mem 995 (by decide +kernel) (by decide +kernel), rfl, rfl, by decide +kernel⟩
theorem lq_X11_32 : zPF RX11 32 11 10 (.array .int) := ⟨_, _, rfl, by decide, zT_mem 996 (by decide +kernel) (by decide +kernel), rfl, rfl, by decide +kernel⟩
theorem lq_X11_35 : zPF RX11 35 11 27 (.array .int) := ⟨_, _, rfl, by decide, zT_mem 1013 (by decide +kernel) (by decide +kernel), rfl, rfl, by decide +kernel⟩
theorem lq_X11_38 : zPF RX11 38 11 28 (.array .int) := ⟨_, _, rfl, by decide, zT_mem 1014 (by decide +kernel) (by decide +kernel), rfl, rfl, by decide +kernel⟩
theorem lq_X11_41 : zPF RX11 41 11 31 (.array .int) := ⟨_, _, rfl, by decide, zT_mem 1017 (by decide +kernel) (by decide +kernel), rfl, rfl, by decide +kernel⟩
theorem lq_X11_44 : zPF RX11 44 11 32 (.array .int) := ⟨_, _, rfl, by decide, zT_mem 1018 (by decide +kernel) (by decide +kernel), rfl, rfl, by decide +kernel⟩
theorem lq_X11_47 : zPF RX11 47 11 33 (.array .int) := ⟨_, _, rfl, by decide, zT_mem 1019 (by decide +kernel) (by decide +kernel), rfl, rfl, by decide +kernel⟩
theorem lq_X11_53 : zPF RX11 53 11 36 (.array .boolean) := ⟨_, _, rfl, by decide, zT_mem 1022 (by decide +kernel) (by decide +kernel), rfl, rfl, by decide +kernel⟩
theorem lq_X11_57 : zPF RX11 57 11 37 (.array .int) := ⟨_, _, rfl, by decide, zT_mem 1023 (by decide +kernel) (by decide +kernel), rfl, rfl, by decide +kernel⟩
theorem lq_X11_60 : zPF RX11 60 11 38 (.array .int) := ⟨_, _, rfl, by decide, zT_mem 1024 (by decide +kernel) (by decide +kernel), rfl, rfl, by decide +kernel⟩
theorem lq_X11_63 : zPF RX11 63 11 39 (.array .int) := ⟨_, _, rfl, by decide, zT_mem 1025 (by decide +kernel) (by decide +kernel), rfl, rfl, by decide +kernel⟩
theorem lq_X2_9 : zPF RX2 9 2 0 (.array .int) := ⟨_, _, rfl, by decide, zT_mem 155 (by decide +kernel) (by decide +kernel), rfl, rfl, by decide +kernel⟩
theorem lq_X2_17 : zPF RX2 17 2 1 (.array (.object "DukeIsLost$Finder")) := ⟨_, _, rfl, by decide, zT_mem 159 (by decide +kernel) (by decide +kernel), rfl, rfl, by decide +kernel⟩
theorem lq_X4_9 : zPF RX4 9 4 2 (.array .int) := ⟨_, _, rfl, by decide, zT_mem 319 (by decide +kernel) (by decide +kernel), rfl, rfl, by decide +kernel⟩
theorem lq_X4_15 : zPF RX4 15 4 3 (.array .int) := ⟨_, _, rfl, by decide, zT_mem 320 (by decide +kernel) (by decide +kernel), rfl, rfl, by decide +kernel⟩
theorem lq_X4_18 : zPF RX4 18 4 4 (.array .int) := ⟨_, _, rfl, by decide, zT_mem 321 (by decide +kernel) (by decide +kernel), rfl, rfl, by decide +kernel⟩
theorem lq_X4_21 : zPF RX4 21 4 0 (.object "DukeIsLost$Duchy") := ⟨_, _, rfl, by decide, zT_mem 317 (by decide +kernel) (by decide +kernel), rfl, rfl, by decide +kernel⟩
theorem lq_X4_25 : zPF RX4 25 4 1 (.object "DukeIsLost$Weeks") := ⟨_, _, rfl, by decide, zT_mem 318 (by decide +kernel) (by decide +kernel), rfl, rfl, by decide +kernel⟩
theorem lq_X5_9 : zPF RX5 9 5 0 (.array .int) := ⟨_, _, rfl, by decide, zT_mem 403 (by decide +kernel) (by decide +kernel), rfl, rfl, by decide +kernel⟩
theorem lq_X6_9 : zPF RX6 9 6 0 (.array .int) := ⟨_, _, rfl, by decide, zT_mem 265 (by decide +kernel) (by decide +kernel), rfl, rfl, by decide +kernel⟩
theorem lq_X6_15 : zPF RX6 15 6 6 (.array .int) := ⟨_, _, rfl, by decide, zT_mem 272 (by decide +kernel) (by decide +kernel), rfl, rfl, by decide +kernel⟩
theorem lq_X7_18 : zPF RX7 18 7 0 (.object "DukeIsLost$Duchy") := ⟨_, _, rfl, by decide, zT_mem 348 (by decide +kernel) (by decide +kernel), rfl, rfl, by decide +kernel⟩
theorem lq_X7_22 : zPF RX7 22 7 1 (.object "DukeIsLost$Weeks") := ⟨_, _, rfl, by decide, zT_mem 349 (by decide +kernel) (by decide +kernel), rfl, rfl, by decide +kernel⟩
theorem lq_X8_9 : zPF RX8 9 8 0 (.array .int) := ⟨_, _, rfl, by decide, zT_mem 212 (by decide +kernel) (by decide +kernel), rfl, rfl, by decide +kernel⟩
theorem lq_X8_15 : zPF RX8 15 8 1 (.array .int) := ⟨_, _, rfl, by decide, zT_mem 214 (by decide +kernel) (by decide +kernel), rfl, rfl, by decide +kernel⟩
theorem lq_X9_9 : zPF RX9 9 9 2 (.array .int) := ⟨_, _, rfl, by decide, zT_mem 302 (by decide +kernel) (by decide +kernel), rfl, rfl, by decide +kernel⟩
theorem lq_X9_15 : zPF RX9 15 9 0 (.object "DukeIsLost$Duchy") := ⟨_, _, rfl, by decide, zT_mem 300 (by decide +kernel) (by decide +kernel), rfl, rfl, by decide +kernel⟩
theorem lq_X9_19 : zPF RX9 19 9 1 (.object "DukeIsLost$Book") := ⟨_, _, rfl, by decide, zT_mem 301 (by decide +kernel) (by decide +kernel), rfl, rfl, by decide +kernel⟩
theorem li_X2_25 : yCIN RX2 25 yX3_init cX3_init 1 0 := ⟨by decide +kernel, zT_mem 127 (by decide +kernel) (by decide +kernel), rfl, y_ini3, zT_mem 128 (by decide +kernel) (by decide +kernel), by decide +kernel, by decide⟩
theorem li_X0_28 : yCIN RX0 28 yX8_init cX8_init 1 0 := ⟨by decide +kernel, zT_mem 209 (by decide +kernel) (by decide +kernel), rfl, y_ini8, zT_mem 210 (by decide +kernel) (by decide +kernel), by decide +kernel, by decide⟩
theorem li_X10_9 : yCI RX10 9 yX2_init cX2_init 2 0 := ⟨zT_mem 119 (by decide +kernel) (by decide +kernel), zT_mem 120 (by decide +kernel) (by decide +kernel), rfl, y_ini2, zT_mem 121 (by decide +kernel) (by decide +kernel), by decide +kernel, by decide⟩
theorem li_X10_21 : yCI RX10 21 yX0_init cX0_init 2 0 := ⟨zT_mem 201 (by decide +kernel) (by decide +kernel), zT_mem 202 (by decide +kernel) (by decide +kernel), rfl, y_ini0, zT_mem 203 (by decide +kernel) (by decide +kernel), by decide +kernel, by decide⟩
theorem li_X10_28 : yCIN RX10 28 yX6_init cX6_init 1 0 := ⟨by decide +kernel, zT_mem 262 (by decide +kernel) (by decide +kernel), rfl, y_ini6, zT_mem 263 (by decide +kernel) (by decide +kernel), by decide +kernel, by decide⟩
theorem li_X10_35 : yCI RX10 35 yX9_init cX9_init 3 2 := ⟨zT_mem 296 (by decide +kernel) (by decide +kernel), zT_mem 297 (by decide +kernel) (by decide +kernel), rfl, y_ini9, zT_mem 298 (by decide +kernel) (by decide +kernel), by decide +kernel, by decide⟩
theorem li_X10_44 : yCI RX10 44 yX4_init cX4_init 3 2 := ⟨zT_mem 313 (by decide +kernel) (by decide +kernel), zT_mem 314 (by decide +kernel) (by decide +kernel), rfl, y_ini4, zT_mem 315 (by decide +kernel) (by decide +kernel), by decide +kernel, by decide⟩
theorem li_X10_53 : yCI RX10 53 yX7_init cX7_init 3 2 := ⟨zT_mem 344 (by decide +kernel) (by decide +kernel), zT_mem 345 (by decide +kernel) (by decide +kernel), rfl, y_ini7, zT_mem 346 (by decide +kernel) (by decide +kernel), by decide +kernel, by decide⟩
theorem li_X10_60 : yCI RX10 60 yX1_init cX1_init 3 2 := ⟨zT_mem 375 (by decide +kernel) (by decide +kernel), zT_mem 376 (by decide +kernel) (by decide +kernel), rfl, y_ini1, zT_mem 377 (by decide +kernel) (by decide +kernel), by decide +kernel, by decide⟩
theorem li_X10_71 : yCIN RX10 71 yX5_init cX5_init 1 0 := ⟨by decide +kernel, zT_mem 400 (by decide +kernel) (by decide +kernel), rfl, y_ini5, zT_mem 401 (by decide +kernel) (by decide +kernel), by decide +kernel, by decide⟩
set_option maxRecDepth 20000 in
theorem k_X3 {κ : Nat → ClassId} {h : Nat} : Yc 1 yX3_init cX3_init 1 none [.ref h] κ h ([.inr (3, [.int 0, .int 0, .int 0, .int 0])]) 0 (fun r s' => r = none ∧ s' = [.inr (3, [.int 0, .int 0, .int 0, .int 0])]) := by
  refine Yc.mk 0 [.ref h] rfl (by decide) (Nat.le_of_ble_eq_true rfl) ?_
  refine Yw_aload dX3_init_0 rfl rfl ?_
  refine Yw_obj dX3_init_1 y_ob_X3_3 y_obi y_obc (by decide) (show (0 : Nat) ≤ 8 by decide) ?_
  exact Yw_ret dX3_init_4 rfl ⟨rfl, rfl⟩
set_option maxRecDepth 20000 in
theorem k_X8 {κ : Nat → ClassId} {h : Nat} : Yc 1 yX8_init cX8_init 1 none [.ref h] κ h ([.inr (8, [.null, .null, .int 0, .int 0])]) 2 (fun r s' => r = none ∧ s' = [.inr (8, [.ref (h + 1), .ref (h + 2), .int 0, .int 0]), .inl (κ 0, 160, .inl (fun _ => 0)), .inl (κ 0, 4, .inl (fun _ => 0))]) := by
  refine Yc.mk 0 [.ref h] rfl (by decide) (Nat.le_of_ble_eq_true rfl) ?_
  refine Yw_aload dX8_init_0 rfl rfl ?_
  refine Yw_obj dX8_init_1 y_ob_X8_3 y_obi y_obc (by decide) (show (0 : Nat) ≤ 8 by decide) ?_
  refine Yw_aload dX8_init_4 rfl rfl ?_
  refine Yw_sipush (v := 160) dX8_init_5 (by decide) ?_
  refine Yw_newa_int (n := 1) (N := 160) dX8_init_8 y_arr0 (by decide) (by decide) (by decide) rfl ?_
  dsimp only [List.cons_append, List.nil_append, List.set_cons_zero, List.set_cons_succ]
  refine Yw_putF (q := 0) lq_X8_9 rfl dX8_init_10 rfl (Nat.lt_of_lt_of_eq (m := 4) (by decide) rfl) rfl rfl ?_
  dsimp only [List.cons_append, List.nil_append, List.set_cons_zero, List.set_cons_succ]
  refine Yw_aload dX8_init_13 rfl rfl ?_
  refine Yw_iconst (v := 4) dX8_init_14 (by decide) ?_
  refine Yw_newa_int (n := 2) (N := 4) dX8_init_15 y_arr0 (by decide) (by decide) (by decide) rfl ?_
  dsimp only [List.cons_append, List.nil_append, List.set_cons_zero, List.set_cons_succ]
  refine Yw_putF (q := 0) lq_X8_15 rfl dX8_init_17 rfl (Nat.lt_of_lt_of_eq (m := 4) (by decide) rfl) rfl rfl ?_
  dsimp only [List.cons_append, List.nil_append, List.set_cons_zero, List.set_cons_succ]
  exact Yw_ret dX8_init_20 rfl ⟨rfl, rfl⟩
set_option maxRecDepth 20000 in
theorem k_X6 {κ : Nat → ClassId} {h : Nat} : Yc 1 yX6_init cX6_init 1 none [.ref h] κ h ([.inr (6, [.null, .int 0, .int 0, .int 0, .int 0, .int 0, .null, .int 0, .int 0])]) 2 (fun r s' => r = none ∧ s' = [.inr (6, [.ref (h + 1), .int 0, .int 0, .int 0, .int 0, .int 0, .ref (h + 2), .int 0, .int 0]), .inl (κ 0, 160, .inl (fun _ => 0)), .inl (κ 0, 64, .inl (fun _ => 0))]) := by
  refine Yc.mk 0 [.ref h] rfl (by decide) (Nat.le_of_ble_eq_true rfl) ?_
  refine Yw_aload dX6_init_0 rfl rfl ?_
  refine Yw_obj dX6_init_1 y_ob_X6_3 y_obi y_obc (by decide) (show (0 : Nat) ≤ 8 by decide) ?_
  refine Yw_aload dX6_init_4 rfl rfl ?_
  refine Yw_sipush (v := 160) dX6_init_5 (by decide) ?_
  refine Yw_newa_int (n := 1) (N := 160) dX6_init_8 y_arr0 (by decide) (by decide) (by decide) rfl ?_
  dsimp only [List.cons_append, List.nil_append, List.set_cons_zero, List.set_cons_succ]
  refine Yw_putF (q := 0) lq_X6_9 rfl dX6_init_10 rfl (Nat.lt_of_lt_of_eq (m := 9) (by decide) rfl) rfl rfl ?_
  dsimp only [List.cons_append, List.nil_append, List.set_cons_zero, List.set_cons_succ]
  refine Yw_aload dX6_init_13 rfl rfl ?_
  refine Yw_bipush (v := 64) dX6_init_14 (by decide) ?_
  refine Yw_newa_int (n := 2) (N := 64) dX6_init_16 y_arr0 (by decide) (by decide) (by decide) rfl ?_
  dsimp only [List.cons_append, List.nil_append, List.set_cons_zero, List.set_cons_succ]
  refine Yw_putF (q := 0) lq_X6_15 rfl dX6_init_18 rfl (Nat.lt_of_lt_of_eq (m := 9) (by decide) rfl) rfl rfl ?_
  dsimp only [List.cons_append, List.nil_append, List.set_cons_zero, List.set_cons_succ]
  exact Yw_ret dX6_init_21 rfl ⟨rfl, rfl⟩
set_option maxRecDepth 20000 in
theorem k_X5 {κ : Nat → ClassId} {h : Nat} : Yc 1 yX5_init cX5_init 1 none [.ref h] κ h ([.inr (5, [.null, .int 0, .int 0])]) 1 (fun r s' => r = none ∧ s' = [.inr (5, [.ref (h + 1), .int (-1), .int 0]), .inl (κ 0, 40, .inl (fun _ => 0))]) := by
  refine Yc.mk 0 [.ref h] rfl (by decide) (Nat.le_of_ble_eq_true rfl) ?_
  refine Yw_aload dX5_init_0 rfl rfl ?_
  refine Yw_obj dX5_init_1 y_ob_X5_3 y_obi y_obc (by decide) (show (0 : Nat) ≤ 8 by decide) ?_
  refine Yw_aload dX5_init_4 rfl rfl ?_
  refine Yw_bipush (v := 40) dX5_init_5 (by decide) ?_
  refine Yw_newa_int (n := 1) (N := 40) dX5_init_7 y_arr0 (by decide) (by decide) (by decide) rfl ?_
  dsimp only [List.cons_append, List.nil_append, List.set_cons_zero, List.set_cons_succ]
  refine Yw_putF (q := 0) lq_X5_9 rfl dX5_init_9 rfl (Nat.lt_of_lt_of_eq (m := 3) (by decide) rfl) rfl rfl ?_
  dsimp only [List.cons_append, List.nil_append, List.set_cons_zero, List.set_cons_succ]
  refine Yw_aload dX5_init_12 rfl rfl ?_
  refine Yw_iconst (v := (-1)) dX5_init_13 (by decide) ?_
  refine Yw_put (q := 0) lp_X5_15 dX5_init_14 rfl (Nat.lt_of_lt_of_eq (m := 3) (by decide) rfl) rfl rfl ?_
  dsimp only [List.cons_append, List.nil_append, List.set_cons_zero, List.set_cons_succ]
  exact Yw_ret dX5_init_17 rfl ⟨rfl, rfl⟩
set_option maxRecDepth 20000 in
theorem k_X1 {κ : Nat → ClassId} {h : Nat} {a1 a2 : Nat} : Yc 1 yX1_init cX1_init 3 none [.ref h, .ref a1, .ref a2] κ h ([.inr (1, [.null, .null, .int 0, .int 0, .int 0])]) 0 (fun r s' => r = none ∧ s' = [.inr (1, [.ref a1, .ref a2, .int 0, .int 0, .int 0])]) := by
  refine Yc.mk 0 [.ref h, .ref a1, .ref a2] rfl (by decide) (Nat.le_of_ble_eq_true rfl) ?_
  refine Yw_aload dX1_init_0 rfl rfl ?_
  refine Yw_obj dX1_init_1 y_ob_X1_3 y_obi y_obc (by decide) (show (0 : Nat) ≤ 8 by decide) ?_
  refine Yw_aload dX1_init_4 rfl rfl ?_
  refine Yw_aload dX1_init_5 rfl rfl ?_
  refine Yw_putF (q := 0) lq_X1_9 rfl dX1_init_6 rfl (Nat.lt_of_lt_of_eq (m := 5) (by decide) rfl) rfl rfl ?_
  dsimp only [List.cons_append, List.nil_append, List.set_cons_zero, List.set_cons_succ]
  refine Yw_aload dX1_init_9 rfl rfl ?_
  refine Yw_aload dX1_init_10 rfl rfl ?_
  refine Yw_putF (q := 0) lq_X1_15 rfl dX1_init_11 rfl (Nat.lt_of_lt_of_eq (m := 5) (by decide) rfl) rfl rfl ?_
  dsimp only [List.cons_append, List.nil_append, List.set_cons_zero, List.set_cons_succ]
  exact Yw_ret dX1_init_14 rfl ⟨rfl, rfl⟩
set_option maxRecDepth 20000 in
theorem k_X4 {κ : Nat → ClassId} {h : Nat} {a1 a2 : Nat} : Yc 1 yX4_init cX4_init 3 none [.ref h, .ref a1, .ref a2] κ h ([.inr (4, [.null, .null, .null, .null, .null, .int 0, .int 0, .int 0])]) 3 (fun r s' => r = none ∧ s' = [.inr (4, [.ref a1, .ref a2, .ref (h + 1), .ref (h + 2), .ref (h + 3), .int 0, .int 0, .int 0]), .inl (κ 0, 256, .inl (fun _ => 0)), .inl (κ 0, 2048, .inl (fun _ => 0)), .inl (κ 0, 2048, .inl (fun _ => 0))]) := by
  refine Yc.mk 0 [.ref h, .ref a1, .ref a2] rfl (by decide) (Nat.le_of_ble_eq_true rfl) ?_
  refine Yw_aload dX4_init_0 rfl rfl ?_
  refine Yw_obj dX4_init_1 y_ob_X4_3 y_obi y_obc (by decide) (show (0 : Nat) ≤ 8 by decide) ?_
  refine Yw_aload dX4_init_4 rfl rfl ?_
  refine Yw_sipush (v := 256) dX4_init_5 (by decide) ?_
  refine Yw_newa_int (n := 1) (N := 256) dX4_init_8 y_arr0 (by decide) (by decide) (by decide) rfl ?_
  dsimp only [List.cons_append, List.nil_append, List.set_cons_zero, List.set_cons_succ]
  refine Yw_putF (q := 0) lq_X4_9 rfl dX4_init_10 rfl (Nat.lt_of_lt_of_eq (m := 8) (by decide) rfl) rfl rfl ?_
  dsimp only [List.cons_append, List.nil_append, List.set_cons_zero, List.set_cons_succ]
  refine Yw_aload dX4_init_13 rfl rfl ?_
  refine Yw_sipush (v := 2048) dX4_init_14 (by decide) ?_
  refine Yw_newa_int (n := 2) (N := 2048) dX4_init_17 y_arr0 (by decide) (by decide) (by decide) rfl ?_
  dsimp only [List.cons_append, List.nil_append, List.set_cons_zero, List.set_cons_succ]
  refine Yw_putF (q := 0) lq_X4_15 rfl dX4_init_19 rfl (Nat.lt_of_lt_of_eq (m := 8) (by decide) rfl) rfl rfl ?_
  dsimp only [List.cons_append, List.nil_append, List.set_cons_zero, List.set_cons_succ]
  refine Yw_aload dX4_init_22 rfl rfl ?_
  refine Yw_sipush (v := 2048) dX4_init_23 (by decide) ?_
  refine Yw_newa_int (n := 3) (N := 2048) dX4_init_26 y_arr0 (by decide) (by decide) (by decide) rfl ?_
  dsimp only [List.cons_append, List.nil_append, List.set_cons_zero, List.set_cons_succ]
  refine Yw_putF (q := 0) lq_X4_18 rfl dX4_init_28 rfl (Nat.lt_of_lt_of_eq (m := 8) (by decide) rfl) rfl rfl ?_
  dsimp only [List.cons_append, List.nil_append, List.set_cons_zero, List.set_cons_succ]
  refine Yw_aload dX4_init_31 rfl rfl ?_
  refine Yw_aload dX4_init_32 rfl rfl ?_
  refine Yw_putF (q := 0) lq_X4_21 rfl dX4_init_33 rfl (Nat.lt_of_lt_of_eq (m := 8) (by decide) rfl) rfl rfl ?_
  dsimp only [List.cons_append, List.nil_append, List.set_cons_zero, List.set_cons_succ]
  refine Yw_aload dX4_init_36 rfl rfl ?_
  refine Yw_aload dX4_init_37 rfl rfl ?_
  refine Yw_putF (q := 0) lq_X4_25 rfl dX4_init_38 rfl (Nat.lt_of_lt_of_eq (m := 8) (by decide) rfl) rfl rfl ?_
  dsimp only [List.cons_append, List.nil_append, List.set_cons_zero, List.set_cons_succ]
  exact Yw_ret dX4_init_41 rfl ⟨rfl, rfl⟩
set_option maxRecDepth 20000 in
theorem k_X7 {κ : Nat → ClassId} {h : Nat} {a1 a2 : Nat} : Yc 1 yX7_init cX7_init 3 none [.ref h, .ref a1, .ref a2] κ h ([.inr (7, [.null, .null, .null, .null, .int 0, .int 0, .int 0])]) 2 (fun r s' => r = none ∧ s' = [.inr (7, [.ref a1, .ref a2, .ref (h + 1), .ref (h + 2), .int 0, .int 0, .int 0]), .inl (κ 0, 8, .inl (fun _ => 0)), .inl (κ 0, 8, .inl (fun _ => 0))]) := by
  refine Yc.mk 0 [.ref h, .ref a1, .ref a2] rfl (by decide) (Nat.le_of_ble_eq_true rfl) ?_
  refine Yw_aload dX7_init_0 rfl rfl ?_
  refine Yw_obj dX7_init_1 y_ob_X7_3 y_obi y_obc (by decide) (show (0 : Nat) ≤ 8 by decide) ?_
  refine Yw_aload dX7_init_4 rfl rfl ?_
  refine Yw_bipush (v := 8) dX7_init_5 (by decide) ?_
  refine Yw_newa_int (n := 1) (N := 8) dX7_init_7 y_arr0 (by decide) (by decide) (by decide) rfl ?_
  dsimp only [List.cons_append, List.nil_append, List.set_cons_zero, List.set_cons_succ]
  refine Yw_put (q := 0) lp_X7_9 dX7_init_9 rfl (Nat.lt_of_lt_of_eq (m := 7) (by decide) rfl) rfl rfl ?_
  dsimp only [List.cons_append, List.nil_append, List.set_cons_zero, List.set_cons_succ]
  refine Yw_aload dX7_init_12 rfl rfl ?_
  refine Yw_bipush (v := 8) dX7_init_13 (by decide) ?_
  refine Yw_newa_int (n := 2) (N := 8) dX7_init_15 y_arr0 (by decide) (by decide) (by decide) rfl ?_
  dsimp only [List.cons_append, List.nil_append, List.set_cons_zero, List.set_cons_succ]
  refine Yw_put (q := 0) lp_X7_15 dX7_init_17 rfl (Nat.lt_of_lt_of_eq (m := 7) (by decide) rfl) rfl rfl ?_
  dsimp only [List.cons_append, List.nil_append, List.set_cons_zero, List.set_cons_succ]
  refine Yw_aload dX7_init_20 rfl rfl ?_
  refine Yw_aload dX7_init_21 rfl rfl ?_
  refine Yw_putF (q := 0) lq_X7_18 rfl dX7_init_22 rfl (Nat.lt_of_lt_of_eq (m := 7) (by decide) rfl) rfl rfl ?_
  dsimp only [List.cons_append, List.nil_append, List.set_cons_zero, List.set_cons_succ]
  refine Yw_aload dX7_init_25 rfl rfl ?_
  refine Yw_aload dX7_init_26 rfl rfl ?_
  refine Yw_putF (q := 0) lq_X7_22 rfl dX7_init_27 rfl (Nat.lt_of_lt_of_eq (m := 7) (by decide) rfl) rfl rfl ?_
  dsimp only [List.cons_append, List.nil_append, List.set_cons_zero, List.set_cons_succ]
  exact Yw_ret dX7_init_30 rfl ⟨rfl, rfl⟩
set_option maxRecDepth 20000 in
theorem k_X9 {κ : Nat → ClassId} {h : Nat} {a1 a2 : Nat} : Yc 1 yX9_init cX9_init 3 none [.ref h, .ref a1, .ref a2] κ h ([.inr (9, [.null, .null, .null])]) 1 (fun r s' => r = none ∧ s' = [.inr (9, [.ref a1, .ref a2, .ref (h + 1)]), .inl (κ 0, 8, .inl (fun _ => 0))]) := by
  refine Yc.mk 0 [.ref h, .ref a1, .ref a2] rfl (by decide) (Nat.le_of_ble_eq_true rfl) ?_
  refine Yw_aload dX9_init_0 rfl rfl ?_
  refine Yw_obj dX9_init_1 y_ob_X9_3 y_obi y_obc (by decide) (show (0 : Nat) ≤ 8 by decide) ?_
  refine Yw_aload dX9_init_4 rfl rfl ?_
  refine Yw_bipush (v := 8) dX9_init_5 (by decide) ?_
  refine Yw_newa_int (n := 1) (N := 8) dX9_init_7 y_arr0 (by decide) (by decide) (by decide) rfl ?_
  dsimp only [List.cons_append, List.nil_append, List.set_cons_zero, List.set_cons_succ]
  refine Yw_putF (q := 0) lq_X9_9 rfl dX9_init_9 rfl (Nat.lt_of_lt_of_eq (m := 3) (by decide) rfl) rfl rfl ?_
  dsimp only [List.cons_append, List.nil_append, List.set_cons_zero, List.set_cons_succ]
  refine Yw_aload dX9_init_12 rfl rfl ?_
  refine Yw_aload dX9_init_13 rfl rfl ?_
  refine Yw_putF (q := 0) lq_X9_15 rfl dX9_init_14 rfl (Nat.lt_of_lt_of_eq (m := 3) (by decide) rfl) rfl rfl ?_
  dsimp only [List.cons_append, List.nil_append, List.set_cons_zero, List.set_cons_succ]
  refine Yw_aload dX9_init_17 rfl rfl ?_
  refine Yw_aload dX9_init_18 rfl rfl ?_
  refine Yw_putF (q := 0) lq_X9_19 rfl dX9_init_19 rfl (Nat.lt_of_lt_of_eq (m := 3) (by decide) rfl) rfl rfl ?_
  dsimp only [List.cons_append, List.nil_append, List.set_cons_zero, List.set_cons_succ]
  exact Yw_ret dX9_init_22 rfl ⟨rfl, rfl⟩
set_option maxRecDepth 20000 in
theorem k_within {κ : Nat → ClassId} {h : Nat} {suf : List va_E} {a b : Int32} (h1 : ¬ a < 0) (h2 : ¬ b ≤ a) : Yc 0 yX10_within cX10_within 2 (some .boolean) [.int a, .int b] κ h suf 0 (fun r s' => r = some (.int 1) ∧ s' = suf) := by
  refine Yc.mk 0 [.int a, .int b] rfl (by decide) (Nat.le_of_ble_eq_true rfl) ?_
  refine Yw_iload dX10_within_0 rfl rfl ?_
  refine Yw_if_lt_f 13 dX10_within_1 (by decide) h1 ?_
  refine Yw_iload dX10_within_4 rfl rfl ?_
  refine Yw_iload dX10_within_5 rfl rfl ?_
  refine Yw_icmp_ge_f 13 dX10_within_6 (by decide) h2 ?_
  refine Yw_iconst (v := 1) dX10_within_9 (by decide) ?_
  refine Yw_goto 14 dX10_within_10 (by decide) ?_
  exact Yw_ireturn dX10_within_14 rfl rfl ⟨rfl, rfl⟩
set_option maxRecDepth 20000 in
theorem k_X2 {κ : Nat → ClassId} {h : Nat} : Yc 2 yX2_init cX2_init 2 none [.ref h] κ h ([.inr (2, [.null, .null, .int 0, .int 0, .int 0, .int 0, .int 0, .int 0])]) 7 (fun r s' => r = none ∧ s' = [.inr (2, [.ref (h + 1), .ref (h + 2), .int 0, .int 0, .int 0, .int 0, .int 255, .int 0]), .inl (κ 0, 8, .inl (fun _ => 0)), .inl (κ 2, 5, .inr (.inr (.inr (.inr (va_up (va_up (va_up (va_up (va_up (fun _ => none) (0 : Int32).toNatClampNeg (some (h + 3))) (1 : Int32).toNatClampNeg (some (h + 4))) (2 : Int32).toNatClampNeg (some (h + 5))) (3 : Int32).toNatClampNeg (some (h + 6))) (4 : Int32).toNatClampNeg (some (h + 7))))))), .inr (3, [.int 0, .int 0, .int 0, .int 0]), .inr (3, [.int 0, .int 0, .int 0, .int 0]), .inr (3, [.int 0, .int 0, .int 0, .int 0]), .inr (3, [.int 0, .int 0, .int 0, .int 0]), .inr (3, [.int 0, .int 0, .int 0, .int 0])]) := by
  refine Yc.mk 1 [.ref h, .null] rfl (by decide) (Nat.le_of_ble_eq_true rfl) ?_
  refine Yw_aload dX2_init_0 rfl rfl ?_
  refine Yw_obj dX2_init_1 y_ob_X2_3 y_obi y_obc (by decide) (show (0 : Nat) ≤ 8 by decide) ?_
  refine Yw_aload dX2_init_4 rfl rfl ?_
  refine Yw_bipush (v := 8) dX2_init_5 (by decide) ?_
  refine Yw_newa_int (n := 1) (N := 8) dX2_init_7 y_arr0 (by decide) (by decide) (by decide) rfl ?_
  dsimp only [List.cons_append, List.nil_append, List.set_cons_zero, List.set_cons_succ]
  refine Yw_putF (q := 0) lq_X2_9 rfl dX2_init_9 rfl (Nat.lt_of_lt_of_eq (m := 8) (by decide) rfl) rfl rfl ?_
  dsimp only [List.cons_append, List.nil_append, List.set_cons_zero, List.set_cons_succ]
  refine Yw_aload dX2_init_12 rfl rfl ?_
  refine Yw_iconst (v := 5) dX2_init_13 (by decide) ?_
  refine Yw_newq (n := 2) (N := 5) (t := 2) dX2_init_14 y_cl_X2_15 rfl (fun U hU => hU.2.1) (by decide) (by decide) (by decide) rfl ?_
  dsimp only [List.cons_append, List.nil_append, List.set_cons_zero, List.set_cons_succ]
  refine Yw_putF (q := 0) lq_X2_17 rfl dX2_init_17 rfl (Nat.lt_of_lt_of_eq (m := 8) (by decide) rfl) rfl rfl ?_
  dsimp only [List.cons_append, List.nil_append, List.set_cons_zero, List.set_cons_succ]
  refine Yw_aload dX2_init_20 rfl rfl ?_
  refine Yw_sipush (v := 255) dX2_init_21 (by decide) ?_
  refine Yw_put (q := 0) lp_X2_21 dX2_init_24 rfl (Nat.lt_of_lt_of_eq (m := 8) (by decide) rfl) rfl rfl ?_
  dsimp only [List.cons_append, List.nil_append, List.set_cons_zero, List.set_cons_succ]
  refine Yw_iconst (v := 0) dX2_init_27 (by decide) ?_
  refine Yw_istore (L' := [.ref h, .int 0]) dX2_init_28 rfl (by decide) (fun w _ hw => by cases hw; exact (by decide : (1 : Nat) ≠ 2)) rfl ?_
  refine Yw_iload dX2_init_29 rfl rfl ?_
  refine Yw_iconst (v := 5) dX2_init_30 (by decide) ?_
  refine Yw_icmp_ge_f 53 dX2_init_31 (by decide) (by decide) ?_
  refine Yw_aload dX2_init_34 rfl rfl ?_
  refine Yw_get (q := 0) lf_X2_17 dX2_init_35 rfl rfl ?_
  refine Yw_iload dX2_init_38 rfl rfl ?_
  refine Yw_new (ci := 3) (n := 3) (fs := y_bl3) rfl y_cl_X2_15 y_in3 y_ini3 y_fs3 (by decide) dX2_init_39 rfl ?_
  refine Yw_dup dX2_init_42 rfl ?_
  refine Yw_IN (k := 1) (B1 := 0) (B2 := 4) (n1 := 3) _ _ [] [.ref (h + 3), .int 0, .ref (h + 2)] li_X2_25 dX2_init_43 (by decide) rfl rfl rfl rfl (show (3 : Nat) ≤ 8 by decide) (Yc.imp (fun r s1 hq => ?_) k_X3)
  obtain ⟨rfl, rfl⟩ := hq
  dsimp only [Option.toList, List.cons_append, List.nil_append]
  refine Yw_aast (q := 2) (qk := 3) (t := 2) (ci := 3) dX2_init_46 rfl rfl rfl rfl (by unfold vp_in; decide) ?_
  dsimp only [List.cons_append, List.nil_append, List.set_cons_zero, List.set_cons_succ]
  refine Yw_iinc (z := 1) (L' := [.ref h, .int 1]) dX2_init_47 rfl (by decide) (by decide) (fun w _ hw => by cases hw; exact (by decide : (1 : Nat) ≠ 2)) rfl ?_
  refine Yw_goto 29 dX2_init_50 (by decide) ?_
  refine Yw_iload dX2_init_29 rfl rfl ?_
  refine Yw_iconst (v := 5) dX2_init_30 (by decide) ?_
  refine Yw_icmp_ge_f 53 dX2_init_31 (by decide) (by decide) ?_
  refine Yw_aload dX2_init_34 rfl rfl ?_
  refine Yw_get (q := 0) lf_X2_17 dX2_init_35 rfl rfl ?_
  refine Yw_iload dX2_init_38 rfl rfl ?_
  refine Yw_new (ci := 3) (n := 4) (fs := y_bl3) rfl y_cl_X2_15 y_in3 y_ini3 y_fs3 (by decide) dX2_init_39 rfl ?_
  refine Yw_dup dX2_init_42 rfl ?_
  refine Yw_IN (k := 1) (B1 := 0) (B2 := 3) (n1 := 4) _ _ [] [.ref (h + 4), .int 1, .ref (h + 2)] li_X2_25 dX2_init_43 (by decide) rfl rfl rfl rfl (show (3 : Nat) ≤ 8 by decide) (Yc.imp (fun r s1 hq => ?_) k_X3)
  obtain ⟨rfl, rfl⟩ := hq
  dsimp only [Option.toList, List.cons_append, List.nil_append]
  refine Yw_aast (q := 2) (qk := 4) (t := 2) (ci := 3) dX2_init_46 rfl rfl rfl rfl (by unfold vp_in; decide) ?_
  dsimp only [List.cons_append, List.nil_append, List.set_cons_zero, List.set_cons_succ]
  refine Yw_iinc (z := 2) (L' := [.ref h, .int 2]) dX2_init_47 rfl (by decide) (by decide) (fun w _ hw => by cases hw; exact (by decide : (1 : Nat) ≠ 2)) rfl ?_
  refine Yw_goto 29 dX2_init_50 (by decide) ?_
  refine Yw_iload dX2_init_29 rfl rfl ?_
  refine Yw_iconst (v := 5) dX2_init_30 (by decide) ?_
  refine Yw_icmp_ge_f 53 dX2_init_31 (by decide) (by decide) ?_
  refine Yw_aload dX2_init_34 rfl rfl ?_
  refine Yw_get (q := 0) lf_X2_17 dX2_init_35 rfl rfl ?_
  refine Yw_iload dX2_init_38 rfl rfl ?_
  refine Yw_new (ci := 3) (n := 5) (fs := y_bl3) rfl y_cl_X2_15 y_in3 y_ini3 y_fs3 (by decide) dX2_init_39 rfl ?_
  refine Yw_dup dX2_init_42 rfl ?_
  refine Yw_IN (k := 1) (B1 := 0) (B2 := 2) (n1 := 5) _ _ [] [.ref (h + 5), .int 2, .ref (h + 2)] li_X2_25 dX2_init_43 (by decide) rfl rfl rfl rfl (show (3 : Nat) ≤ 8 by decide) (Yc.imp (fun r s1 hq => ?_) k_X3)
  obtain ⟨rfl, rfl⟩ := hq
  dsimp only [Option.toList, List.cons_append, List.nil_append]
  refine Yw_aast (q := 2) (qk := 5) (t := 2) (ci := 3) dX2_init_46 rfl rfl rfl rfl (by unfold vp_in; decide) ?_
  dsimp only [List.cons_append, List.nil_append, List.set_cons_zero, List.set_cons_succ]
  refine Yw_iinc (z := 3) (L' := [.ref h, .int 3]) dX2_init_47 rfl (by decide) (by decide) (fun w _ hw => by cases hw; exact (by decide : (1 : Nat) ≠ 2)) rfl ?_
  refine Yw_goto 29 dX2_init_50 (by decide) ?_
  refine Yw_iload dX2_init_29 rfl rfl ?_
  refine Yw_iconst (v := 5) dX2_init_30 (by decide) ?_
  refine Yw_icmp_ge_f 53 dX2_init_31 (by decide) (by decide) ?_
  refine Yw_aload dX2_init_34 rfl rfl ?_
  refine Yw_get (q := 0) lf_X2_17 dX2_init_35 rfl rfl ?_
  refine Yw_iload dX2_init_38 rfl rfl ?_
  refine Yw_new (ci := 3) (n := 6) (fs := y_bl3) rfl y_cl_X2_15 y_in3 y_ini3 y_fs3 (by decide) dX2_init_39 rfl ?_
  refine Yw_dup dX2_init_42 rfl ?_
  refine Yw_IN (k := 1) (B1 := 0) (B2 := 1) (n1 := 6) _ _ [] [.ref (h + 6), .int 3, .ref (h + 2)] li_X2_25 dX2_init_43 (by decide) rfl rfl rfl rfl (show (3 : Nat) ≤ 8 by decide) (Yc.imp (fun r s1 hq => ?_) k_X3)
  obtain ⟨rfl, rfl⟩ := hq
  dsimp only [Option.toList, List.cons_append, List.nil_append]
  refine Yw_aast (q := 2) (qk := 6) (t := 2) (ci := 3) dX2_init_46 rfl rfl rfl rfl (by unfold vp_in; decide) ?_
  dsimp only [List.cons_append, List.nil_append, List.set_cons_zero, List.set_cons_succ]
  refine Yw_iinc (z := 4) (L' := [.ref h, .int 4]) dX2_init_47 rfl (by decide) (by decide) (fun w _ hw => by cases hw; exact (by decide : (1 : Nat) ≠ 2)) rfl ?_
  refine Yw_goto 29 dX2_init_50 (by decide) ?_
  refine Yw_iload dX2_init_29 rfl rfl ?_
  refine Yw_iconst (v := 5) dX2_init_30 (by decide) ?_
  refine Yw_icmp_ge_f 53 dX2_init_31 (by decide) (by decide) ?_
  refine Yw_aload dX2_init_34 rfl rfl ?_
  refine Yw_get (q := 0) lf_X2_17 dX2_init_35 rfl rfl ?_
  refine Yw_iload dX2_init_38 rfl rfl ?_
  refine Yw_new (ci := 3) (n := 7) (fs := y_bl3) rfl y_cl_X2_15 y_in3 y_ini3 y_fs3 (by decide) dX2_init_39 rfl ?_
  refine Yw_dup dX2_init_42 rfl ?_
  refine Yw_IN (k := 1) (B1 := 0) (B2 := 0) (n1 := 7) _ _ [] [.ref (h + 7), .int 4, .ref (h + 2)] li_X2_25 dX2_init_43 (by decide) rfl rfl rfl rfl (show (3 : Nat) ≤ 8 by decide) (Yc.imp (fun r s1 hq => ?_) k_X3)
  obtain ⟨rfl, rfl⟩ := hq
  dsimp only [Option.toList, List.cons_append, List.nil_append]
  refine Yw_aast (q := 2) (qk := 7) (t := 2) (ci := 3) dX2_init_46 rfl rfl rfl rfl (by unfold vp_in; decide) ?_
  dsimp only [List.cons_append, List.nil_append, List.set_cons_zero, List.set_cons_succ]
  refine Yw_iinc (z := 5) (L' := [.ref h, .int 5]) dX2_init_47 rfl (by decide) (by decide) (fun w _ hw => by cases hw; exact (by decide : (1 : Nat) ≠ 2)) rfl ?_
  refine Yw_goto 29 dX2_init_50 (by decide) ?_
  refine Yw_iload dX2_init_29 rfl rfl ?_
  refine Yw_iconst (v := 5) dX2_init_30 (by decide) ?_
  refine Yw_icmp_ge_t 53 dX2_init_31 (by decide) (by decide) ?_
  exact Yw_ret dX2_init_53 rfl ⟨rfl, rfl⟩
set_option maxRecDepth 20000 in
theorem k_begin {κ : Nat → ClassId} {h : Nat} {f g : Nat → Int32} {len i : Int32} {tl : List va_E} (h1 : ¬ i < 0) (h2 : ¬ nI 4 ≤ i) (h3 : vp_in i 4) : Yc 1 yX8_beginPart cX8_beginPart 2 none [.ref h, .int i] κ h (.inr (8, [.ref (h + 1), .ref (h + 2), .int len, .int 0]) :: .inl (κ 0, 160, .inl f) :: .inl (κ 0, 4, .inl g) :: tl) 0 (fun r s' => r = none ∧ s' = .inr (8, [.ref (h + 1), .ref (h + 2), .int len, .int 0]) :: .inl (κ 0, 160, .inl f) :: .inl (κ 0, 4, .inl (upd g (i : Int32).toNatClampNeg len)) :: tl) := by
  refine Yc.mk 0 [.ref h, .int i] rfl (by decide) (Nat.le_of_ble_eq_true rfl) ?_
  refine Yw_iload dX8_beginPart_0 rfl rfl ?_
  refine Yw_aload dX8_beginPart_1 rfl rfl ?_
  refine Yw_get (q := 0) lf_X8_15 dX8_beginPart_2 rfl rfl ?_
  refine Yw_alen (q := 2) dX8_beginPart_5 rfl ?_
  refine Yw_SN (k := 0) (B1 := 0) (B2 := 0) (n1 := 0) [] _ [.int i, .int (nI 4)] [] lm_X8_26 dX8_beginPart_6 (by decide) rfl rfl rfl rfl (show (0 : Nat) ≤ 8 by decide) (Yc.imp (fun r s1 hq => ?_) (k_within h1 h2))
  obtain ⟨rfl, rfl⟩ := hq
  dsimp only [Option.toList, List.cons_append, List.nil_append]
  refine Yw_if_eq_f 22 dX8_beginPart_9 (by decide) (by decide) ?_
  refine Yw_aload dX8_beginPart_12 rfl rfl ?_
  refine Yw_get (q := 0) lf_X8_15 dX8_beginPart_13 rfl rfl ?_
  refine Yw_iload dX8_beginPart_16 rfl rfl ?_
  refine Yw_aload dX8_beginPart_17 rfl rfl ?_
  refine Yw_get (q := 0) lf_X8_18 dX8_beginPart_18 rfl rfl ?_
  refine Yw_iast (q := 2) dX8_beginPart_21 rfl h3 ?_
  dsimp only [List.cons_append, List.nil_append, List.set_cons_zero, List.set_cons_succ]
  exact Yw_ret dX8_beginPart_22 rfl ⟨rfl, rfl⟩
set_option maxRecDepth 20000 in
theorem k_add {κ : Nat → ClassId} {h : Nat} {f g : Nat → Int32} {len len1 v : Int32} {tl : List va_E} (h1 : ¬ nI 160 ≤ len) (h2 : vp_in len 160) (h3 : len + 1 = len1) (h4 : ¬ v = (-102)) : Yc 0 yX8_add cX8_add 2 none [.ref h, .int v] κ h (.inr (8, [.ref (h + 1), .ref (h + 2), .int len, .int 0]) :: .inl (κ 0, 160, .inl f) :: .inl (κ 0, 4, .inl g) :: tl) 0 (fun r s' => r = none ∧ s' = .inr (8, [.ref (h + 1), .ref (h + 2), .int len1, .int 0]) :: .inl (κ 0, 160, .inl (upd f (len : Int32).toNatClampNeg v)) :: .inl (κ 0, 4, .inl g) :: tl) := by
  refine Yc.mk 0 [.ref h, .int v] rfl (by decide) (Nat.le_of_ble_eq_true rfl) ?_
  refine Yw_aload dX8_add_0 rfl rfl ?_
  refine Yw_get (q := 0) lf_X8_18 dX8_add_1 rfl rfl ?_
  refine Yw_aload dX8_add_4 rfl rfl ?_
  refine Yw_get (q := 0) lf_X8_9 dX8_add_5 rfl rfl ?_
  refine Yw_alen (q := 1) dX8_add_8 rfl ?_
  refine Yw_icmp_ge_f 54 dX8_add_9 (by decide) h1 ?_
  refine Yw_aload dX8_add_12 rfl rfl ?_
  refine Yw_get (q := 0) lf_X8_9 dX8_add_13 rfl rfl ?_
  refine Yw_aload dX8_add_16 rfl rfl ?_
  refine Yw_get (q := 0) lf_X8_18 dX8_add_17 rfl rfl ?_
  refine Yw_iload dX8_add_20 rfl rfl ?_
  refine Yw_iast (q := 1) dX8_add_21 rfl h2 ?_
  dsimp only [List.cons_append, List.nil_append, List.set_cons_zero, List.set_cons_succ]
  refine Yw_aload dX8_add_22 rfl rfl ?_
  refine Yw_dup dX8_add_23 rfl ?_
  refine Yw_get (q := 0) lf_X8_18 dX8_add_24 rfl rfl ?_
  refine Yw_iconst (v := 1) dX8_add_27 (by decide) ?_
  refine Yw_iadd (x := len1) dX8_add_28 h3 ?_
  refine Yw_put (q := 0) lp_X8_18 dX8_add_29 rfl (Nat.lt_of_lt_of_eq (m := 4) (by decide) rfl) rfl rfl ?_
  dsimp only [List.cons_append, List.nil_append, List.set_cons_zero, List.set_cons_succ]
  refine Yw_aload dX8_add_32 rfl rfl ?_
  refine Yw_aload dX8_add_33 rfl rfl ?_
  refine Yw_get (q := 0) lf_X8_22 dX8_add_34 rfl rfl ?_
  refine Yw_if_ne_f 46 dX8_add_37 (by decide) (by decide) ?_
  refine Yw_iload dX8_add_40 rfl rfl ?_
  refine Yw_bipush (v := (-102)) dX8_add_41 (by decide) ?_
  refine Yw_icmp_ne_t 50 dX8_add_43 (by decide) h4 ?_
  refine Yw_iconst (v := 0) dX8_add_50 (by decide) ?_
  refine Yw_put (q := 0) lp_X8_22 dX8_add_51 rfl (Nat.lt_of_lt_of_eq (m := 4) (by decide) rfl) rfl rfl ?_
  dsimp only [List.cons_append, List.nil_append, List.set_cons_zero, List.set_cons_succ]
  exact Yw_ret dX8_add_54 rfl ⟨rfl, rfl⟩
set_option maxRecDepth 20000 in
theorem k_first {κ : Nat → ClassId} {h : Nat} {tl : List va_E} : Yc 2 yX0_writeFirst cX0_writeFirst 1 none [.ref h] κ h (.inr (8, [.ref (h + 1), .ref (h + 2), .int 0, .int 0]) :: .inl (κ 0, 160, .inl (fun _ => 0)) :: .inl (κ 0, 4, .inl (fun _ => 0)) :: tl) 0 (fun r s' => r = none ∧ s' = .inr (8, [.ref (h + 1), .ref (h + 2), .int 3, .int 0]) :: .inl (κ 0, 160, .inl (upd (upd (upd (fun _ => 0) (0 : Int32).toNatClampNeg 1) (1 : Int32).toNatClampNeg 0) (2 : Int32).toNatClampNeg 1)) :: .inl (κ 0, 4, .inl (upd (upd (upd (upd (fun _ => 0) (0 : Int32).toNatClampNeg 0) (1 : Int32).toNatClampNeg 1) (2 : Int32).toNatClampNeg 2) (3 : Int32).toNatClampNeg 3)) :: tl) := by
  refine Yc.mk 0 [.ref h] rfl (by decide) (Nat.le_of_ble_eq_true rfl) ?_
  refine Yw_aload dX0_writeFirst_0 rfl rfl ?_
  refine Yw_iconst (v := 0) dX0_writeFirst_1 (by decide) ?_
  refine Yw_V (k := 1) (B1 := 0) (B2 := 0) (n1 := 0) (ci := 8) [] _ [.int 0] [] lm_X0_33 dX0_writeFirst_2 rfl rfl (by decide) rfl rfl rfl rfl (show (0 : Nat) ≤ 8 by decide) (Yc.imp (fun r s1 hq => ?_) (k_begin (by decide) (by decide) (by unfold vp_in; decide)))
  obtain ⟨rfl, rfl⟩ := hq
  dsimp only [Option.toList, List.cons_append, List.nil_append]
  refine Yw_aload dX0_writeFirst_5 rfl rfl ?_
  refine Yw_iconst (v := 1) dX0_writeFirst_6 (by decide) ?_
  refine Yw_V (k := 0) (B1 := 0) (B2 := 0) (n1 := 0) (ci := 8) [] _ [.int 1] [] lm_X0_37 dX0_writeFirst_7 rfl rfl (by decide) rfl rfl rfl rfl (show (0 : Nat) ≤ 8 by decide) (Yc.imp (fun r s1 hq => ?_) (k_add (len1 := 1) (by decide) (by unfold vp_in; decide) (by decide) (by decide)))
  obtain ⟨rfl, rfl⟩ := hq
  dsimp only [Option.toList, List.cons_append, List.nil_append]
  refine Yw_aload dX0_writeFirst_10 rfl rfl ?_
  refine Yw_iconst (v := 1) dX0_writeFirst_11 (by decide) ?_
  refine Yw_V (k := 1) (B1 := 0) (B2 := 0) (n1 := 0) (ci := 8) [] _ [.int 1] [] lm_X0_33 dX0_writeFirst_12 rfl rfl (by decide) rfl rfl rfl rfl (show (0 : Nat) ≤ 8 by decide) (Yc.imp (fun r s1 hq => ?_) (k_begin (by decide) (by decide) (by unfold vp_in; decide)))
  obtain ⟨rfl, rfl⟩ := hq
  dsimp only [Option.toList, List.cons_append, List.nil_append]
  refine Yw_aload dX0_writeFirst_15 rfl rfl ?_
  refine Yw_iconst (v := 0) dX0_writeFirst_16 (by decide) ?_
  refine Yw_V (k := 0) (B1 := 0) (B2 := 0) (n1 := 0) (ci := 8) [] _ [.int 0] [] lm_X0_37 dX0_writeFirst_17 rfl rfl (by decide) rfl rfl rfl rfl (show (0 : Nat) ≤ 8 by decide) (Yc.imp (fun r s1 hq => ?_) (k_add (len1 := 2) (by decide) (by unfold vp_in; decide) (by decide) (by decide)))
  obtain ⟨rfl, rfl⟩ := hq
  dsimp only [Option.toList, List.cons_append, List.nil_append]
  refine Yw_aload dX0_writeFirst_20 rfl rfl ?_
  refine Yw_iconst (v := 2) dX0_writeFirst_21 (by decide) ?_
  refine Yw_V (k := 1) (B1 := 0) (B2 := 0) (n1 := 0) (ci := 8) [] _ [.int 2] [] lm_X0_33 dX0_writeFirst_22 rfl rfl (by decide) rfl rfl rfl rfl (show (0 : Nat) ≤ 8 by decide) (Yc.imp (fun r s1 hq => ?_) (k_begin (by decide) (by decide) (by unfold vp_in; decide)))
  obtain ⟨rfl, rfl⟩ := hq
  dsimp only [Option.toList, List.cons_append, List.nil_append]
  refine Yw_aload dX0_writeFirst_25 rfl rfl ?_
  refine Yw_iconst (v := 1) dX0_writeFirst_26 (by decide) ?_
  refine Yw_V (k := 0) (B1 := 0) (B2 := 0) (n1 := 0) (ci := 8) [] _ [.int 1] [] lm_X0_37 dX0_writeFirst_27 rfl rfl (by decide) rfl rfl rfl rfl (show (0 : Nat) ≤ 8 by decide) (Yc.imp (fun r s1 hq => ?_) (k_add (len1 := 3) (by decide) (by unfold vp_in; decide) (by decide) (by decide)))
  obtain ⟨rfl, rfl⟩ := hq
  dsimp only [Option.toList, List.cons_append, List.nil_append]
  refine Yw_aload dX0_writeFirst_30 rfl rfl ?_
  refine Yw_iconst (v := 3) dX0_writeFirst_31 (by decide) ?_
  refine Yw_V (k := 1) (B1 := 0) (B2 := 0) (n1 := 0) (ci := 8) [] _ [.int 3] [] lm_X0_33 dX0_writeFirst_32 rfl rfl (by decide) rfl rfl rfl rfl (show (0 : Nat) ≤ 8 by decide) (Yc.imp (fun r s1 hq => ?_) (k_begin (by decide) (by decide) (by unfold vp_in; decide)))
  obtain ⟨rfl, rfl⟩ := hq
  dsimp only [Option.toList, List.cons_append, List.nil_append]
  exact Yw_ret dX0_writeFirst_35 rfl ⟨rfl, rfl⟩
set_option maxRecDepth 20000 in
theorem k_X0 {κ : Nat → ClassId} {h : Nat} : Yc 3 yX0_init cX0_init 2 none [.ref h] κ h ([.inr (0, [.null, .null, .null, .int 0])]) 21 (fun r s' => r = none ∧ s' = [.inr (0, [.ref (h + 1), .ref (h + 2), .ref (h + 3), .int 1]), .inl (κ 3, 6, .inr (.inr (.inr (.inr (va_up (va_up (va_up (va_up (va_up (va_up (fun _ => none) (0 : Int32).toNatClampNeg (some (h + 4))) (1 : Int32).toNatClampNeg (some (h + 7))) (2 : Int32).toNatClampNeg (some (h + 10))) (3 : Int32).toNatClampNeg (some (h + 13))) (4 : Int32).toNatClampNeg (some (h + 16))) (5 : Int32).toNatClampNeg (some (h + 19))))))), .inl (κ 0, 6, .inl (fun _ => 0)), .inl (κ 0, 64, .inl (fun _ => 0)), .inr (8, [.ref (h + 5), .ref (h + 6), .int 3, .int 0]), .inl (κ 0, 160, .inl (upd (upd (upd (fun _ => 0) (0 : Int32).toNatClampNeg 1) (1 : Int32).toNatClampNeg 0) (2 : Int32).toNatClampNeg 1)), .inl (κ 0, 4, .inl (upd (upd (upd (upd (fun _ => 0) (0 : Int32).toNatClampNeg 0) (1 : Int32).toNatClampNeg 1) (2 : Int32).toNatClampNeg 2) (3 : Int32).toNatClampNeg 3)), .inr (8, [.ref (h + 8), .ref (h + 9), .int 0, .int 0]), .inl (κ 0, 160, .inl (fun _ => 0)), .inl (κ 0, 4, .inl (fun _ => 0)), .inr (8, [.ref (h + 11), .ref (h + 12), .int 0, .int 0]), .inl (κ 0, 160, .inl (fun _ => 0)), .inl (κ 0, 4, .inl (fun _ => 0)), .inr (8, [.ref (h + 14), .ref (h + 15), .int 0, .int 0]), .inl (κ 0, 160, .inl (fun _ => 0)), .inl (κ 0, 4, .inl (fun _ => 0)), .inr (8, [.ref (h + 17), .ref (h + 18), .int 0, .int 0]), .inl (κ 0, 160, .inl (fun _ => 0)), .inl (κ 0, 4, .inl (fun _ => 0)), .inr (8, [.ref (h + 20), .ref (h + 21), .int 0, .int 0]), .inl (κ 0, 160, .inl (fun _ => 0)), .inl (κ 0, 4, .inl (fun _ => 0))]) := by
  refine Yc.mk 1 [.ref h, .null] rfl (by decide) (Nat.le_of_ble_eq_true rfl) ?_
  refine Yw_aload dX0_init_0 rfl rfl ?_
  refine Yw_obj dX0_init_1 y_ob_X0_3 y_obi y_obc (by decide) (show (0 : Nat) ≤ 8 by decide) ?_
  refine Yw_aload dX0_init_4 rfl rfl ?_
  refine Yw_bipush (v := 6) dX0_init_5 (by decide) ?_
  refine Yw_newq (n := 1) (N := 6) (t := 3) dX0_init_7 y_cl_X0_9 rfl (fun U hU => hU.2.2.1) (by decide) (by decide) (by decide) rfl ?_
  dsimp only [List.cons_append, List.nil_append, List.set_cons_zero, List.set_cons_succ]
  refine Yw_putF (q := 0) lq_X0_11 rfl dX0_init_10 rfl (Nat.lt_of_lt_of_eq (m := 4) (by decide) rfl) rfl rfl ?_
  dsimp only [List.cons_append, List.nil_append, List.set_cons_zero, List.set_cons_succ]
  refine Yw_aload dX0_init_13 rfl rfl ?_
  refine Yw_bipush (v := 6) dX0_init_14 (by decide) ?_
  refine Yw_newa_int (n := 2) (N := 6) dX0_init_16 y_arr0 (by decide) (by decide) (by decide) rfl ?_
  dsimp only [List.cons_append, List.nil_append, List.set_cons_zero, List.set_cons_succ]
  refine Yw_putF (q := 0) lq_X0_17 rfl dX0_init_18 rfl (Nat.lt_of_lt_of_eq (m := 4) (by decide) rfl) rfl rfl ?_
  dsimp only [List.cons_append, List.nil_append, List.set_cons_zero, List.set_cons_succ]
  refine Yw_aload dX0_init_21 rfl rfl ?_
  refine Yw_bipush (v := 64) dX0_init_22 (by decide) ?_
  refine Yw_newa_int (n := 3) (N := 64) dX0_init_24 y_arr0 (by decide) (by decide) (by decide) rfl ?_
  dsimp only [List.cons_append, List.nil_append, List.set_cons_zero, List.set_cons_succ]
  refine Yw_putF (q := 0) lq_X0_21 rfl dX0_init_26 rfl (Nat.lt_of_lt_of_eq (m := 4) (by decide) rfl) rfl rfl ?_
  dsimp only [List.cons_append, List.nil_append, List.set_cons_zero, List.set_cons_succ]
  refine Yw_aload dX0_init_29 rfl rfl ?_
  refine Yw_iconst (v := 1) dX0_init_30 (by decide) ?_
  refine Yw_put (q := 0) lp_X0_24 dX0_init_31 rfl (Nat.lt_of_lt_of_eq (m := 4) (by decide) rfl) rfl rfl ?_
  dsimp only [List.cons_append, List.nil_append, List.set_cons_zero, List.set_cons_succ]
  refine Yw_iconst (v := 0) dX0_init_34 (by decide) ?_
  refine Yw_istore (L' := [.ref h, .int 0]) dX0_init_35 rfl (by decide) (fun w _ hw => by cases hw; exact (by decide : (1 : Nat) ≠ 2)) rfl ?_
  refine Yw_iload dX0_init_36 rfl rfl ?_
  refine Yw_bipush (v := 6) dX0_init_37 (by decide) ?_
  refine Yw_icmp_ge_f 61 dX0_init_39 (by decide) (by decide) ?_
  refine Yw_aload dX0_init_42 rfl rfl ?_
  refine Yw_get (q := 0) lf_X0_11 dX0_init_43 rfl rfl ?_
  refine Yw_iload dX0_init_46 rfl rfl ?_
  refine Yw_new (ci := 8) (n := 4) (fs := y_bl8) rfl y_cl_X0_9 y_in8 y_ini8 y_fs8 (by decide) dX0_init_47 rfl ?_
  refine Yw_dup dX0_init_50 rfl ?_
  refine Yw_IN (k := 1) (B1 := 2) (B2 := 15) (n1 := 4) _ _ [] [.ref (h + 4), .int 0, .ref (h + 1)] li_X0_28 dX0_init_51 (by decide) rfl rfl rfl rfl (show (3 : Nat) ≤ 8 by decide) (Yc.imp (fun r s1 hq => ?_) k_X8)
  obtain ⟨rfl, rfl⟩ := hq
  dsimp only [Option.toList, List.cons_append, List.nil_append]
  refine Yw_aast (q := 1) (qk := 4) (t := 3) (ci := 8) dX0_init_54 rfl rfl rfl rfl (by unfold vp_in; decide) ?_
  dsimp only [List.cons_append, List.nil_append, List.set_cons_zero, List.set_cons_succ]
  refine Yw_iinc (z := 1) (L' := [.ref h, .int 1]) dX0_init_55 rfl (by decide) (by decide) (fun w _ hw => by cases hw; exact (by decide : (1 : Nat) ≠ 2)) rfl ?_
  refine Yw_goto 36 dX0_init_58 (by decide) ?_
  refine Yw_iload dX0_init_36 rfl rfl ?_
  refine Yw_bipush (v := 6) dX0_init_37 (by decide) ?_
  refine Yw_icmp_ge_f 61 dX0_init_39 (by decide) (by decide) ?_
  refine Yw_aload dX0_init_42 rfl rfl ?_
  refine Yw_get (q := 0) lf_X0_11 dX0_init_43 rfl rfl ?_
  refine Yw_iload dX0_init_46 rfl rfl ?_
  refine Yw_new (ci := 8) (n := 7) (fs := y_bl8) rfl y_cl_X0_9 y_in8 y_ini8 y_fs8 (by decide) dX0_init_47 rfl ?_
  refine Yw_dup dX0_init_50 rfl ?_
  refine Yw_IN (k := 1) (B1 := 2) (B2 := 12) (n1 := 7) _ _ [] [.ref (h + 7), .int 1, .ref (h + 1)] li_X0_28 dX0_init_51 (by decide) rfl rfl rfl rfl (show (3 : Nat) ≤ 8 by decide) (Yc.imp (fun r s1 hq => ?_) k_X8)
  obtain ⟨rfl, rfl⟩ := hq
  dsimp only [Option.toList, List.cons_append, List.nil_append]
  refine Yw_aast (q := 1) (qk := 7) (t := 3) (ci := 8) dX0_init_54 rfl rfl rfl rfl (by unfold vp_in; decide) ?_
  dsimp only [List.cons_append, List.nil_append, List.set_cons_zero, List.set_cons_succ]
  refine Yw_iinc (z := 2) (L' := [.ref h, .int 2]) dX0_init_55 rfl (by decide) (by decide) (fun w _ hw => by cases hw; exact (by decide : (1 : Nat) ≠ 2)) rfl ?_
  refine Yw_goto 36 dX0_init_58 (by decide) ?_
  refine Yw_iload dX0_init_36 rfl rfl ?_
  refine Yw_bipush (v := 6) dX0_init_37 (by decide) ?_
  refine Yw_icmp_ge_f 61 dX0_init_39 (by decide) (by decide) ?_
  refine Yw_aload dX0_init_42 rfl rfl ?_
  refine Yw_get (q := 0) lf_X0_11 dX0_init_43 rfl rfl ?_
  refine Yw_iload dX0_init_46 rfl rfl ?_
  refine Yw_new (ci := 8) (n := 10) (fs := y_bl8) rfl y_cl_X0_9 y_in8 y_ini8 y_fs8 (by decide) dX0_init_47 rfl ?_
  refine Yw_dup dX0_init_50 rfl ?_
  refine Yw_IN (k := 1) (B1 := 2) (B2 := 9) (n1 := 10) _ _ [] [.ref (h + 10), .int 2, .ref (h + 1)] li_X0_28 dX0_init_51 (by decide) rfl rfl rfl rfl (show (3 : Nat) ≤ 8 by decide) (Yc.imp (fun r s1 hq => ?_) k_X8)
  obtain ⟨rfl, rfl⟩ := hq
  dsimp only [Option.toList, List.cons_append, List.nil_append]
  refine Yw_aast (q := 1) (qk := 10) (t := 3) (ci := 8) dX0_init_54 rfl rfl rfl rfl (by unfold vp_in; decide) ?_
  dsimp only [List.cons_append, List.nil_append, List.set_cons_zero, List.set_cons_succ]
  refine Yw_iinc (z := 3) (L' := [.ref h, .int 3]) dX0_init_55 rfl (by decide) (by decide) (fun w _ hw => by cases hw; exact (by decide : (1 : Nat) ≠ 2)) rfl ?_
  refine Yw_goto 36 dX0_init_58 (by decide) ?_
  refine Yw_iload dX0_init_36 rfl rfl ?_
  refine Yw_bipush (v := 6) dX0_init_37 (by decide) ?_
  refine Yw_icmp_ge_f 61 dX0_init_39 (by decide) (by decide) ?_
  refine Yw_aload dX0_init_42 rfl rfl ?_
  refine Yw_get (q := 0) lf_X0_11 dX0_init_43 rfl rfl ?_
  refine Yw_iload dX0_init_46 rfl rfl ?_
  refine Yw_new (ci := 8) (n := 13) (fs := y_bl8) rfl y_cl_X0_9 y_in8 y_ini8 y_fs8 (by decide) dX0_init_47 rfl ?_
  refine Yw_dup dX0_init_50 rfl ?_
  refine Yw_IN (k := 1) (B1 := 2) (B2 := 6) (n1 := 13) _ _ [] [.ref (h + 13), .int 3, .ref (h + 1)] li_X0_28 dX0_init_51 (by decide) rfl rfl rfl rfl (show (3 : Nat) ≤ 8 by decide) (Yc.imp (fun r s1 hq => ?_) k_X8)
  obtain ⟨rfl, rfl⟩ := hq
  dsimp only [Option.toList, List.cons_append, List.nil_append]
  refine Yw_aast (q := 1) (qk := 13) (t := 3) (ci := 8) dX0_init_54 rfl rfl rfl rfl (by unfold vp_in; decide) ?_
  dsimp only [List.cons_append, List.nil_append, List.set_cons_zero, List.set_cons_succ]
  refine Yw_iinc (z := 4) (L' := [.ref h, .int 4]) dX0_init_55 rfl (by decide) (by decide) (fun w _ hw => by cases hw; exact (by decide : (1 : Nat) ≠ 2)) rfl ?_
  refine Yw_goto 36 dX0_init_58 (by decide) ?_
  refine Yw_iload dX0_init_36 rfl rfl ?_
  refine Yw_bipush (v := 6) dX0_init_37 (by decide) ?_
  refine Yw_icmp_ge_f 61 dX0_init_39 (by decide) (by decide) ?_
  refine Yw_aload dX0_init_42 rfl rfl ?_
  refine Yw_get (q := 0) lf_X0_11 dX0_init_43 rfl rfl ?_
  refine Yw_iload dX0_init_46 rfl rfl ?_
  refine Yw_new (ci := 8) (n := 16) (fs := y_bl8) rfl y_cl_X0_9 y_in8 y_ini8 y_fs8 (by decide) dX0_init_47 rfl ?_
  refine Yw_dup dX0_init_50 rfl ?_
  refine Yw_IN (k := 1) (B1 := 2) (B2 := 3) (n1 := 16) _ _ [] [.ref (h + 16), .int 4, .ref (h + 1)] li_X0_28 dX0_init_51 (by decide) rfl rfl rfl rfl (show (3 : Nat) ≤ 8 by decide) (Yc.imp (fun r s1 hq => ?_) k_X8)
  obtain ⟨rfl, rfl⟩ := hq
  dsimp only [Option.toList, List.cons_append, List.nil_append]
  refine Yw_aast (q := 1) (qk := 16) (t := 3) (ci := 8) dX0_init_54 rfl rfl rfl rfl (by unfold vp_in; decide) ?_
  dsimp only [List.cons_append, List.nil_append, List.set_cons_zero, List.set_cons_succ]
  refine Yw_iinc (z := 5) (L' := [.ref h, .int 5]) dX0_init_55 rfl (by decide) (by decide) (fun w _ hw => by cases hw; exact (by decide : (1 : Nat) ≠ 2)) rfl ?_
  refine Yw_goto 36 dX0_init_58 (by decide) ?_
  refine Yw_iload dX0_init_36 rfl rfl ?_
  refine Yw_bipush (v := 6) dX0_init_37 (by decide) ?_
  refine Yw_icmp_ge_f 61 dX0_init_39 (by decide) (by decide) ?_
  refine Yw_aload dX0_init_42 rfl rfl ?_
  refine Yw_get (q := 0) lf_X0_11 dX0_init_43 rfl rfl ?_
  refine Yw_iload dX0_init_46 rfl rfl ?_
  refine Yw_new (ci := 8) (n := 19) (fs := y_bl8) rfl y_cl_X0_9 y_in8 y_ini8 y_fs8 (by decide) dX0_init_47 rfl ?_
  refine Yw_dup dX0_init_50 rfl ?_
  refine Yw_IN (k := 1) (B1 := 2) (B2 := 0) (n1 := 19) _ _ [] [.ref (h + 19), .int 5, .ref (h + 1)] li_X0_28 dX0_init_51 (by decide) rfl rfl rfl rfl (show (3 : Nat) ≤ 8 by decide) (Yc.imp (fun r s1 hq => ?_) k_X8)
  obtain ⟨rfl, rfl⟩ := hq
  dsimp only [Option.toList, List.cons_append, List.nil_append]
  refine Yw_aast (q := 1) (qk := 19) (t := 3) (ci := 8) dX0_init_54 rfl rfl rfl rfl (by unfold vp_in; decide) ?_
  dsimp only [List.cons_append, List.nil_append, List.set_cons_zero, List.set_cons_succ]
  refine Yw_iinc (z := 6) (L' := [.ref h, .int 6]) dX0_init_55 rfl (by decide) (by decide) (fun w _ hw => by cases hw; exact (by decide : (1 : Nat) ≠ 2)) rfl ?_
  refine Yw_goto 36 dX0_init_58 (by decide) ?_
  refine Yw_iload dX0_init_36 rfl rfl ?_
  refine Yw_bipush (v := 6) dX0_init_37 (by decide) ?_
  refine Yw_icmp_ge_t 61 dX0_init_39 (by decide) (by decide) ?_
  refine Yw_aload dX0_init_61 rfl rfl ?_
  refine Yw_get (q := 0) lf_X0_11 dX0_init_62 rfl rfl ?_
  refine Yw_iconst (v := 0) dX0_init_65 (by decide) ?_
  refine Yw_aald (q := 1) (t := 3) (a := h + 4) dX0_init_66 rfl rfl (by unfold vp_in; decide) rfl ?_
  refine Yw_S (k := 2) (B1 := 0) (B2 := 0) (n1 := 4) [.inr (0, [.ref (h + 1), .ref (h + 2), .ref (h + 3), .int 1]), .inl (κ 3, 6, .inr (.inr (.inr (.inr (va_up (va_up (va_up (va_up (va_up (va_up (fun _ => none) (0 : Int32).toNatClampNeg (some (h + 4))) (1 : Int32).toNatClampNeg (some (h + 7))) (2 : Int32).toNatClampNeg (some (h + 10))) (3 : Int32).toNatClampNeg (some (h + 13))) (4 : Int32).toNatClampNeg (some (h + 16))) (5 : Int32).toNatClampNeg (some (h + 19))))))), .inl (κ 0, 6, .inl (fun _ => 0)), .inl (κ 0, 64, .inl (fun _ => 0))] _ [.ref (h + 4)] [] lm_X0_29 dX0_init_67 (by decide) rfl rfl rfl rfl (show (0 : Nat) ≤ 8 by decide) (Yc.imp (fun r s1 hq => ?_) k_first)
  obtain ⟨rfl, rfl⟩ := hq
  dsimp only [Option.toList, List.cons_append, List.nil_append]
  exact Yw_ret dX0_init_70 rfl ⟨rfl, rfl⟩
set_option maxRecDepth 20000 in
theorem k_spell {κ : Nat → ClassId} {h : Nat} {f : Nat → Int32} {fs : List Value} {tl : List va_E} {a x0 x1 x2 x3 x4 x5 x6 x7 : Int32} (hfs : fs[1]? = some (.ref (h + 1))) (h0 : vp_in (a) 960) (h1 : vp_in (a + 1) 960) (h2 : vp_in (a + 2) 960) (h3 : vp_in (a + 3) 960) (h4 : vp_in (a + 4) 960) (h5 : vp_in (a + 5) 960) (h6 : vp_in (a + 6) 960) (h7 : vp_in (a + 7) 960) : Yc 0 yX11_spell cX11_spell 10 none [.ref h, .int a, .int x0, .int x1, .int x2, .int x3, .int x4, .int x5, .int x6, .int x7] κ h (.inr (11, fs) :: .inl (κ 0, 960, .inl f) :: tl) 0 (fun r s' => r = none ∧ s' = .inr (11, fs) :: .inl (κ 0, 960, .inl (upd (upd (upd (upd (upd (upd (upd (upd f (a).toNatClampNeg x0) (a + 1).toNatClampNeg x1) (a + 2).toNatClampNeg x2) (a + 3).toNatClampNeg x3) (a + 4).toNatClampNeg x4) (a + 5).toNatClampNeg x5) (a + 6).toNatClampNeg x6) (a + 7).toNatClampNeg x7)) :: tl) := by
  refine Yc.mk 0 [.ref h, .int a, .int x0, .int x1, .int x2, .int x3, .int x4, .int x5, .int x6, .int x7] rfl (by decide) (Nat.le_of_ble_eq_true rfl) ?_
  refine Yw_aload dX11_spell_0 rfl rfl ?_
  refine Yw_get (q := 0) lf_X11_13 dX11_spell_1 rfl hfs ?_
  refine Yw_iload dX11_spell_4 rfl rfl ?_
  refine Yw_iload dX11_spell_5 rfl rfl ?_
  refine Yw_iast (q := 1) dX11_spell_6 rfl h0 ?_
  dsimp only [List.cons_append, List.nil_append, List.set_cons_zero, List.set_cons_succ]
  refine Yw_aload dX11_spell_7 rfl rfl ?_
  refine Yw_get (q := 0) lf_X11_13 dX11_spell_8 rfl hfs ?_
  refine Yw_iload dX11_spell_11 rfl rfl ?_
  refine Yw_iconst (v := 1) dX11_spell_12 (by decide) ?_
  refine Yw_iadd (x := a + 1) dX11_spell_13 rfl ?_
  refine Yw_iload dX11_spell_14 rfl rfl ?_
  refine Yw_iast (q := 1) dX11_spell_15 rfl h1 ?_
  dsimp only [List.cons_append, List.nil_append, List.set_cons_zero, List.set_cons_succ]
  refine Yw_aload dX11_spell_16 rfl rfl ?_
  refine Yw_get (q := 0) lf_X11_13 dX11_spell_17 rfl hfs ?_
  refine Yw_iload dX11_spell_20 rfl rfl ?_
  refine Yw_iconst (v := 2) dX11_spell_21 (by decide) ?_
  refine Yw_iadd (x := a + 2) dX11_spell_22 rfl ?_
  refine Yw_iloadw dX11_spell_23 rfl ?_
  refine Yw_iast (q := 1) dX11_spell_25 rfl h2 ?_
  dsimp only [List.cons_append, List.nil_append, List.set_cons_zero, List.set_cons_succ]
  refine Yw_aload dX11_spell_26 rfl rfl ?_
  refine Yw_get (q := 0) lf_X11_13 dX11_spell_27 rfl hfs ?_
  refine Yw_iload dX11_spell_30 rfl rfl ?_
  refine Yw_iconst (v := 3) dX11_spell_31 (by decide) ?_
  refine Yw_iadd (x := a + 3) dX11_spell_32 rfl ?_
  refine Yw_iloadw dX11_spell_33 rfl ?_
  refine Yw_iast (q := 1) dX11_spell_35 rfl h3 ?_
  dsimp only [List.cons_append, List.nil_append, List.set_cons_zero, List.set_cons_succ]
  refine Yw_aload dX11_spell_36 rfl rfl ?_
  refine Yw_get (q := 0) lf_X11_13 dX11_spell_37 rfl hfs ?_
  refine Yw_iload dX11_spell_40 rfl rfl ?_
  refine Yw_iconst (v := 4) dX11_spell_41 (by decide) ?_
  refine Yw_iadd (x := a + 4) dX11_spell_42 rfl ?_
  refine Yw_iloadw dX11_spell_43 rfl ?_
  refine Yw_iast (q := 1) dX11_spell_45 rfl h4 ?_
  dsimp only [List.cons_append, List.nil_append, List.set_cons_zero, List.set_cons_succ]
  refine Yw_aload dX11_spell_46 rfl rfl ?_
  refine Yw_get (q := 0) lf_X11_13 dX11_spell_47 rfl hfs ?_
  refine Yw_iload dX11_spell_50 rfl rfl ?_
  refine Yw_iconst (v := 5) dX11_spell_51 (by decide) ?_
  refine Yw_iadd (x := a + 5) dX11_spell_52 rfl ?_
  refine Yw_iloadw dX11_spell_53 rfl ?_
  refine Yw_iast (q := 1) dX11_spell_55 rfl h5 ?_
  dsimp only [List.cons_append, List.nil_append, List.set_cons_zero, List.set_cons_succ]
  refine Yw_aload dX11_spell_56 rfl rfl ?_
  refine Yw_get (q := 0) lf_X11_13 dX11_spell_57 rfl hfs ?_
  refine Yw_iload dX11_spell_60 rfl rfl ?_
  refine Yw_bipush (v := 6) dX11_spell_61 (by decide) ?_
  refine Yw_iadd (x := a + 6) dX11_spell_63 rfl ?_
  refine Yw_iloadw dX11_spell_64 rfl ?_
  refine Yw_iast (q := 1) dX11_spell_66 rfl h6 ?_
  dsimp only [List.cons_append, List.nil_append, List.set_cons_zero, List.set_cons_succ]
  refine Yw_aload dX11_spell_67 rfl rfl ?_
  refine Yw_get (q := 0) lf_X11_13 dX11_spell_68 rfl hfs ?_
  refine Yw_iload dX11_spell_71 rfl rfl ?_
  refine Yw_bipush (v := 7) dX11_spell_72 (by decide) ?_
  refine Yw_iadd (x := a + 7) dX11_spell_74 rfl ?_
  refine Yw_iloadw dX11_spell_75 rfl ?_
  refine Yw_iast (q := 1) dX11_spell_77 rfl h7 ?_
  dsimp only [List.cons_append, List.nil_append, List.set_cons_zero, List.set_cons_succ]
  exact Yw_ret dX11_spell_78 rfl ⟨rfl, rfl⟩
set_option maxRecDepth 20000 in
theorem k_X11 {κ : Nat → ClassId} {h : Nat} : Yc 1 yX11_init cX11_init 1 none [.ref h] κ h ([.inr (11, [.int 0, .null, .null, .int 0, .int 0, .null, .int 0, .null, .null, .null, .null, .int 0, .int 0, .int 0, .int 0, .int 0, .int 0, .int 0, .int 0, .int 0, .int 0, .int 0, .int 0, .long 0, .int 0, .int 0, .int 0, .null, .null, .int 0, .int 0, .null, .null, .null, .int 0, .int 0, .null, .null, .null, .null])]) 16 (fun r s' => r = none ∧ s' = [.inr (11, [.int 0, .ref (h + 1), .ref (h + 2), .int 1, .int 0, .ref (h + 3), .int 0, .ref (h + 4), .ref (h + 5), .ref (h + 6), .ref (h + 7), .int 0, .int 0, .int 0, .int 0, .int 0, .int 0, .int 0, .int 0, .int 0, .int 0, .int 0, .int 0, .long 0, .int 0, .int 0, .int 0, .ref (h + 8), .ref (h + 9), .int 0, .int 0, .ref (h + 10), .ref (h + 11), .ref (h + 12), .int (-1), .int 0, .ref (h + 13), .ref (h + 14), .ref (h + 15), .ref (h + 16)]), .inl (κ 0, 960, .inl (upd (upd (upd (upd (upd (upd (upd (upd (upd (upd (upd (upd (upd (upd (upd (upd (upd (upd (upd (upd (upd (upd (upd (upd (upd (upd (upd (upd (upd (upd (upd (upd (fun _ => 0) (0 : Int32).toNatClampNeg 103) (0 + 1 : Int32).toNatClampNeg 111) (0 + 2 : Int32).toNatClampNeg 101) (0 + 3 : Int32).toNatClampNeg 115) (0 + 4 : Int32).toNatClampNeg 32) (0 + 5 : Int32).toNatClampNeg 49) (0 + 6 : Int32).toNatClampNeg 32) (0 + 7 : Int32).toNatClampNeg 59) (8 : Int32).toNatClampNeg 32) (8 + 1 : Int32).toNatClampNeg 115) (8 + 2 : Int32).toNatClampNeg 116) (8 + 3 : Int32).toNatClampNeg 97) (8 + 4 : Int32).toNatClampNeg 121) (8 + 5 : Int32).toNatClampNeg 115) (8 + 6 : Int32).toNatClampNeg 32) (8 + 7 : Int32).toNatClampNeg 48) (16 : Int32).toNatClampNeg 32) (16 + 1 : Int32).toNatClampNeg 59) (16 + 2 : Int32).toNatClampNeg 32) (16 + 3 : Int32).toNatClampNeg 115) (16 + 4 : Int32).toNatClampNeg 101) (16 + 5 : Int32).toNatClampNeg 101) (16 + 6 : Int32).toNatClampNeg 115) (16 + 7 : Int32).toNatClampNeg 32) (24 : Int32).toNatClampNeg 49) (24 + 1 : Int32).toNatClampNeg 32) (24 + 2 : Int32).toNatClampNeg 59) (24 + 3 : Int32).toNatClampNeg 32) (24 + 4 : Int32).toNatClampNeg 32) (24 + 5 : Int32).toNatClampNeg 32) (24 + 6 : Int32).toNatClampNeg 32) (24 + 7 : Int32).toNatClampNeg 32)), .inl (κ 0, 6, .inl (upd (fun _ => 0) (0 : Int32).toNatClampNeg 32)), .inl (κ 0, 160, .inl (fun _ => 0)), .inl (κ 0, 4, .inl (upd (fun _ => 0) (3 : Int32).toNatClampNeg 255)), .inl (κ 0, 8, .inl (fun _ => 0)), .inl (κ 0, 5, .inl (fun _ => 0)), .inl (κ 0, 15, .inl (fun _ => 0)), .inl (κ 0, 256, .inl (fun _ => 0)), .inl (κ 0, 2048, .inl (fun _ => 0)), .inl (κ 0, 4, .inl (fun _ => 0)), .inl (κ 0, 8, .inl (fun _ => 0)), .inl (κ 0, 15, .inl (fun _ => 0)), .inl (κ 1, 4, .inl (fun _ => 0)), .inl (κ 0, 4, .inl (fun _ => 0)), .inl (κ 0, 4, .inl (fun _ => 0)), .inl (κ 0, 160, .inl (fun _ => 0))]) := by
  refine Yc.mk 0 [.ref h] rfl (by decide) (Nat.le_of_ble_eq_true rfl) ?_
  refine Yw_aload dX11_init_0 rfl rfl ?_
  refine Yw_obj dX11_init_1 y_ob_X11_7 y_obi y_obc (by decide) (show (0 : Nat) ≤ 8 by decide) ?_
  refine Yw_aload dX11_init_4 rfl rfl ?_
  refine Yw_sipush (v := 960) dX11_init_5 (by decide) ?_
  refine Yw_newa_int (n := 1) (N := 960) dX11_init_8 y_arr0 (by decide) (by decide) (by decide) rfl ?_
  dsimp only [List.cons_append, List.nil_append, List.set_cons_zero, List.set_cons_succ]
  refine Yw_putF (q := 0) lq_X11_13 rfl dX11_init_10 rfl (Nat.lt_of_lt_of_eq (m := 40) (by decide) rfl) rfl rfl ?_
  dsimp only [List.cons_append, List.nil_append, List.set_cons_zero, List.set_cons_succ]
  refine Yw_aload dX11_init_13 rfl rfl ?_
  refine Yw_bipush (v := 6) dX11_init_14 (by decide) ?_
  refine Yw_newa_int (n := 2) (N := 6) dX11_init_16 y_arr0 (by decide) (by decide) (by decide) rfl ?_
  dsimp only [List.cons_append, List.nil_append, List.set_cons_zero, List.set_cons_succ]
  refine Yw_putF (q := 0) lq_X11_17 rfl dX11_init_18 rfl (Nat.lt_of_lt_of_eq (m := 40) (by decide) rfl) rfl rfl ?_
  dsimp only [List.cons_append, List.nil_append, List.set_cons_zero, List.set_cons_succ]
  refine Yw_aload dX11_init_21 rfl rfl ?_
  refine Yw_sipush (v := 160) dX11_init_22 (by decide) ?_
  refine Yw_newa_int (n := 3) (N := 160) dX11_init_25 y_arr0 (by decide) (by decide) (by decide) rfl ?_
  dsimp only [List.cons_append, List.nil_append, List.set_cons_zero, List.set_cons_succ]
  refine Yw_putF (q := 0) lq_X11_20 rfl dX11_init_27 rfl (Nat.lt_of_lt_of_eq (m := 40) (by decide) rfl) rfl rfl ?_
  dsimp only [List.cons_append, List.nil_append, List.set_cons_zero, List.set_cons_succ]
  refine Yw_aload dX11_init_30 rfl rfl ?_
  refine Yw_iconst (v := 4) dX11_init_31 (by decide) ?_
  refine Yw_newa_int (n := 4) (N := 4) dX11_init_32 y_arr0 (by decide) (by decide) (by decide) rfl ?_
  dsimp only [List.cons_append, List.nil_append, List.set_cons_zero, List.set_cons_succ]
  refine Yw_putF (q := 0) lq_X11_23 rfl dX11_init_34 rfl (Nat.lt_of_lt_of_eq (m := 40) (by decide) rfl) rfl rfl ?_
  dsimp only [List.cons_append, List.nil_append, List.set_cons_zero, List.set_cons_succ]
  refine Yw_aload dX11_init_37 rfl rfl ?_
  refine Yw_bipush (v := 8) dX11_init_38 (by decide) ?_
  refine Yw_newa_int (n := 5) (N := 8) dX11_init_40 y_arr0 (by decide) (by decide) (by decide) rfl ?_
  dsimp only [List.cons_append, List.nil_append, List.set_cons_zero, List.set_cons_succ]
  refine Yw_putF (q := 0) lq_X11_26 rfl dX11_init_42 rfl (Nat.lt_of_lt_of_eq (m := 40) (by decide) rfl) rfl rfl ?_
  dsimp only [List.cons_append, List.nil_append, List.set_cons_zero, List.set_cons_succ]
  refine Yw_aload dX11_init_45 rfl rfl ?_
  refine Yw_iconst (v := 5) dX11_init_46 (by decide) ?_
  refine Yw_newa_int (n := 6) (N := 5) dX11_init_47 y_arr0 (by decide) (by decide) (by decide) rfl ?_
  dsimp only [List.cons_append, List.nil_append, List.set_cons_zero, List.set_cons_succ]
  refine Yw_putF (q := 0) lq_X11_29 rfl dX11_init_49 rfl (Nat.lt_of_lt_of_eq (m := 40) (by decide) rfl) rfl rfl ?_
  dsimp only [List.cons_append, List.nil_append, List.set_cons_zero, List.set_cons_succ]
  refine Yw_aload dX11_init_52 rfl rfl ?_
  refine Yw_bipush (v := 15) dX11_init_53 (by decide) ?_
  refine Yw_newa_int (n := 7) (N := 15) dX11_init_55 y_arr0 (by decide) (by decide) (by decide) rfl ?_
  dsimp only [List.cons_append, List.nil_append, List.set_cons_zero, List.set_cons_succ]
  refine Yw_putF (q := 0) lq_X11_32 rfl dX11_init_57 rfl (Nat.lt_of_lt_of_eq (m := 40) (by decide) rfl) rfl rfl ?_
  dsimp only [List.cons_append, List.nil_append, List.set_cons_zero, List.set_cons_succ]
  refine Yw_aload dX11_init_60 rfl rfl ?_
  refine Yw_sipush (v := 256) dX11_init_61 (by decide) ?_
  refine Yw_newa_int (n := 8) (N := 256) dX11_init_64 y_arr0 (by decide) (by decide) (by decide) rfl ?_
  dsimp only [List.cons_append, List.nil_append, List.set_cons_zero, List.set_cons_succ]
  refine Yw_putF (q := 0) lq_X11_35 rfl dX11_init_66 rfl (Nat.lt_of_lt_of_eq (m := 40) (by decide) rfl) rfl rfl ?_
  dsimp only [List.cons_append, List.nil_append, List.set_cons_zero, List.set_cons_succ]
  refine Yw_aload dX11_init_69 rfl rfl ?_
  refine Yw_sipush (v := 2048) dX11_init_70 (by decide) ?_
  refine Yw_newa_int (n := 9) (N := 2048) dX11_init_73 y_arr0 (by decide) (by decide) (by decide) rfl ?_
  dsimp only [List.cons_append, List.nil_append, List.set_cons_zero, List.set_cons_succ]
  refine Yw_putF (q := 0) lq_X11_38 rfl dX11_init_75 rfl (Nat.lt_of_lt_of_eq (m := 40) (by decide) rfl) rfl rfl ?_
  dsimp only [List.cons_append, List.nil_append, List.set_cons_zero, List.set_cons_succ]
  refine Yw_aload dX11_init_78 rfl rfl ?_
  refine Yw_iconst (v := 4) dX11_init_79 (by decide) ?_
  refine Yw_newa_int (n := 10) (N := 4) dX11_init_80 y_arr0 (by decide) (by decide) (by decide) rfl ?_
  dsimp only [List.cons_append, List.nil_append, List.set_cons_zero, List.set_cons_succ]
  refine Yw_putF (q := 0) lq_X11_41 rfl dX11_init_82 rfl (Nat.lt_of_lt_of_eq (m := 40) (by decide) rfl) rfl rfl ?_
  dsimp only [List.cons_append, List.nil_append, List.set_cons_zero, List.set_cons_succ]
  refine Yw_aload dX11_init_85 rfl rfl ?_
  refine Yw_bipush (v := 8) dX11_init_86 (by decide) ?_
  refine Yw_newa_int (n := 11) (N := 8) dX11_init_88 y_arr0 (by decide) (by decide) (by decide) rfl ?_
  dsimp only [List.cons_append, List.nil_append, List.set_cons_zero, List.set_cons_succ]
  refine Yw_putF (q := 0) lq_X11_44 rfl dX11_init_90 rfl (Nat.lt_of_lt_of_eq (m := 40) (by decide) rfl) rfl rfl ?_
  dsimp only [List.cons_append, List.nil_append, List.set_cons_zero, List.set_cons_succ]
  refine Yw_aload dX11_init_93 rfl rfl ?_
  refine Yw_bipush (v := 15) dX11_init_94 (by decide) ?_
  refine Yw_newa_int (n := 12) (N := 15) dX11_init_96 y_arr0 (by decide) (by decide) (by decide) rfl ?_
  dsimp only [List.cons_append, List.nil_append, List.set_cons_zero, List.set_cons_succ]
  refine Yw_putF (q := 0) lq_X11_47 rfl dX11_init_98 rfl (Nat.lt_of_lt_of_eq (m := 40) (by decide) rfl) rfl rfl ?_
  dsimp only [List.cons_append, List.nil_append, List.set_cons_zero, List.set_cons_succ]
  refine Yw_aload dX11_init_101 rfl rfl ?_
  refine Yw_iconst (v := (-1)) dX11_init_102 (by decide) ?_
  refine Yw_put (q := 0) lp_X11_50 dX11_init_103 rfl (Nat.lt_of_lt_of_eq (m := 40) (by decide) rfl) rfl rfl ?_
  dsimp only [List.cons_append, List.nil_append, List.set_cons_zero, List.set_cons_succ]
  refine Yw_aload dX11_init_106 rfl rfl ?_
  refine Yw_iconst (v := 4) dX11_init_107 (by decide) ?_
  refine Yw_newa_bool (n := 13) (N := 4) dX11_init_108 y_arr1 (by decide) (by decide) (by decide) rfl ?_
  dsimp only [List.cons_append, List.nil_append, List.set_cons_zero, List.set_cons_succ]
  refine Yw_putF (q := 0) lq_X11_53 rfl dX11_init_110 rfl (Nat.lt_of_lt_of_eq (m := 40) (by decide) rfl) rfl rfl ?_
  dsimp only [List.cons_append, List.nil_append, List.set_cons_zero, List.set_cons_succ]
  refine Yw_aload dX11_init_113 rfl rfl ?_
  refine Yw_iconst (v := 4) dX11_init_114 (by decide) ?_
  refine Yw_newa_int (n := 14) (N := 4) dX11_init_115 y_arr0 (by decide) (by decide) (by decide) rfl ?_
  dsimp only [List.cons_append, List.nil_append, List.set_cons_zero, List.set_cons_succ]
  refine Yw_putF (q := 0) lq_X11_57 rfl dX11_init_117 rfl (Nat.lt_of_lt_of_eq (m := 40) (by decide) rfl) rfl rfl ?_
  dsimp only [List.cons_append, List.nil_append, List.set_cons_zero, List.set_cons_succ]
  refine Yw_aload dX11_init_120 rfl rfl ?_
  refine Yw_iconst (v := 4) dX11_init_121 (by decide) ?_
  refine Yw_newa_int (n := 15) (N := 4) dX11_init_122 y_arr0 (by decide) (by decide) (by decide) rfl ?_
  dsimp only [List.cons_append, List.nil_append, List.set_cons_zero, List.set_cons_succ]
  refine Yw_putF (q := 0) lq_X11_60 rfl dX11_init_124 rfl (Nat.lt_of_lt_of_eq (m := 40) (by decide) rfl) rfl rfl ?_
  dsimp only [List.cons_append, List.nil_append, List.set_cons_zero, List.set_cons_succ]
  refine Yw_aload dX11_init_127 rfl rfl ?_
  refine Yw_sipush (v := 160) dX11_init_128 (by decide) ?_
  refine Yw_newa_int (n := 16) (N := 160) dX11_init_131 y_arr0 (by decide) (by decide) (by decide) rfl ?_
  dsimp only [List.cons_append, List.nil_append, List.set_cons_zero, List.set_cons_succ]
  refine Yw_putF (q := 0) lq_X11_63 rfl dX11_init_133 rfl (Nat.lt_of_lt_of_eq (m := 40) (by decide) rfl) rfl rfl ?_
  dsimp only [List.cons_append, List.nil_append, List.set_cons_zero, List.set_cons_succ]
  refine Yw_aload dX11_init_136 rfl rfl ?_
  refine Yw_get (q := 0) lf_X11_23 dX11_init_137 rfl rfl ?_
  refine Yw_iconst (v := 3) dX11_init_140 (by decide) ?_
  refine Yw_sipush (v := 255) dX11_init_141 (by decide) ?_
  refine Yw_iast (q := 4) dX11_init_144 rfl (by unfold vp_in; decide) ?_
  dsimp only [List.cons_append, List.nil_append, List.set_cons_zero, List.set_cons_succ]
  refine Yw_aload dX11_init_145 rfl rfl ?_
  refine Yw_iconst (v := 0) dX11_init_146 (by decide) ?_
  refine Yw_bipush (v := 103) dX11_init_147 (by decide) ?_
  refine Yw_bipush (v := 111) dX11_init_149 (by decide) ?_
  refine Yw_bipush (v := 101) dX11_init_151 (by decide) ?_
  refine Yw_bipush (v := 115) dX11_init_153 (by decide) ?_
  refine Yw_bipush (v := 32) dX11_init_155 (by decide) ?_
  refine Yw_bipush (v := 49) dX11_init_157 (by decide) ?_
  refine Yw_bipush (v := 32) dX11_init_159 (by decide) ?_
  refine Yw_bipush (v := 59) dX11_init_161 (by decide) ?_
  refine Yw_V (k := 0) (B1 := 0) (B2 := 0) (n1 := 0) (ci := 11) [] _ [.int 0, .int 103, .int 111, .int 101, .int 115, .int 32, .int 49, .int 32, .int 59] [] lm_X11_66 dX11_init_163 rfl rfl (by decide) rfl rfl rfl (by decide) (show (0 : Nat) ≤ 8 by decide) (Yc.imp (fun r s1 hq => ?_) (k_spell rfl (by unfold vp_in; decide) (by unfold vp_in; decide) (by unfold vp_in; decide) (by unfold vp_in; decide) (by unfold vp_in; decide) (by unfold vp_in; decide) (by unfold vp_in; decide) (by unfold vp_in; decide)))
  obtain ⟨rfl, rfl⟩ := hq
  dsimp only [Option.toList, List.cons_append, List.nil_append]
  refine Yw_aload dX11_init_166 rfl rfl ?_
  refine Yw_bipush (v := 8) dX11_init_167 (by decide) ?_
  refine Yw_bipush (v := 32) dX11_init_169 (by decide) ?_
  refine Yw_bipush (v := 115) dX11_init_171 (by decide) ?_
  refine Yw_bipush (v := 116) dX11_init_173 (by decide) ?_
  refine Yw_bipush (v := 97) dX11_init_175 (by decide) ?_
  refine Yw_bipush (v := 121) dX11_init_177 (by decide) ?_
  refine Yw_bipush (v := 115) dX11_init_179 (by decide) ?_
  refine Yw_bipush (v := 32) dX11_init_181 (by decide) ?_
  refine Yw_bipush (v := 48) dX11_init_183 (by decide) ?_
  refine Yw_V (k := 0) (B1 := 0) (B2 := 0) (n1 := 0) (ci := 11) [] _ [.int 8, .int 32, .int 115, .int 116, .int 97, .int 121, .int 115, .int 32, .int 48] [] lm_X11_66 dX11_init_185 rfl rfl (by decide) rfl rfl rfl (by decide) (show (0 : Nat) ≤ 8 by decide) (Yc.imp (fun r s1 hq => ?_) (k_spell rfl (by unfold vp_in; decide) (by unfold vp_in; decide) (by unfold vp_in; decide) (by unfold vp_in; decide) (by unfold vp_in; decide) (by unfold vp_in; decide) (by unfold vp_in; decide) (by unfold vp_in; decide)))
  obtain ⟨rfl, rfl⟩ := hq
  dsimp only [Option.toList, List.cons_append, List.nil_append]
  refine Yw_aload dX11_init_188 rfl rfl ?_
  refine Yw_bipush (v := 16) dX11_init_189 (by decide) ?_
  refine Yw_bipush (v := 32) dX11_init_191 (by decide) ?_
  refine Yw_bipush (v := 59) dX11_init_193 (by decide) ?_
  refine Yw_bipush (v := 32) dX11_init_195 (by decide) ?_
  refine Yw_bipush (v := 115) dX11_init_197 (by decide) ?_
  refine Yw_bipush (v := 101) dX11_init_199 (by decide) ?_
  refine Yw_bipush (v := 101) dX11_init_201 (by decide) ?_
  refine Yw_bipush (v := 115) dX11_init_203 (by decide) ?_
  refine Yw_bipush (v := 32) dX11_init_205 (by decide) ?_
  refine Yw_V (k := 0) (B1 := 0) (B2 := 0) (n1 := 0) (ci := 11) [] _ [.int 16, .int 32, .int 59, .int 32, .int 115, .int 101, .int 101, .int 115, .int 32] [] lm_X11_66 dX11_init_207 rfl rfl (by decide) rfl rfl rfl (by decide) (show (0 : Nat) ≤ 8 by decide) (Yc.imp (fun r s1 hq => ?_) (k_spell rfl (by unfold vp_in; decide) (by unfold vp_in; decide) (by unfold vp_in; decide) (by unfold vp_in; decide) (by unfold vp_in; decide) (by unfold vp_in; decide) (by unfold vp_in; decide) (by unfold vp_in; decide)))
  obtain ⟨rfl, rfl⟩ := hq
  dsimp only [Option.toList, List.cons_append, List.nil_append]
  refine Yw_aload dX11_init_210 rfl rfl ?_
  refine Yw_bipush (v := 24) dX11_init_211 (by decide) ?_
  refine Yw_bipush (v := 49) dX11_init_213 (by decide) ?_
  refine Yw_bipush (v := 32) dX11_init_215 (by decide) ?_
  refine Yw_bipush (v := 59) dX11_init_217 (by decide) ?_
  refine Yw_bipush (v := 32) dX11_init_219 (by decide) ?_
  refine Yw_bipush (v := 32) dX11_init_221 (by decide) ?_
  refine Yw_bipush (v := 32) dX11_init_223 (by decide) ?_
  refine Yw_bipush (v := 32) dX11_init_225 (by decide) ?_
  refine Yw_bipush (v := 32) dX11_init_227 (by decide) ?_
  refine Yw_V (k := 0) (B1 := 0) (B2 := 0) (n1 := 0) (ci := 11) [] _ [.int 24, .int 49, .int 32, .int 59, .int 32, .int 32, .int 32, .int 32, .int 32] [] lm_X11_66 dX11_init_229 rfl rfl (by decide) rfl rfl rfl (by decide) (show (0 : Nat) ≤ 8 by decide) (Yc.imp (fun r s1 hq => ?_) (k_spell rfl (by unfold vp_in; decide) (by unfold vp_in; decide) (by unfold vp_in; decide) (by unfold vp_in; decide) (by unfold vp_in; decide) (by unfold vp_in; decide) (by unfold vp_in; decide) (by unfold vp_in; decide)))
  obtain ⟨rfl, rfl⟩ := hq
  dsimp only [Option.toList, List.cons_append, List.nil_append]
  refine Yw_aload dX11_init_232 rfl rfl ?_
  refine Yw_get (q := 0) lf_X11_17 dX11_init_233 rfl rfl ?_
  refine Yw_iconst (v := 0) dX11_init_236 (by decide) ?_
  refine Yw_bipush (v := 32) dX11_init_237 (by decide) ?_
  refine Yw_iast (q := 2) dX11_init_239 rfl (by unfold vp_in; decide) ?_
  dsimp only [List.cons_append, List.nil_append, List.set_cons_zero, List.set_cons_succ]
  refine Yw_aload dX11_init_240 rfl rfl ?_
  refine Yw_iconst (v := 1) dX11_init_241 (by decide) ?_
  refine Yw_put (q := 0) lp_X11_70 dX11_init_242 rfl (Nat.lt_of_lt_of_eq (m := 40) (by decide) rfl) rfl rfl ?_
  dsimp only [List.cons_append, List.nil_append, List.set_cons_zero, List.set_cons_succ]
  exact Yw_ret dX11_init_245 rfl ⟨rfl, rfl⟩
set_option maxRecDepth 20000 in
theorem k_X10 {κ : Nat → ClassId} {h : Nat} : Yc 4 yX10_init cX10_init 2 none [.ref h] κ h ([.inr (10, [.null, .null, .null, .null, .null, .null, .null, .null, .null, .int 0])]) 60 (fun r s' => r = none ∧ s' = [.inr (10, [.ref (h + 1), .ref (h + 9), .ref (h + 17), .ref (h + 39), .ref (h + 42), .ref (h + 44), .ref (h + 48), .ref (h + 51), .ref (h + 52), .int 0]), .inr (2, [.ref (h + 2), .ref (h + 3), .int 0, .int 0, .int 0, .int 0, .int 255, .int 0]), .inl (κ 0, 8, .inl (fun _ => 0)), .inl (κ 2, 5, .inr (.inr (.inr (.inr (va_up (va_up (va_up (va_up (va_up (fun _ => none) (0 : Int32).toNatClampNeg (some (h + 4))) (1 : Int32).toNatClampNeg (some (h + 5))) (2 : Int32).toNatClampNeg (some (h + 6))) (3 : Int32).toNatClampNeg (some (h + 7))) (4 : Int32).toNatClampNeg (some (h + 8))))))), .inr (3, [.int 0, .int 0, .int 0, .int 0]), .inr (3, [.int 0, .int 0, .int 0, .int 0]), .inr (3, [.int 0, .int 0, .int 0, .int 0]), .inr (3, [.int 0, .int 0, .int 0, .int 0]), .inr (3, [.int 0, .int 0, .int 0, .int 0]), .inr (2, [.ref (h + 10), .ref (h + 11), .int 0, .int 0, .int 0, .int 0, .int 255, .int 0]), .inl (κ 0, 8, .inl (fun _ => 0)), .inl (κ 2, 5, .inr (.inr (.inr (.inr (va_up (va_up (va_up (va_up (va_up (fun _ => none) (0 : Int32).toNatClampNeg (some (h + 12))) (1 : Int32).toNatClampNeg (some (h + 13))) (2 : Int32).toNatClampNeg (some (h + 14))) (3 : Int32).toNatClampNeg (some (h + 15))) (4 : Int32).toNatClampNeg (some (h + 16))))))), .inr (3, [.int 0, .int 0, .int 0, .int 0]), .inr (3, [.int 0, .int 0, .int 0, .int 0]), .inr (3, [.int 0, .int 0, .int 0, .int 0]), .inr (3, [.int 0, .int 0, .int 0, .int 0]), .inr (3, [.int 0, .int 0, .int 0, .int 0]), .inr (0, [.ref (h + 18), .ref (h + 19), .ref (h + 20), .int 1]), .inl (κ 3, 6, .inr (.inr (.inr (.inr (va_up (va_up (va_up (va_up (va_up (va_up (fun _ => none) (0 : Int32).toNatClampNeg (some (h + 21))) (1 : Int32).toNatClampNeg (some (h + 24))) (2 : Int32).toNatClampNeg (some (h + 27))) (3 : Int32).toNatClampNeg (some (h + 30))) (4 : Int32).toNatClampNeg (some (h + 33))) (5 : Int32).toNatClampNeg (some (h + 36))))))), .inl (κ 0, 6, .inl (fun _ => 0)), .inl (κ 0, 64, .inl (fun _ => 0)), .inr (8, [.ref (h + 22), .ref (h + 23), .int 3, .int 0]), .inl (κ 0, 160, .inl (upd (upd (upd (fun _ => 0) (0 : Int32).toNatClampNeg 1) (1 : Int32).toNatClampNeg 0) (2 : Int32).toNatClampNeg 1)), .inl (κ 0, 4, .inl (upd (upd (upd (upd (fun _ => 0) (0 : Int32).toNatClampNeg 0) (1 : Int32).toNatClampNeg 1) (2 : Int32).toNatClampNeg 2) (3 : Int32).toNatClampNeg 3)), .inr (8, [.ref (h + 25), .ref (h + 26), .int 0, .int 0]), .inl (κ 0, 160, .inl (fun _ => 0)), .inl (κ 0, 4, .inl (fun _ => 0)), .inr (8, [.ref (h + 28), .ref (h + 29), .int 0, .int 0]), .inl (κ 0, 160, .inl (fun _ => 0)), .inl (κ 0, 4, .inl (fun _ => 0)), .inr (8, [.ref (h + 31), .ref (h + 32), .int 0, .int 0]), .inl (κ 0, 160, .inl (fun _ => 0)), .inl (κ 0, 4, .inl (fun _ => 0)), .inr (8, [.ref (h + 34), .ref (h + 35), .int 0, .int 0]), .inl (κ 0, 160, .inl (fun _ => 0)), .inl (κ 0, 4, .inl (fun _ => 0)), .inr (8, [.ref (h + 37), .ref (h + 38), .int 0, .int 0]), .inl (κ 0, 160, .inl (fun _ => 0)), .inl (κ 0, 4, .inl (fun _ => 0)), .inr (6, [.ref (h + 40), .int 0, .int 0, .int 0, .int 0, .int 0, .ref (h + 41), .int 0, .int 0]), .inl (κ 0, 160, .inl (fun _ => 0)), .inl (κ 0, 64, .inl (fun _ => 0)), .inr (9, [.ref (h + 1), .ref (h + 17), .ref (h + 43)]), .inl (κ 0, 8, .inl (fun _ => 0)), .inr (4, [.ref (h + 1), .ref (h + 42), .ref (h + 45), .ref (h + 46), .ref (h + 47), .int 0, .int 0, .int 0]), .inl (κ 0, 256, .inl (fun _ => 0)), .inl (κ 0, 2048, .inl (fun _ => 0)), .inl (κ 0, 2048, .inl (fun _ => 0)), .inr (7, [.ref (h + 1), .ref (h + 42), .ref (h + 49), .ref (h + 50), .int 0, .int 0, .int 0]), .inl (κ 0, 8, .inl (fun _ => 0)), .inl (κ 0, 8, .inl (fun _ => 0)), .inr (1, [.ref (h + 1), .ref (h + 42), .int 0, .int 0, .int 0]), .inl (κ 4, 4, .inr (.inr (.inr (.inr (va_up (va_up (va_up (va_up (fun _ => none) (0 : Int32).toNatClampNeg (some (h + 53))) (1 : Int32).toNatClampNeg (some (h + 55))) (2 : Int32).toNatClampNeg (some (h + 57))) (3 : Int32).toNatClampNeg (some (h + 59))))))), .inr (5, [.ref (h + 54), .int (-1), .int 0]), .inl (κ 0, 40, .inl (fun _ => 0)), .inr (5, [.ref (h + 56), .int (-1), .int 0]), .inl (κ 0, 40, .inl (fun _ => 0)), .inr (5, [.ref (h + 58), .int (-1), .int 0]), .inl (κ 0, 40, .inl (fun _ => 0)), .inr (5, [.ref (h + 60), .int (-1), .int 0]), .inl (κ 0, 40, .inl (fun _ => 0))]) := by
  refine Yc.mk 1 [.ref h, .null] rfl (by decide) (Nat.le_of_ble_eq_true rfl) ?_
  refine Yw_aload dX10_init_0 rfl rfl ?_
  refine Yw_obj dX10_init_1 y_ob_X10_1 y_obi y_obc (by decide) (show (0 : Nat) ≤ 8 by decide) ?_
  refine Yw_aload dX10_init_4 rfl rfl ?_
  refine Yw_new (ci := 2) (n := 1) (fs := y_bl2) rfl y_cl_X10_7 y_in2 y_ini2 y_fs2 (by decide) dX10_init_5 rfl ?_
  refine Yw_dup dX10_init_8 rfl ?_
  refine Yw_I (k := 2) (B1 := 7) (B2 := 52) (n1 := 1) _ _ [] [.ref (h + 1), .ref h] li_X10_9 dX10_init_9 (by decide) rfl rfl rfl rfl (show (2 : Nat) ≤ 8 by decide) (Yc.imp (fun r s1 hq => ?_) k_X2)
  obtain ⟨rfl, rfl⟩ := hq
  dsimp only [Option.toList, List.cons_append, List.nil_append]
  refine Yw_putF (q := 0) lq_X10_10 rfl dX10_init_12 rfl (Nat.lt_of_lt_of_eq (m := 10) (by decide) rfl) rfl rfl ?_
  dsimp only [List.cons_append, List.nil_append, List.set_cons_zero, List.set_cons_succ]
  refine Yw_aload dX10_init_15 rfl rfl ?_
  refine Yw_new (ci := 2) (n := 9) (fs := y_bl2) rfl y_cl_X10_7 y_in2 y_ini2 y_fs2 (by decide) dX10_init_16 rfl ?_
  refine Yw_dup dX10_init_19 rfl ?_
  refine Yw_I (k := 2) (B1 := 7) (B2 := 44) (n1 := 9) _ _ [] [.ref (h + 9), .ref h] li_X10_9 dX10_init_20 (by decide) rfl rfl rfl rfl (show (2 : Nat) ≤ 8 by decide) (Yc.imp (fun r s1 hq => ?_) k_X2)
  obtain ⟨rfl, rfl⟩ := hq
  dsimp only [Option.toList, List.cons_append, List.nil_append]
  refine Yw_putF (q := 0) lq_X10_16 rfl dX10_init_23 rfl (Nat.lt_of_lt_of_eq (m := 10) (by decide) rfl) rfl rfl ?_
  dsimp only [List.cons_append, List.nil_append, List.set_cons_zero, List.set_cons_succ]
  refine Yw_aload dX10_init_26 rfl rfl ?_
  refine Yw_new (ci := 0) (n := 17) (fs := y_bl0) rfl y_cl_X10_19 y_in0 y_ini0 y_fs0 (by decide) dX10_init_27 rfl ?_
  refine Yw_dup dX10_init_30 rfl ?_
  refine Yw_I (k := 3) (B1 := 21) (B2 := 22) (n1 := 17) _ _ [] [.ref (h + 17), .ref h] li_X10_21 dX10_init_31 (by decide) rfl rfl rfl rfl (show (2 : Nat) ≤ 8 by decide) (Yc.imp (fun r s1 hq => ?_) k_X0)
  obtain ⟨rfl, rfl⟩ := hq
  dsimp only [Option.toList, List.cons_append, List.nil_append]
  refine Yw_putF (q := 0) lq_X10_22 rfl dX10_init_34 rfl (Nat.lt_of_lt_of_eq (m := 10) (by decide) rfl) rfl rfl ?_
  dsimp only [List.cons_append, List.nil_append, List.set_cons_zero, List.set_cons_succ]
  refine Yw_aload dX10_init_37 rfl rfl ?_
  refine Yw_new (ci := 6) (n := 39) (fs := y_bl6) rfl y_cl_X10_26 y_in6 y_ini6 y_fs6 (by decide) dX10_init_38 rfl ?_
  refine Yw_dup dX10_init_41 rfl ?_
  refine Yw_IN (k := 1) (B1 := 2) (B2 := 19) (n1 := 39) _ _ [] [.ref (h + 39), .ref h] li_X10_28 dX10_init_42 (by decide) rfl rfl rfl rfl (show (2 : Nat) ≤ 8 by decide) (Yc.imp (fun r s1 hq => ?_) k_X6)
  obtain ⟨rfl, rfl⟩ := hq
  dsimp only [Option.toList, List.cons_append, List.nil_append]
  refine Yw_putF (q := 0) lq_X10_29 rfl dX10_init_45 rfl (Nat.lt_of_lt_of_eq (m := 10) (by decide) rfl) rfl rfl ?_
  dsimp only [List.cons_append, List.nil_append, List.set_cons_zero, List.set_cons_succ]
  refine Yw_aload dX10_init_48 rfl rfl ?_
  refine Yw_new (ci := 9) (n := 42) (fs := y_bl9) rfl y_cl_X10_33 y_in9 y_ini9 y_fs9 (by decide) dX10_init_49 rfl ?_
  refine Yw_dup dX10_init_52 rfl ?_
  refine Yw_aload dX10_init_53 rfl rfl ?_
  refine Yw_get (q := 0) lf_X10_10 dX10_init_54 rfl rfl ?_
  refine Yw_aload dX10_init_57 rfl rfl ?_
  refine Yw_get (q := 0) lf_X10_22 dX10_init_58 rfl rfl ?_
  refine Yw_I (k := 1) (B1 := 1) (B2 := 17) (n1 := 42) _ _ [.ref (h + 1), .ref (h + 17)] [.ref (h + 42), .ref h] li_X10_35 dX10_init_61 (by decide) rfl rfl rfl rfl (show (2 : Nat) ≤ 8 by decide) (Yc.imp (fun r s1 hq => ?_) k_X9)
  obtain ⟨rfl, rfl⟩ := hq
  dsimp only [Option.toList, List.cons_append, List.nil_append]
  refine Yw_putF (q := 0) lq_X10_38 rfl dX10_init_64 rfl (Nat.lt_of_lt_of_eq (m := 10) (by decide) rfl) rfl rfl ?_
  dsimp only [List.cons_append, List.nil_append, List.set_cons_zero, List.set_cons_succ]
  refine Yw_aload dX10_init_67 rfl rfl ?_
  refine Yw_new (ci := 4) (n := 44) (fs := y_bl4) rfl y_cl_X10_42 y_in4 y_ini4 y_fs4 (by decide) dX10_init_68 rfl ?_
  refine Yw_dup dX10_init_71 rfl ?_
  refine Yw_aload dX10_init_72 rfl rfl ?_
  refine Yw_get (q := 0) lf_X10_10 dX10_init_73 rfl rfl ?_
  refine Yw_aload dX10_init_76 rfl rfl ?_
  refine Yw_get (q := 0) lf_X10_38 dX10_init_77 rfl rfl ?_
  refine Yw_I (k := 1) (B1 := 3) (B2 := 13) (n1 := 44) _ _ [.ref (h + 1), .ref (h + 42)] [.ref (h + 44), .ref h] li_X10_44 dX10_init_80 (by decide) rfl rfl rfl rfl (show (2 : Nat) ≤ 8 by decide) (Yc.imp (fun r s1 hq => ?_) k_X4)
  obtain ⟨rfl, rfl⟩ := hq
  dsimp only [Option.toList, List.cons_append, List.nil_append]
  refine Yw_putF (q := 0) lq_X10_47 rfl dX10_init_83 rfl (Nat.lt_of_lt_of_eq (m := 10) (by decide) rfl) rfl rfl ?_
  dsimp only [List.cons_append, List.nil_append, List.set_cons_zero, List.set_cons_succ]
  refine Yw_aload dX10_init_86 rfl rfl ?_
  refine Yw_new (ci := 7) (n := 48) (fs := y_bl7) rfl y_cl_X10_51 y_in7 y_ini7 y_fs7 (by decide) dX10_init_87 rfl ?_
  refine Yw_dup dX10_init_90 rfl ?_
  refine Yw_aload dX10_init_91 rfl rfl ?_
  refine Yw_get (q := 0) lf_X10_10 dX10_init_92 rfl rfl ?_
  refine Yw_aload dX10_init_95 rfl rfl ?_
  refine Yw_get (q := 0) lf_X10_38 dX10_init_96 rfl rfl ?_
  refine Yw_I (k := 1) (B1 := 2) (B2 := 10) (n1 := 48) _ _ [.ref (h + 1), .ref (h + 42)] [.ref (h + 48), .ref h] li_X10_53 dX10_init_99 (by decide) rfl rfl rfl rfl (show (2 : Nat) ≤ 8 by decide) (Yc.imp (fun r s1 hq => ?_) k_X7)
  obtain ⟨rfl, rfl⟩ := hq
  dsimp only [Option.toList, List.cons_append, List.nil_append]
  refine Yw_putF (q := 0) lq_X10_54 rfl dX10_init_102 rfl (Nat.lt_of_lt_of_eq (m := 10) (by decide) rfl) rfl rfl ?_
  dsimp only [List.cons_append, List.nil_append, List.set_cons_zero, List.set_cons_succ]
  refine Yw_aload dX10_init_105 rfl rfl ?_
  refine Yw_new (ci := 1) (n := 51) (fs := y_bl1) rfl y_cl_X10_58 y_in1 y_ini1 y_fs1 (by decide) dX10_init_106 rfl ?_
  refine Yw_dup dX10_init_109 rfl ?_
  refine Yw_aload dX10_init_110 rfl rfl ?_
  refine Yw_get (q := 0) lf_X10_10 dX10_init_111 rfl rfl ?_
  refine Yw_aload dX10_init_114 rfl rfl ?_
  refine Yw_get (q := 0) lf_X10_38 dX10_init_115 rfl rfl ?_
  refine Yw_I (k := 1) (B1 := 0) (B2 := 9) (n1 := 51) _ _ [.ref (h + 1), .ref (h + 42)] [.ref (h + 51), .ref h] li_X10_60 dX10_init_118 (by decide) rfl rfl rfl rfl (show (2 : Nat) ≤ 8 by decide) (Yc.imp (fun r s1 hq => ?_) k_X1)
  obtain ⟨rfl, rfl⟩ := hq
  dsimp only [Option.toList, List.cons_append, List.nil_append]
  refine Yw_putF (q := 0) lq_X10_61 rfl dX10_init_121 rfl (Nat.lt_of_lt_of_eq (m := 10) (by decide) rfl) rfl rfl ?_
  dsimp only [List.cons_append, List.nil_append, List.set_cons_zero, List.set_cons_succ]
  refine Yw_aload dX10_init_124 rfl rfl ?_
  refine Yw_iconst (v := 4) dX10_init_125 (by decide) ?_
  refine Yw_newq (n := 52) (N := 4) (t := 4) dX10_init_126 y_cl_X10_65 rfl (fun U hU => hU.2.2.2) (by decide) (by decide) (by decide) rfl ?_
  dsimp only [List.cons_append, List.nil_append, List.set_cons_zero, List.set_cons_succ]
  refine Yw_putF (q := 0) lq_X10_67 rfl dX10_init_129 rfl (Nat.lt_of_lt_of_eq (m := 10) (by decide) rfl) rfl rfl ?_
  dsimp only [List.cons_append, List.nil_append, List.set_cons_zero, List.set_cons_succ]
  refine Yw_iconst (v := 0) dX10_init_132 (by decide) ?_
  refine Yw_istore (L' := [.ref h, .int 0]) dX10_init_133 rfl (by decide) (fun w _ hw => by cases hw; exact (by decide : (1 : Nat) ≠ 2)) rfl ?_
  refine Yw_iload dX10_init_134 rfl rfl ?_
  refine Yw_iconst (v := 4) dX10_init_135 (by decide) ?_
  refine Yw_icmp_ge_f 158 dX10_init_136 (by decide) (by decide) ?_
  refine Yw_aload dX10_init_139 rfl rfl ?_
  refine Yw_get (q := 0) lf_X10_67 dX10_init_140 rfl rfl ?_
  refine Yw_iload dX10_init_143 rfl rfl ?_
  refine Yw_new (ci := 5) (n := 53) (fs := y_bl5) rfl y_cl_X10_65 y_in5 y_ini5 y_fs5 (by decide) dX10_init_144 rfl ?_
  refine Yw_dup dX10_init_147 rfl ?_
  refine Yw_IN (k := 1) (B1 := 1) (B2 := 6) (n1 := 53) _ _ [] [.ref (h + 53), .int 0, .ref (h + 52)] li_X10_71 dX10_init_148 (by decide) rfl rfl rfl rfl (show (3 : Nat) ≤ 8 by decide) (Yc.imp (fun r s1 hq => ?_) k_X5)
  obtain ⟨rfl, rfl⟩ := hq
  dsimp only [Option.toList, List.cons_append, List.nil_append]
  refine Yw_aast (q := 52) (qk := 53) (t := 4) (ci := 5) dX10_init_151 rfl rfl rfl rfl (by unfold vp_in; decide) ?_
  dsimp only [List.cons_append, List.nil_append, List.set_cons_zero, List.set_cons_succ]
  refine Yw_iinc (z := 1) (L' := [.ref h, .int 1]) dX10_init_152 rfl (by decide) (by decide) (fun w _ hw => by cases hw; exact (by decide : (1 : Nat) ≠ 2)) rfl ?_
  refine Yw_goto 134 dX10_init_155 (by decide) ?_
  refine Yw_iload dX10_init_134 rfl rfl ?_
  refine Yw_iconst (v := 4) dX10_init_135 (by decide) ?_
  refine Yw_icmp_ge_f 158 dX10_init_136 (by decide) (by decide) ?_
  refine Yw_aload dX10_init_139 rfl rfl ?_
  refine Yw_get (q := 0) lf_X10_67 dX10_init_140 rfl rfl ?_
  refine Yw_iload dX10_init_143 rfl rfl ?_
  refine Yw_new (ci := 5) (n := 55) (fs := y_bl5) rfl y_cl_X10_65 y_in5 y_ini5 y_fs5 (by decide) dX10_init_144 rfl ?_
  refine Yw_dup dX10_init_147 rfl ?_
  refine Yw_IN (k := 1) (B1 := 1) (B2 := 4) (n1 := 55) _ _ [] [.ref (h + 55), .int 1, .ref (h + 52)] li_X10_71 dX10_init_148 (by decide) rfl rfl rfl rfl (show (3 : Nat) ≤ 8 by decide) (Yc.imp (fun r s1 hq => ?_) k_X5)
  obtain ⟨rfl, rfl⟩ := hq
  dsimp only [Option.toList, List.cons_append, List.nil_append]
  refine Yw_aast (q := 52) (qk := 55) (t := 4) (ci := 5) dX10_init_151 rfl rfl rfl rfl (by unfold vp_in; decide) ?_
  dsimp only [List.cons_append, List.nil_append, List.set_cons_zero, List.set_cons_succ]
  refine Yw_iinc (z := 2) (L' := [.ref h, .int 2]) dX10_init_152 rfl (by decide) (by decide) (fun w _ hw => by cases hw; exact (by decide : (1 : Nat) ≠ 2)) rfl ?_
  refine Yw_goto 134 dX10_init_155 (by decide) ?_
  refine Yw_iload dX10_init_134 rfl rfl ?_
  refine Yw_iconst (v := 4) dX10_init_135 (by decide) ?_
  refine Yw_icmp_ge_f 158 dX10_init_136 (by decide) (by decide) ?_
  refine Yw_aload dX10_init_139 rfl rfl ?_
  refine Yw_get (q := 0) lf_X10_67 dX10_init_140 rfl rfl ?_
  refine Yw_iload dX10_init_143 rfl rfl ?_
  refine Yw_new (ci := 5) (n := 57) (fs := y_bl5) rfl y_cl_X10_65 y_in5 y_ini5 y_fs5 (by decide) dX10_init_144 rfl ?_
  refine Yw_dup dX10_init_147 rfl ?_
  refine Yw_IN (k := 1) (B1 := 1) (B2 := 2) (n1 := 57) _ _ [] [.ref (h + 57), .int 2, .ref (h + 52)] li_X10_71 dX10_init_148 (by decide) rfl rfl rfl rfl (show (3 : Nat) ≤ 8 by decide) (Yc.imp (fun r s1 hq => ?_) k_X5)
  obtain ⟨rfl, rfl⟩ := hq
  dsimp only [Option.toList, List.cons_append, List.nil_append]
  refine Yw_aast (q := 52) (qk := 57) (t := 4) (ci := 5) dX10_init_151 rfl rfl rfl rfl (by unfold vp_in; decide) ?_
  dsimp only [List.cons_append, List.nil_append, List.set_cons_zero, List.set_cons_succ]
  refine Yw_iinc (z := 3) (L' := [.ref h, .int 3]) dX10_init_152 rfl (by decide) (by decide) (fun w _ hw => by cases hw; exact (by decide : (1 : Nat) ≠ 2)) rfl ?_
  refine Yw_goto 134 dX10_init_155 (by decide) ?_
  refine Yw_iload dX10_init_134 rfl rfl ?_
  refine Yw_iconst (v := 4) dX10_init_135 (by decide) ?_
  refine Yw_icmp_ge_f 158 dX10_init_136 (by decide) (by decide) ?_
  refine Yw_aload dX10_init_139 rfl rfl ?_
  refine Yw_get (q := 0) lf_X10_67 dX10_init_140 rfl rfl ?_
  refine Yw_iload dX10_init_143 rfl rfl ?_
  refine Yw_new (ci := 5) (n := 59) (fs := y_bl5) rfl y_cl_X10_65 y_in5 y_ini5 y_fs5 (by decide) dX10_init_144 rfl ?_
  refine Yw_dup dX10_init_147 rfl ?_
  refine Yw_IN (k := 1) (B1 := 1) (B2 := 0) (n1 := 59) _ _ [] [.ref (h + 59), .int 3, .ref (h + 52)] li_X10_71 dX10_init_148 (by decide) rfl rfl rfl rfl (show (3 : Nat) ≤ 8 by decide) (Yc.imp (fun r s1 hq => ?_) k_X5)
  obtain ⟨rfl, rfl⟩ := hq
  dsimp only [Option.toList, List.cons_append, List.nil_append]
  refine Yw_aast (q := 52) (qk := 59) (t := 4) (ci := 5) dX10_init_151 rfl rfl rfl rfl (by unfold vp_in; decide) ?_
  dsimp only [List.cons_append, List.nil_append, List.set_cons_zero, List.set_cons_succ]
  refine Yw_iinc (z := 4) (L' := [.ref h, .int 4]) dX10_init_152 rfl (by decide) (by decide) (fun w _ hw => by cases hw; exact (by decide : (1 : Nat) ≠ 2)) rfl ?_
  refine Yw_goto 134 dX10_init_155 (by decide) ?_
  refine Yw_iload dX10_init_134 rfl rfl ?_
  refine Yw_iconst (v := 4) dX10_init_135 (by decide) ?_
  refine Yw_icmp_ge_t 158 dX10_init_136 (by decide) (by decide) ?_
  exact Yw_ret dX10_init_158 rfl ⟨rfl, rfl⟩
