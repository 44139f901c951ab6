def yEs (h nL stop : Nat) (L st : List Value) (suf : List va_E) : yEt := fun p l e R s m args below meth c D K ce sl => ∀ (H : Heap) (locs : List Loc) (ls : Array Slot), yHp s D h suf H locs → zLs id ls nL L → W p l e R s m args below meth c H locs ce sl K (F0 m stop ls st)
theorem Yw_stop {d : Nat} {y : MethodName} {cc : ByteArray} {nL : Nat} {rt : Option FieldType} {κ : Nat → ClassId} {h pc : Nat} {L st : List Value} {suf : List va_E} : Yw d y cc nL rt κ h (yEs h nL pc L st suf) 0 pc L st suf := by
  intro p l e R s m args below meth c D K cells slots H locs ls hC hH hL hB hE
  exact hE H locs ls hH hL
def yDl (κ : Nat → ClassId) (h : Nat) : List va_E := [.inr (10, [.ref (h + 1), .ref (h + 9), .ref (h + 17), .ref (h + 39), .ref (h + 42), .ref (h + 44), .ref (h + 48), .ref (h + 51), .ref (h + 52), .int 0]),
  .inr (2, [.ref (h + 2), .ref (h + 3), .int 0, .int 0, .int 0, .int 0, .int 255, .int 0]),
  .inl (κ 0, 8, .inl (fun _ => 0)),
  .inl (κ 2, 5, .inr (.inr (.inr (.inr (va_up (va_up (va_up (va_up (va_up (fun _ => none) (0 : Int32).toNatClampNeg (some (h + 4))) (1 : Int32).toNatClampNeg (some (h + 5))) (2 : Int32).toNatClampNeg (some (h + 6))) (3 : Int32).toNatClampNeg (some (h + 7))) (4 : Int32).toNatClampNeg (some (h + 8))))))),
  .inr (3, [.int 0, .int 0, .int 0, .int 0]),
  .inr (3, [.int 0, .int 0, .int 0, .int 0]),
  .inr (3, [.int 0, .int 0, .int 0, .int 0]),
  .inr (3, [.int 0, .int 0, .int 0, .int 0]),
  .inr (3, [.int 0, .int 0, .int 0, .int 0]),
  .inr (2, [.ref (h + 10), .ref (h + 11), .int 0, .int 0, .int 0, .int 0, .int 255, .int 0]),
  .inl (κ 0, 8, .inl (fun _ => 0)),
  .inl (κ 2, 5, .inr (.inr (.inr (.inr (va_up (va_up (va_up (va_up (va_up (fun _ => none) (0 : Int32).toNatClampNeg (some (h + 12))) (1 : Int32).toNatClampNeg (some (h + 13))) (2 : Int32).toNatClampNeg (some (h + 14))) (3 : Int32).toNatClampNeg (some (h + 15))) (4 : Int32).toNatClampNeg (some (h + 16))))))),
  .inr (3, [.int 0, .int 0, .int 0, .int 0]),
  .inr (3, [.int 0, .int 0, .int 0, .int 0]),
  .inr (3, [.int 0, .int 0, .int 0, .int 0]),
  .inr (3, [.int 0, .int 0, .int 0, .int 0]),
  .inr (3, [.int 0, .int 0, .int 0, .int 0]),
  .inr (0, [.ref (h + 18), .ref (h + 19), .ref (h + 20), .int 1]),
  .inl (κ 3, 6, .inr (.inr (.inr (.inr (va_up (va_up (va_up (va_up (va_up (va_up (fun _ => none) (0 : Int32).toNatClampNeg (some (h + 21))) (1 : Int32).toNatClampNeg (some (h + 24))) (2 : Int32).toNatClampNeg (some (h + 27))) (3 : Int32).toNatClampNeg (some (h + 30))) (4 : Int32).toNatClampNeg (some (h + 33))) (5 : Int32).toNatClampNeg (some (h + 36))))))),
  .inl (κ 0, 6, .inl (fun _ => 0)),
  .inl (κ 0, 64, .inl (fun _ => 0)),
  .inr (8, [.ref (h + 22), .ref (h + 23), .int 3, .int 0]),
  .inl (κ 0, 160, .inl (upd (upd (upd (fun _ => 0) (0 : Int32).toNatClampNeg 1) (1 : Int32).toNatClampNeg 0) (2 : Int32).toNatClampNeg 1)),
  .inl (κ 0, 4, .inl (upd (upd (upd (upd (fun _ => 0) (0 : Int32).toNatClampNeg 0) (1 : Int32).toNatClampNeg 1) (2 : Int32).toNatClampNeg 2) (3 : Int32).toNatClampNeg 3)),
  .inr (8, [.ref (h + 25), .ref (h + 26), .int 0, .int 0]),
  .inl (κ 0, 160, .inl (fun _ => 0)),
  .inl (κ 0, 4, .inl (fun _ => 0)),
  .inr (8, [.ref (h + 28), .ref (h + 29), .int 0, .int 0]),
  .inl (κ 0, 160, .inl (fun _ => 0)),
  .inl (κ 0, 4, .inl (fun _ => 0)),
  .inr (8, [.ref (h + 31), .ref (h + 32), .int 0, .int 0]),
  .inl (κ 0, 160, .inl (fun _ => 0)),
  .inl (κ 0, 4, .inl (fun _ => 0)),
  .inr (8, [.ref (h + 34), .ref (h + 35), .int 0, .int 0]),
  .inl (κ 0, 160, .inl (fun _ => 0)),
  .inl (κ 0, 4, .inl (fun _ => 0)),
  .inr (8, [.ref (h + 37), .ref (h + 38), .int 0, .int 0]),
  .inl (κ 0, 160, .inl (fun _ => 0)),
  .inl (κ 0, 4, .inl (fun _ => 0)),
  .inr (6, [.ref (h + 40), .int 0, .int 0, .int 0, .int 0, .int 0, .ref (h + 41), .int 0, .int 0]),
  .inl (κ 0, 160, .inl (fun _ => 0)),
  .inl (κ 0, 64, .inl (fun _ => 0)),
  .inr (9, [.ref (h + 1), .ref (h + 17), .ref (h + 43)]),
  .inl (κ 0, 8, .inl (fun _ => 0)),
  .inr (4, [.ref (h + 1), .ref (h + 42), .ref (h + 45), .ref (h + 46), .ref (h + 47), .int 0, .int 0, .int 0]),
  .inl (κ 0, 256, .inl (fun _ => 0)),
  .inl (κ 0, 2048, .inl (fun _ => 0)),
  .inl (κ 0, 2048, .inl (fun _ => 0)),
  .inr (7, [.ref (h + 1), .ref (h + 42), .ref (h + 49), .ref (h + 50), .int 0, .int 0, .int 0]),
  .inl (κ 0, 8, .inl (fun _ => 0)),
  .inl (κ 0, 8, .inl (fun _ => 0)),
  .inr (1, [.ref (h + 1), .ref (h + 42), .int 0, .int 0, .int 0]),
  .inl (κ 4, 4, .inr (.inr (.inr (.inr (va_up (va_up (va_up (va_up (fun _ => none) (0 : Int32).toNatClampNeg (some (h + 53))) (1 : Int32).toNatClampNeg (some (h + 55))) (2 : Int32).toNatClampNeg (some (h + 57))) (3 : Int32).toNatClampNeg (some (h + 59))))))),
  .inr (5, [.ref (h + 54), .int (-1), .int 0]),
  .inl (κ 0, 40, .inl (fun _ => 0)),
  .inr (5, [.ref (h + 56), .int (-1), .int 0]),
  .inl (κ 0, 40, .inl (fun _ => 0)),
  .inr (5, [.ref (h + 58), .int (-1), .int 0]),
  .inl (κ 0, 40, .inl (fun _ => 0)),
  .inr (5, [.ref (h + 60), .int (-1), .int 0]),
  .inl (κ 0, 40, .inl (fun _ => 0))]
def yMl (κ : Nat → ClassId) (h : Nat) : List va_E := [.inr (11, [.int 0, .ref (h + 1), .ref (h + 2), .int 1, .int 0, .ref (h + 3), .int 0, .ref (h + 4), .ref (h + 5), .ref (h + 6), .ref (h + 7), .int 0, .int 0, .int 0, .int 0, .int 0, .int 0, .int 0, .int 0, .int 0, .int 0, .int 0, .int 0, .long 0, .int 0, .int 0, .int 0, .ref (h + 8), .ref (h + 9), .int 0, .int 0, .ref (h + 10), .ref (h + 11), .ref (h + 12), .int (-1), .int 0, .ref (h + 13), .ref (h + 14), .ref (h + 15), .ref (h + 16)]),
  .inl (κ 0, 960, .inl (upd (upd (upd (upd (upd (upd (upd (upd (upd (upd (upd (upd (upd (upd (upd (upd (upd (upd (upd (upd (upd (upd (upd (upd (upd (upd (upd (upd (upd (upd (upd (upd (fun _ => 0) (0 : Int32).toNatClampNeg 103) (0 + 1 : Int32).toNatClampNeg 111) (0 + 2 : Int32).toNatClampNeg 101) (0 + 3 : Int32).toNatClampNeg 115) (0 + 4 : Int32).toNatClampNeg 32) (0 + 5 : Int32).toNatClampNeg 49) (0 + 6 : Int32).toNatClampNeg 32) (0 + 7 : Int32).toNatClampNeg 59) (8 : Int32).toNatClampNeg 32) (8 + 1 : Int32).toNatClampNeg 115) (8 + 2 : Int32).toNatClampNeg 116) (8 + 3 : Int32).toNatClampNeg 97) (8 + 4 : Int32).toNatClampNeg 121) (8 + 5 : Int32).toNatClampNeg 115) (8 + 6 : Int32).toNatClampNeg 32) (8 + 7 : Int32).toNatClampNeg 48) (16 : Int32).toNatClampNeg 32) (16 + 1 : Int32).toNatClampNeg 59) (16 + 2 : Int32).toNatClampNeg 32) (16 + 3 : Int32).toNatClampNeg 115) (16 + 4 : Int32).toNatClampNeg 101) (16 + 5 : Int32).toNatClampNeg 101) (16 + 6 : Int32).toNatClampNeg 115) (16 + 7 : Int32).toNatClampNeg 32) (24 : Int32).toNatClampNeg 49) (24 + 1 : Int32).toNatClampNeg 32) (24 + 2 : Int32).toNatClampNeg 59) (24 + 3 : Int32).toNatClampNeg 32) (24 + 4 : Int32).toNatClampNeg 32) (24 + 5 : Int32).toNatClampNeg 32) (24 + 6 : Int32).toNatClampNeg 32) (24 + 7 : Int32).toNatClampNeg 32)),
  .inl (κ 0, 6, .inl (upd (fun _ => 0) (0 : Int32).toNatClampNeg 32)),
  .inl (κ 0, 160, .inl (fun _ => 0)),
  .inl (κ 0, 4, .inl (upd (fun _ => 0) (3 : Int32).toNatClampNeg 255)),
  .inl (κ 0, 8, .inl (fun _ => 0)),
  .inl (κ 0, 5, .inl (fun _ => 0)),
  .inl (κ 0, 15, .inl (fun _ => 0)),
  .inl (κ 0, 256, .inl (fun _ => 0)),
  .inl (κ 0, 2048, .inl (fun _ => 0)),
  .inl (κ 0, 4, .inl (fun _ => 0)),
  .inl (κ 0, 8, .inl (fun _ => 0)),
  .inl (κ 0, 15, .inl (fun _ => 0)),
  .inl (κ 1, 4, .inl (fun _ => 0)),
  .inl (κ 0, 4, .inl (fun _ => 0)),
  .inl (κ 0, 4, .inl (fun _ => 0)),
  .inl (κ 0, 160, .inl (fun _ => 0))]
theorem y_cl_L_7 : Cond.classLink RL 7 RX10 ∈ zT := zT_mem 109 (by decide +kernel) (by decide +kernel)
theorem y_cl_L_10 : Cond.classLink RL 10 RX11 ∈ zT := zT_mem 977 (by decide +kernel) (by decide +kernel)
theorem li_L_9 : yCI RL 9 yX10_init cX10_init 2 0 := ⟨zT_mem 111 (by decide +kernel) (by decide +kernel), zT_mem 112 (by decide +kernel) (by decide +kernel), rfl, y_ini10, zT_mem 113 (by decide +kernel) (by decide +kernel), by decide +kernel, by decide⟩
theorem li_L_12 : yCI RL 12 yX11_init cX11_init 1 0 := ⟨zT_mem 979 (by decide +kernel) (by decide +kernel), zT_mem 980 (by decide +kernel) (by decide +kernel), rfl, y_ini11, zT_mem 981 (by decide +kernel) (by decide +kernel), by decide +kernel, by decide⟩
set_option maxRecDepth 20000 in
theorem y_law {κ : Nat → ClassId} {h b : Nat} : Yw 49 yL_law cL_law 4 (some .boolean) κ h (yEs h 4 18 [.ref b, .ref h, .ref (h + 61), .int 0] [] (yDl κ h ++ yMl κ (h + 61))) 78 0 [.ref b, .null, .null, .null] [] [] := by
  refine Yw_new (ci := 10) (n := 0) (fs := y_bl10) rfl y_cl_L_7 y_in10 y_ini10 y_fs10 (by decide) dL_law_0 rfl ?_
  refine Yw_dup dL_law_3 rfl ?_
  refine Yw_I (k := 4) (B1 := 60) (B2 := 17) (n1 := 0) _ _ [] [.ref h] li_L_9 dL_law_4 (by decide) rfl rfl rfl rfl (show (1 : Nat) ≤ 8 by decide) (Yc.imp (fun r s1 hq => ?_) k_X10)
  obtain ⟨rfl, rfl⟩ := hq
  dsimp only [Option.toList, List.nil_append]
  refine Yw_astore (L' := [.ref b, .ref h, .null, .null]) dL_law_7 rfl (by decide) (fun w _ hw => by cases hw; exact (by decide : (1 : Nat) ≠ 2)) rfl ?_
  refine Yw_new (ci := 11) (n := 61) (fs := y_bl11) rfl y_cl_L_10 y_in11 y_ini11 y_fs11 (by decide) dL_law_8 rfl ?_
  refine Yw_dup dL_law_11 rfl ?_
  refine Yw_I (k := 1) (B1 := 16) (B2 := 0) (n1 := 61) _ _ [] [.ref (h + 61)] li_L_12 dL_law_12 (by decide) rfl rfl rfl rfl (show (1 : Nat) ≤ 8 by decide) (Yc.imp (fun r s1 hq => ?_) k_X11)
  obtain ⟨rfl, rfl⟩ := hq
  dsimp only [Option.toList, List.nil_append]
  refine Yw_astore (L' := [.ref b, .ref h, .ref (h + 61), .null]) dL_law_15 rfl (by decide) (fun w _ hw => by cases hw; exact (by decide : (1 : Nat) ≠ 2)) rfl ?_
  refine Yw_iconst (v := 0) dL_law_16 (by decide) ?_
  refine Yw_istore (L' := [.ref b, .ref h, .ref (h + 61), .int 0]) dL_law_17 rfl (by decide) (fun w _ hw => by cases hw; exact (by decide : (1 : Nat) ≠ 2)) rfl ?_
  exact Yw_stop
def yμ (n : Nat) (xs : Nat → Int32) : zMu := fun k => match k with
  | 1 => fun j => match j with
    | 6 => 255
    | _ => 0
  | 9 => fun j => match j with
    | 6 => 255
    | _ => 0
  | 17 => fun j => match j with
    | 3 => 1
    | _ => 0
  | 21 => fun j => match j with
    | 2 => 3
    | _ => 0
  | 22 => (upd (upd (upd (fun _ => 0) (0 : Int32).toNatClampNeg 1) (1 : Int32).toNatClampNeg 0) (2 : Int32).toNatClampNeg 1)
  | 23 => (upd (upd (upd (upd (fun _ => 0) (0 : Int32).toNatClampNeg 0) (1 : Int32).toNatClampNeg 1) (2 : Int32).toNatClampNeg 2) (3 : Int32).toNatClampNeg 3)
  | 48 => fun j => match j with
    | 2 => nI 49
    | 3 => nI 50
    | _ => 0
  | 53 => fun j => match j with
    | 1 => (-1)
    | _ => 0
  | 55 => fun j => match j with
    | 1 => (-1)
    | _ => 0
  | 57 => fun j => match j with
    | 1 => (-1)
    | _ => 0
  | 59 => fun j => match j with
    | 1 => (-1)
    | _ => 0
  | 61 => fun j => match j with
    | 3 => 1
    | 34 => (-1)
    | _ => 0
  | 62 => (upd (upd (upd (upd (upd (upd (upd (upd (upd (upd (upd (upd (upd (upd (upd (upd (upd (upd (upd (upd (upd (upd (upd (upd (upd (upd (upd (upd (upd (upd (upd (upd (fun _ => 0) (0 : Int32).toNatClampNeg 103) (0 + 1 : Int32).toNatClampNeg 111) (0 + 2 : Int32).toNatClampNeg 101) (0 + 3 : Int32).toNatClampNeg 115) (0 + 4 : Int32).toNatClampNeg 32) (0 + 5 : Int32).toNatClampNeg 49) (0 + 6 : Int32).toNatClampNeg 32) (0 + 7 : Int32).toNatClampNeg 59) (8 : Int32).toNatClampNeg 32) (8 + 1 : Int32).toNatClampNeg 115) (8 + 2 : Int32).toNatClampNeg 116) (8 + 3 : Int32).toNatClampNeg 97) (8 + 4 : Int32).toNatClampNeg 121) (8 + 5 : Int32).toNatClampNeg 115) (8 + 6 : Int32).toNatClampNeg 32) (8 + 7 : Int32).toNatClampNeg 48) (16 : Int32).toNatClampNeg 32) (16 + 1 : Int32).toNatClampNeg 59) (16 + 2 : Int32).toNatClampNeg 32) (16 + 3 : Int32).toNatClampNeg 115) (16 + 4 : Int32).toNatClampNeg 101) (16 + 5 : Int32).toNatClampNeg 101) (16 + 6 : Int32).toNatClampNeg 115) (16 + 7 : Int32).toNatClampNeg 32) (24 : Int32).toNatClampNeg 49) (24 + 1 : Int32).toNatClampNeg 32) (24 + 2 : Int32).toNatClampNeg 59) (24 + 3 : Int32).toNatClampNeg 32) (24 + 4 : Int32).toNatClampNeg 32) (24 + 5 : Int32).toNatClampNeg 32) (24 + 6 : Int32).toNatClampNeg 32) (24 + 7 : Int32).toNatClampNeg 32)
  | 63 => (upd (fun _ => 0) (0 : Int32).toNatClampNeg 32)
  | 65 => (upd (fun _ => 0) (3 : Int32).toNatClampNeg 255)
  | 90 => xs
  | 91 => fun _ => nI n
  | _ => fun _ => 0
def yTx (k : Nat) : Nat := if k = 74 then 1 else if k = 3 ∨ k = 11 then 2 else if k = 18 then 3 else if k = 52 then 4 else 0
def yTy : Nat → FieldType
  | 0 => .int
  | 1 => .boolean
  | 2 => .object RX3
  | 3 => .object RX8
  | _ => .object RX5
theorem yTx_ok : ∀ k, k < 78 → yTx k < 5 ∧ zAt (zSh k) = yTy (yTx k) := by decide +kernel
theorem yKs_at (κ : Nat → ClassId) : ∀ t, t < 5 → (yKs κ)[t]? = some (κ t, yTy t)
  | 0, _ => rfl
  | 1, _ => rfl
  | 2, _ => rfl
  | 3, _ => rfl
  | 4, _ => rfl
  | t + 5, h => absurd h (by omega)
theorem yK_full {D : va_G} {κ : Nat → ClassId} {s : State} (h : va_K D vwCl (yKs κ) s) : va_K D vwCl (zTs (fun k => κ (yTx k))) s := by
  refine ⟨h.1, fun k q hk => ?_⟩
  have hk78 : k < 78 := by
    rcases Nat.lt_or_ge k 78 with h1 | h1
    · exact h1
    · rw [List.getElem?_eq_none (by simpa [zTs] using h1)] at hk; cases hk
  rw [zTs_get hk78] at hk
  cases hk
  obtain ⟨a1, a2⟩ := yTx_ok k hk78
  have h2 := h.2 (yTx k) _ (yKs_at κ _ a1)
  show ArrOfT s (κ (yTx k)) (zAt (zSh k)) ∧ va_RA s (κ (yTx k)) (zAt (zSh k))
  rw [a2]
  exact h2
