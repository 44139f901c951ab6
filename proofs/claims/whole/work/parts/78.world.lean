def yAd (sz : Nat) (g : Nat → Nat) : Nat → Nat := fun k => if k < 78 then sz + k else g k
theorem yAd_lt {sz : Nat} {g : Nat → Nat} {k : Nat} (h : k < 78) : yAd sz g k = sz + k := if_pos h
theorem yAd_ge {sz : Nat} {g : Nat → Nat} {k : Nat} (h : 78 ≤ k) : yAd sz g k = g k := if_neg (by omega)
theorem yAd_Dj {sz : Nat} {g : Nat → Nat} : zDj (yAd sz g) := fun i j hi hj e => by
  rw [yAd_lt hi, yAd_lt hj] at e
  omega
theorem yAd_A {sz : Nat} {g : Nat → Nat} (q : Nat) (h : zA (yAd sz g) q) : sz ≤ q := by
  obtain ⟨k, hk, e⟩ := h
  rw [yAd_lt hk] at e
  omega
theorem i32c : (0 : Int32).toNatClampNeg = 0 ∧ (1 : Int32).toNatClampNeg = 1 ∧ (2 : Int32).toNatClampNeg = 2 ∧ (3 : Int32).toNatClampNeg = 3 ∧ (4 : Int32).toNatClampNeg = 4 ∧ (5 : Int32).toNatClampNeg = 5 := by decide +kernel
theorem y_q3 {sz : Nat} {g : Nat → Nat} : ((va_up (va_up (va_up (va_up (va_up (fun _ => none) (0 : Int32).toNatClampNeg (some (sz + 4))) (1 : Int32).toNatClampNeg (some (sz + 5))) (2 : Int32).toNatClampNeg (some (sz + 6))) (3 : Int32).toNatClampNeg (some (sz + 7))) (4 : Int32).toNatClampNeg (some (sz + 8))) : Nat → Option Nat) = fun j => (([4, 5, 6, 7, 8] : List Nat)[j]?).map (yAd sz g) := by
  obtain ⟨e0, e1, e2, e3, e4, e5⟩ := i32c
  rw [e0, e1, e2, e3, e4]
  funext j
  match j with
  | 0 => rfl
  | 1 => rfl
  | 2 => rfl
  | 3 => rfl
  | 4 => rfl
  | j + 5 =>
    have hn : (([4, 5, 6, 7, 8] : List Nat)[j + 5]?).map (yAd sz g) = none := rfl
    rw [hn]
    simp only [va_up]
    rw [if_neg (by omega)]
    rw [if_neg (by omega)]
    rw [if_neg (by omega)]
    rw [if_neg (by omega)]
    rw [if_neg (by omega)]
theorem y_q11 {sz : Nat} {g : Nat → Nat} : ((va_up (va_up (va_up (va_up (va_up (fun _ => none) (0 : Int32).toNatClampNeg (some (sz + 12))) (1 : Int32).toNatClampNeg (some (sz + 13))) (2 : Int32).toNatClampNeg (some (sz + 14))) (3 : Int32).toNatClampNeg (some (sz + 15))) (4 : Int32).toNatClampNeg (some (sz + 16))) : Nat → Option Nat) = fun j => (([12, 13, 14, 15, 16] : List Nat)[j]?).map (yAd sz g) := by
  obtain ⟨e0, e1, e2, e3, e4, e5⟩ := i32c
  rw [e0, e1, e2, e3, e4]
  funext j
  match j with
  | 0 => rfl
  | 1 => rfl
  | 2 => rfl
  | 3 => rfl
  | 4 => rfl
  | j + 5 =>
    have hn : (([12, 13, 14, 15, 16] : List Nat)[j + 5]?).map (yAd sz g) = none := rfl
    rw [hn]
    simp only [va_up]
    rw [if_neg (by omega)]
    rw [if_neg (by omega)]
    rw [if_neg (by omega)]
    rw [if_neg (by omega)]
    rw [if_neg (by omega)]
theorem y_q18 {sz : Nat} {g : Nat → Nat} : ((va_up (va_up (va_up (va_up (va_up (va_up (fun _ => none) (0 : Int32).toNatClampNeg (some (sz + 21))) (1 : Int32).toNatClampNeg (some (sz + 24))) (2 : Int32).toNatClampNeg (some (sz + 27))) (3 : Int32).toNatClampNeg (some (sz + 30))) (4 : Int32).toNatClampNeg (some (sz + 33))) (5 : Int32).toNatClampNeg (some (sz + 36))) : Nat → Option Nat) = fun j => (([21, 24, 27, 30, 33, 36] : List Nat)[j]?).map (yAd sz g) := by
  obtain ⟨e0, e1, e2, e3, e4, e5⟩ := i32c
  rw [e0, e1, e2, e3, e4, e5]
  funext j
  match j with
  | 0 => rfl
  | 1 => rfl
  | 2 => rfl
  | 3 => rfl
  | 4 => rfl
  | 5 => rfl
  | j + 6 =>
    have hn : (([21, 24, 27, 30, 33, 36] : List Nat)[j + 6]?).map (yAd sz g) = none := rfl
    rw [hn]
    simp only [va_up]
    rw [if_neg (by omega)]
    rw [if_neg (by omega)]
    rw [if_neg (by omega)]
    rw [if_neg (by omega)]
    rw [if_neg (by omega)]
    rw [if_neg (by omega)]
theorem y_q52 {sz : Nat} {g : Nat → Nat} : ((va_up (va_up (va_up (va_up (fun _ => none) (0 : Int32).toNatClampNeg (some (sz + 53))) (1 : Int32).toNatClampNeg (some (sz + 55))) (2 : Int32).toNatClampNeg (some (sz + 57))) (3 : Int32).toNatClampNeg (some (sz + 59))) : Nat → Option Nat) = fun j => (([53, 55, 57, 59] : List Nat)[j]?).map (yAd sz g) := by
  obtain ⟨e0, e1, e2, e3, e4, e5⟩ := i32c
  rw [e0, e1, e2, e3]
  funext j
  match j with
  | 0 => rfl
  | 1 => rfl
  | 2 => rfl
  | 3 => rfl
  | j + 4 =>
    have hn : (([53, 55, 57, 59] : List Nat)[j + 4]?).map (yAd sz g) = none := rfl
    rw [hn]
    simp only [va_up]
    rw [if_neg (by omega)]
    rw [if_neg (by omega)]
    rw [if_neg (by omega)]
    rw [if_neg (by omega)]
theorem y_p61 {sz n : Nat} {g : Nat → Nat} {xs : Nat → Int32} : ([.int 0, .ref (sz + 61 + 1), .ref (sz + 61 + 2), .int 1, .int 0, .ref (sz + 61 + 3), .int 0, .ref (sz + 61 + 4), .ref (sz + 61 + 5), .ref (sz + 61 + 6), .ref (sz + 61 + 7), .int 0, .int 0, .int 0, .int 0, .int 0, .int 0, .int 0, .int 0, .int 0, .int 0, .int 0, .int 0, .long 0, .int 0, .int 0, .int 0, .ref (sz + 61 + 8), .ref (sz + 61 + 9), .int 0, .int 0, .ref (sz + 61 + 10), .ref (sz + 61 + 11), .ref (sz + 61 + 12), .int (-1), .int 0, .ref (sz + 61 + 13), .ref (sz + 61 + 14), .ref (sz + 61 + 15), .ref (sz + 61 + 16)] : List Value) = (zfl (yμ n xs 61) 0 [0, 65, 66, 0, 0, 67, 0, 68, 69, 70, 71, 0, 0, 0, 0, 0, 0, 0, 0, 0, 0, 0, 0, 1, 0, 0, 0, 72, 73, 0, 0, 74, 75, 76, 0, 0, 77, 78, 79, 80]).map (tr (yAd sz g)) := by
  apply List.ext_getElem?
  intro j
  rw [List.getElem?_map, zfl_get]
  match j with
  | 0 => rfl
  | 1 => rfl
  | 2 => rfl
  | 3 => rfl
  | 4 => rfl
  | 5 => rfl
  | 6 => rfl
  | 7 => rfl
  | 8 => rfl
  | 9 => rfl
  | 10 => rfl
  | 11 => rfl
  | 12 => rfl
  | 13 => rfl
  | 14 => rfl
  | 15 => rfl
  | 16 => rfl
  | 17 => rfl
  | 18 => rfl
  | 19 => rfl
  | 20 => rfl
  | 21 => rfl
  | 22 => rfl
  | 23 => rfl
  | 24 => rfl
  | 25 => rfl
  | 26 => rfl
  | 27 => rfl
  | 28 => rfl
  | 29 => rfl
  | 30 => rfl
  | 31 => rfl
  | 32 => rfl
  | 33 => rfl
  | 34 => rfl
  | 35 => rfl
  | 36 => rfl
  | 37 => rfl
  | 38 => rfl
  | 39 => rfl
  | j + 40 => rfl
set_option maxRecDepth 20000 in
theorem y_pos {κ : Nat → ClassId} {sz n : Nat} {g : Nat → Nat} {xs : Nat → Int32} : ∀ k, k < 78 → (yDl κ sz ++ yMl κ (sz + 61))[k]? = some (zEr (yAd sz g) (κ (yTx k)) (yμ n xs k) 0 (zSh k))
  | 0, _ => rfl
  | 1, _ => rfl
  | 2, _ => rfl
  | 3, _ => congrArg (fun f => some (Sum.inl (κ 2, 5, Sum.inr (Sum.inr (Sum.inr (Sum.inr f)))))) y_q3
  | 4, _ => rfl
  | 5, _ => rfl
  | 6, _ => rfl
  | 7, _ => rfl
  | 8, _ => rfl
  | 9, _ => rfl
  | 10, _ => rfl
  | 11, _ => congrArg (fun f => some (Sum.inl (κ 2, 5, Sum.inr (Sum.inr (Sum.inr (Sum.inr f)))))) y_q11
  | 12, _ => rfl
  | 13, _ => rfl
  | 14, _ => rfl
  | 15, _ => rfl
  | 16, _ => rfl
  | 17, _ => rfl
  | 18, _ => congrArg (fun f => some (Sum.inl (κ 3, 6, Sum.inr (Sum.inr (Sum.inr (Sum.inr f)))))) y_q18
  | 19, _ => rfl
  | 20, _ => rfl
  | 21, _ => rfl
  | 22, _ => rfl
  | 23, _ => rfl
  | 24, _ => rfl
  | 25, _ => rfl
  | 26, _ => rfl
  | 27, _ => rfl
  | 28, _ => rfl
  | 29, _ => rfl
  | 30, _ => rfl
  | 31, _ => rfl
  | 32, _ => rfl
  | 33, _ => rfl
  | 34, _ => rfl
  | 35, _ => rfl
  | 36, _ => rfl
  | 37, _ => rfl
  | 38, _ => rfl
  | 39, _ => rfl
  | 40, _ => rfl
  | 41, _ => rfl
  | 42, _ => rfl
  | 43, _ => rfl
  | 44, _ => rfl
  | 45, _ => rfl
  | 46, _ => rfl
  | 47, _ => rfl
  | 48, _ => rfl
  | 49, _ => rfl
  | 50, _ => rfl
  | 51, _ => rfl
  | 52, _ => congrArg (fun f => some (Sum.inl (κ 4, 4, Sum.inr (Sum.inr (Sum.inr (Sum.inr f)))))) y_q52
  | 53, _ => rfl
  | 54, _ => rfl
  | 55, _ => rfl
  | 56, _ => rfl
  | 57, _ => rfl
  | 58, _ => rfl
  | 59, _ => rfl
  | 60, _ => rfl
  | 61, _ => congrArg (fun v => some (Sum.inr (11, v))) y_p61
  | 62, _ => rfl
  | 63, _ => rfl
  | 64, _ => rfl
  | 65, _ => rfl
  | 66, _ => rfl
  | 67, _ => rfl
  | 68, _ => rfl
  | 69, _ => rfl
  | 70, _ => rfl
  | 71, _ => rfl
  | 72, _ => rfl
  | 73, _ => rfl
  | 74, _ => rfl
  | 75, _ => rfl
  | 76, _ => rfl
  | 77, _ => rfl
  | k + 78, h => absurd h (by omega)
theorem y_world {κ : Nat → ClassId} {sz n : Nat} {g : Nat → Nat} {xs : Nat → Int32} : zW (yAd sz g) (fun k => κ (yTx k)) (yμ n xs) 0 = yW sz (yDl κ sz ++ yMl κ (sz + 61)) := by
  apply List.ext_getElem?
  intro k
  rcases Nat.lt_or_ge k 78 with h | h
  · rw [zW_get h, yW_get (y_pos (g := g) (n := n) (xs := xs) k h), yAd_lt h]
  · rw [List.getElem?_eq_none (by simpa [zW] using h), List.getElem?_eq_none]
    have hl : (yDl κ sz ++ yMl κ (sz + 61)).length = 78 := rfl
    simpa [yW, hl] using h
