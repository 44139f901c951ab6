def zar (μ : zMu) (k : Nat) (f : Nat → Int32) : zMu := va_up μ k f
theorem zar_ne {μ : zMu} {k : Nat} {f : Nat → Int32} {k' : Nat} (h : k' ≠ k) : zar μ k f k' = μ k' := if_neg h
theorem zar_eq {μ : zMu} {k : Nat} {f : Nat → Int32} : zar μ k f k = f := if_pos rfl
def zTy : Nat → Nat → FieldType
  | 0 => tyX0
  | 1 => tyX1
  | 2 => tyX2
  | 3 => tyX3
  | 4 => tyX4
  | 5 => tyX5
  | 6 => tyX6
  | 7 => tyX7
  | 8 => tyX8
  | 9 => tyX9
  | 10 => tyX10
  | _ => tyX11
theorem zIn0 : ∀ w ∈ u_ws RX0 TX0 4, w ∈ zT := by decide +kernel
theorem zIn1 : ∀ w ∈ u_ws RX1 TX1 5, w ∈ zT := by decide +kernel
theorem zIn2 : ∀ w ∈ u_ws RX2 TX2 8, w ∈ zT := by decide +kernel
theorem zIn3 : ∀ w ∈ u_ws RX3 TX3 4, w ∈ zT := by decide +kernel
theorem zIn4 : ∀ w ∈ u_ws RX4 TX4 8, w ∈ zT := by decide +kernel
theorem zIn5 : ∀ w ∈ u_ws RX5 TX5 3, w ∈ zT := by decide +kernel
theorem zIn6 : ∀ w ∈ u_ws RX6 TX6 9, w ∈ zT := by decide +kernel
theorem zIn7 : ∀ w ∈ u_ws RX7 TX7 7, w ∈ zT := by decide +kernel
theorem zIn8 : ∀ w ∈ u_ws RX8 TX8 4, w ∈ zT := by decide +kernel
theorem zIn9 : ∀ w ∈ u_ws RX9 TX9 3, w ∈ zT := by decide +kernel
theorem zIn10 : ∀ w ∈ u_ws RX10 TX10 10, w ∈ zT := by decide +kernel
theorem zIn11 : ∀ w ∈ u_ws RX11 TX11 40, w ∈ zT := by decide +kernel
theorem zCl {ci : Nat} {C : String} {T : u_T} {N : Nat} (h : vwCl[ci]? = some (C, T, N)) : (∀ w ∈ u_ws C T N, w ∈ zT) ∧ (∀ k, k < N → parseFieldDescriptor (T k).2.2.1 = some (zTy ci k)) ∧ (∀ a, a < N → ∀ b, b < N → a ≠ b → (T a).2.1 ≠ (T b).2.1) := by
  match ci, h with
  | 0, h => cases h; exact ⟨zIn0, tyX0_ok, nmX0⟩
  | 1, h => cases h; exact ⟨zIn1, tyX1_ok, nmX1⟩
  | 2, h => cases h; exact ⟨zIn2, tyX2_ok, nmX2⟩
  | 3, h => cases h; exact ⟨zIn3, tyX3_ok, nmX3⟩
  | 4, h => cases h; exact ⟨zIn4, tyX4_ok, nmX4⟩
  | 5, h => cases h; exact ⟨zIn5, tyX5_ok, nmX5⟩
  | 6, h => cases h; exact ⟨zIn6, tyX6_ok, nmX6⟩
  | 7, h => cases h; exact ⟨zIn7, tyX7_ok, nmX7⟩
  | 8, h => cases h; exact ⟨zIn8, tyX8_ok, nmX8⟩
  | 9, h => cases h; exact ⟨zIn9, tyX9_ok, nmX9⟩
  | 10, h => cases h; exact ⟨zIn10, tyX10_ok, nmX10⟩
  | 11, h => cases h; exact ⟨zIn11, tyX11_ok, nmX11⟩
  | n + 12, h => simp [vwCl] at h
/-- a field's link: class ci, slot j -/
def zF (own : String) (idx ci j : Nat) : Prop := ∃ (C : String) (T : u_T) (N : Nat), vwCl[ci]? = some (C, T, N) ∧ j < N ∧ Cond.fieldLink own idx C (T j).2.1 (T j).2.2.1 ∈ zT ∧ (T j).1 = C
def zP (own : String) (idx ci j : Nat) (ty : FieldType) : Prop := ∃ (C : String) (T : u_T) (N : Nat), vwCl[ci]? = some (C, T, N) ∧ j < N ∧ Cond.fieldLink own idx C (T j).2.1 (T j).2.2.1 ∈ zT ∧ (T j).1 = C ∧ (T j).2.2.2 = false ∧ parseFieldDescriptor (T j).2.2.1 = some ty
theorem zP.f {own : String} {idx ci j : Nat} {ty : FieldType} (h : zP own idx ci j ty) : zF own idx ci j := by
  obtain ⟨C, T, N, h1, h2, h3, h4, -⟩ := h
  exact ⟨C, T, N, h1, h2, h3, h4⟩
section ZF
variable {d : Nat} {own : String} {cc : ByteArray} {nL : Nat} {rt : Option FieldType} {Q : zQ} {pc : Nat} {L st : List Value} {μ : zMu} {τ : Int64}
theorem zW_obj {ad : Nat → Nat} {ac : Nat → ClassId} {k ci : Nat} {cs : List Nat} (hk : k < 78) (hs : zSh k = .inl (ci, cs)) : (zW ad ac μ τ)[k]? = some (ad k, .inr (ci, (zfl (μ k) τ cs).map (tr ad))) := by
  rw [zW_get hk, hs]; rfl
theorem zW_ints {ad : Nat → Nat} {ac : Nat → ClassId} {k n : Nat} {ty : FieldType} (hk : k < 78) (hs : zSh k = .inr (.inl (ty, n))) : (zW ad ac μ τ)[k]? = some (ad k, .inl (ac k, n, .inl (μ k))) := by
  rw [zW_get hk, hs]; rfl
theorem zW_refs {ad : Nat → Nat} {ac : Nat → ClassId} {k : Nat} {C : String} {ps : List Nat} (hk : k < 78) (hs : zSh k = .inr (.inr (C, ps))) : (zW ad ac μ τ)[k]? = some (ad k, .inl (ac k, ps.length, .inr (.inr (.inr (.inr (fun j => (ps[j]?).map ad)))))) := by
  rw [zW_get hk, hs]; rfl
theorem zTs_at {ac : Nat → ClassId} {k : Nat} {sh : zShape} (hk : k < 78) (hs : zSh k = sh) : (zTs ac)[k]? = some (ac k, zAt sh) := by
  rw [zTs_get hk, hs]
theorem Zw_get {idx ci j k : Nat} {cs : List Nat} {cd : Nat} {v : Value} (hF : zF own idx ci j) (hd : decode cc pc = .ok (.getfield idx, 3)) (hk : k < 78) (hs : zSh k = .inl (ci, cs)) (hc : cs[j]? = some cd) (hv : zfv (μ k) τ j cd = v) (h : Zw d own cc nL rt Q (pc + 3) L (v :: st) μ τ) : Zw d own cc nL rt Q pc L (.ref k :: st) μ τ := by
  intro p l e R s m args below meth c D ad ac X K cells slots H locs ls hC hH hL hK
  obtain ⟨C, T, N, f1, f2, f3, f4⟩ := hF
  refine va_get hC.1 hC.2.1 hC.2.2.2.2.2.2.1 (zCl f1).1 hC.2.2.2.2.2.1 hC.2.2.2.2.2.2.2.2.1 hH.1 k (zW_obj hk hs) f1 j f2 (hC.2.2.2.2.2.2.1 _ f3) (fun x hx => by rw [← f4]; exact hx) (v := tr ad v) ?_ hd (h p l e R s m args below meth c D ad ac X K cells slots H locs ls hC hH hL hK)
  rw [List.getElem?_map, zfl_get, hc]
  show some (tr ad (zfv (μ k) τ j cd)) = some (tr ad v)
  rw [hv]
theorem Zw_put {idx ci j k : Nat} {cs : List Nat} {x : Int32} {ty : FieldType} (hF : zP own idx ci j ty) (hd : decode cc pc = .ok (.putfield idx, 3)) (hk : k < 78) (hs : zSh k = .inl (ci, cs)) (hc : cs[j]? = some 0) (hn : narrow ty (.int x) = .int x) (hf : fits ty (.int x) = true) (h : Zw d own cc nL rt Q (pc + 3) L st (zup μ k j x) τ) : Zw d own cc nL rt Q pc L (.int x :: .ref k :: st) μ τ := by
  intro p l e R s m args below meth c D ad ac X K cells slots H locs ls hC hH hL hK
  obtain ⟨C, T, N, f1, f2, f3, f4, f5, f6⟩ := hF
  have hj : j < cs.length := (List.getElem?_eq_some_iff.mp hc).1
  refine va_put (A := zA ad) hC.1 hC.2.1 hC.2.2.2.2.2.2.1 (zCl f1).1 (zTy ci) (zCl f1).2.1 (zCl f1).2.2 hC.2.2.2.2.2.1 hC.2.2.2.2.2.2.2.2.1 hH.1 (zW_D hC.2.2.2.2.2.2.2.2.2.1 _ _ _) hH.2.1 k (zW_obj hk hs) f1 j f2 (hC.2.2.2.2.2.2.1 _ f3) (fun x hx => by rw [← f4]; exact hx) f5 f6 hn hf (by rw [List.length_map, zfl_len]; exact hj) hd (fun H1 locs1 hP1 hD1 hS1 => ?_)
  have hP1 : va_P D vwCl ((zW ad ac μ τ).set k (ad k, .inr (ci, ((zfl (μ k) τ cs).map (tr ad)).set j (.int x)))) H1 := hP1
  have eq0 : (zW ad ac μ τ).set k (ad k, .inr (ci, ((zfl (μ k) τ cs).map (tr ad)).set j (.int x))) = zW ad ac (zup μ k j x) τ := by
    refine zW_set (fun k' h1 h2 => by rw [zup_ne h2]) ?_
    rw [hs, zup_eq]
    show Sum.inr (ci, (zfl (upd (μ k) j x) τ cs).map (tr ad)) = _
    rw [zfl_int hc, List.map_set]
    rfl
  rw [eq0] at hP1
  have hk90 : (90 : Nat) ≠ k := by omega
  have hk91 : (91 : Nat) ≠ k := by omega
  exact h p l e R s m args below meth c D ad ac X K cells slots H1 locs1 ls hC ⟨hP1, hS1, ⟨by rw [zup_ne hk90]; exact hH.2.2.1, by rw [zup_ne hk91]; exact hH.2.2.2⟩⟩ hL hK
theorem Zw_putr {idx ci j k q : Nat} {cs : List Nat} {ty : FieldType} (hF : zP own idx ci j ty) (hd : decode cc pc = .ok (.putfield idx, 3)) (hk : k < 78) (hs : zSh k = .inl (ci, cs)) (hc : cs[j]? = some 2) (hq : q < 2 ^ 31) (hty : ty = .array .int) (h : Zw d own cc nL rt Q (pc + 3) L st (zup μ k j (nI q)) τ) : Zw d own cc nL rt Q pc L (.ref q :: .ref k :: st) μ τ := by
  intro p l e R s m args below meth c D ad ac X K cells slots H locs ls hC hH hL hK
  obtain ⟨C, T, N, f1, f2, f3, f4, f5, f6⟩ := hF
  subst hty
  have hj : j < cs.length := (List.getElem?_eq_some_iff.mp hc).1
  refine va_put (A := zA ad) (v := .ref (ad q)) hC.1 hC.2.1 hC.2.2.2.2.2.2.1 (zCl f1).1 (zTy ci) (zCl f1).2.1 (zCl f1).2.2 hC.2.2.2.2.2.1 hC.2.2.2.2.2.2.2.2.1 hH.1 (zW_D hC.2.2.2.2.2.2.2.2.2.1 _ _ _) hH.2.1 k (zW_obj hk hs) f1 j f2 (hC.2.2.2.2.2.2.1 _ f3) (fun x hx => by rw [← f4]; exact hx) f5 f6 rfl rfl (by rw [List.length_map, zfl_len]; exact hj) hd (fun H1 locs1 hP1 hD1 hS1 => ?_)
  have eq0 : (zW ad ac μ τ).set k (ad k, .inr (ci, ((zfl (μ k) τ cs).map (tr ad)).set j (.ref (ad q)))) = zW ad ac (zup μ k j (nI q)) τ := by
    refine zW_set (fun k' h1 h2 => by rw [zup_ne h2]) ?_
    rw [hs, zup_eq]
    show Sum.inr (ci, (zfl (upd (μ k) j (nI q)) τ cs).map (tr ad)) = _
    rw [zfl_ref hc hq, List.map_set]
    rfl
  rw [eq0] at hP1
  have hk90 : (90 : Nat) ≠ k := by omega
  have hk91 : (91 : Nat) ≠ k := by omega
  exact h p l e R s m args below meth c D ad ac X K cells slots H1 locs1 ls hC ⟨hP1, hS1, ⟨by rw [zup_ne hk90]; exact hH.2.2.1, by rw [zup_ne hk91]; exact hH.2.2.2⟩⟩ hL hK
theorem zOneLong : ∀ (cs : List Nat), zSh 61 = .inl (11, cs) → cs[23]? = some 1 ∧ ∀ i, cs[i]? = some 1 → i = 23 := by
  intro cs h
  cases h
  refine ⟨rfl, fun i hi => ?_⟩
  have h1 : i < 40 := (List.getElem?_eq_some_iff.mp hi).1
  have key : ∀ i, i < 40 → ([0, 65, 66, 0, 0, 67, 0, 68, 69, 70, 71, 0, 0, 0, 0, 0, 0, 0, 0, 0, 0, 0, 0, 1, 0, 0, 0, 72, 73, 0, 0, 74, 75, 76, 0, 0, 77, 78, 79, 80] : List Nat)[i]? = some 1 → i = 23 := by decide
  exact key i h1 hi
/-- tokenWorth, the long of the reference's object -/
theorem Zw_putl {idx : Nat} {x : Int64} (hF : zP own idx 11 23 .long) (hd : decode cc pc = .ok (.putfield idx, 3)) (h : Zw d own cc nL rt Q (pc + 3) L st μ x) : Zw d own cc nL rt Q pc L (.long x :: .ref 61 :: st) μ τ := by
  intro p l e R s m args below meth c D ad ac X K cells slots H locs ls hC hH hL hK
  obtain ⟨C, T, N, f1, f2, f3, f4, f5, f6⟩ := hF
  obtain ⟨cs, hs⟩ : ∃ cs, zSh 61 = .inl (11, cs) := ⟨_, rfl⟩
  obtain ⟨hc, ho⟩ := zOneLong cs hs
  have hj : 23 < cs.length := (List.getElem?_eq_some_iff.mp hc).1
  have hk : 61 < 78 := by decide
  refine va_put (A := zA ad) (v := .long x) hC.1 hC.2.1 hC.2.2.2.2.2.2.1 (zCl f1).1 (zTy 11) (zCl f1).2.1 (zCl f1).2.2 hC.2.2.2.2.2.1 hC.2.2.2.2.2.2.2.2.1 hH.1 (zW_D hC.2.2.2.2.2.2.2.2.2.1 _ _ _) hH.2.1 61 (zW_obj hk hs) f1 23 f2 (hC.2.2.2.2.2.2.1 _ f3) (fun x hx => by rw [← f4]; exact hx) f5 f6 rfl rfl (by rw [List.length_map, zfl_len]; exact hj) hd (fun H1 locs1 hP1 hD1 hS1 => ?_)
  have eq0 : (zW ad ac μ τ).set 61 (ad 61, .inr (11, ((zfl (μ 61) τ cs).map (tr ad)).set 23 (.long x))) = zW ad ac μ x := by
    refine zW_set (fun k' h1 h2 => zEr_noLong (zNoLong_all k' h1 h2)) ?_
    rw [hs]
    show Sum.inr (11, (zfl (μ 61) x cs).map (tr ad)) = _
    rw [zfl_long (τ := τ) hc ho, List.map_set]
    rfl
  rw [eq0] at hP1
  exact h p l e R s m args below meth c D ad ac X K cells slots H1 locs1 ls hC ⟨hP1, hS1, hH.2.2⟩ hL hK
theorem Zw_iald {k n : Nat} {i : Int32} (hd : decode cc pc = .ok (.iaload, 1)) (hk : k < 78) (hs : zSh k = .inr (.inl (.int, n))) (hin : vp_in i n) (h : Zw d own cc nL rt Q (pc + 1) L (.int (μ k i.toNatClampNeg) :: st) μ τ) : Zw d own cc nL rt Q pc L (.int i :: .ref k :: st) μ τ := by
  intro p l e R s m args below meth c D ad ac X K cells slots H locs ls hC hH hL hK
  exact va_iald hC.1 hC.2.1 hC.2.2.2.2.2.2.2.2.1 hH.1 k k (zW_ints hk hs) (zTs_at hk hs) hin hd (h p l e R s m args below meth c D ad ac X K cells slots H locs ls hC hH hL hK)
theorem Zw_zald {k n : Nat} {i : Int32} (hd : decode cc pc = .ok (.baload, 1)) (hk : k < 78) (hs : zSh k = .inr (.inl (.boolean, n))) (hin : vp_in i n) (h : Zw d own cc nL rt Q (pc + 1) L (.int (μ k i.toNatClampNeg) :: st) μ τ) : Zw d own cc nL rt Q pc L (.int i :: .ref k :: st) μ τ := by
  intro p l e R s m args below meth c D ad ac X K cells slots H locs ls hC hH hL hK
  exact va_zald hC.1 hC.2.1 hC.2.2.2.2.2.2.2.2.1 hH.1 k k (zW_ints hk hs) (zTs_at hk hs) hin hd (h p l e R s m args below meth c D ad ac X K cells slots H locs ls hC hH hL hK)
theorem zW_put {ad : Nat → Nat} {ac : Nat → ClassId} {k n i : Nat} {x : Int32} {ty : FieldType} (hs : zSh k = .inr (.inl (ty, n))) : (zW ad ac μ τ).set k (ad k, .inl (ac k, n, .inl (upd (μ k) i x))) = zW ad ac (zup μ k i x) τ := by
  refine zW_set (fun k' h1 h2 => by rw [zup_ne h2]) ?_
  rw [hs, zup_eq]
  rfl
theorem zXm_up {X : zXs} {k i : Nat} {x : Int32} (hk : k < 78) (h : zXm X μ) : zXm X (zup μ k i x) := by
  have hk90 : (90 : Nat) ≠ k := by omega
  have hk91 : (91 : Nat) ≠ k := by omega
  exact ⟨by rw [zup_ne hk90]; exact h.1, by rw [zup_ne hk91]; exact h.2⟩
theorem Zw_iast {k n : Nat} {i x : Int32} (hd : decode cc pc = .ok (.iastore, 1)) (hk : k < 78) (hs : zSh k = .inr (.inl (.int, n))) (hin : vp_in i n) (h : Zw d own cc nL rt Q (pc + 1) L st (zup μ k i.toNatClampNeg x) τ) : Zw d own cc nL rt Q pc L (.int x :: .int i :: .ref k :: st) μ τ := by
  intro p l e R s m args below meth c D ad ac X K cells slots H locs ls hC hH hL hK
  refine va_iast (A := zA ad) hC.1 hC.2.1 hC.2.2.2.2.2.2.2.2.1 hH.1 (zW_D hC.2.2.2.2.2.2.2.2.2.1 _ _ _) hH.2.1 k k (zW_ints hk hs) (zTs_at hk hs) hin hd (fun H1 locs1 hP1 hD1 hS1 => ?_)
  rw [zW_put hs] at hP1
  exact h p l e R s m args below meth c D ad ac X K cells slots H1 locs1 ls hC ⟨hP1, hS1, zXm_up hk hH.2.2⟩ hL hK
theorem Zw_zast {k n : Nat} {i x : Int32} (hd : decode cc pc = .ok (.bastore, 1)) (hk : k < 78) (hs : zSh k = .inr (.inl (.boolean, n))) (hin : vp_in i n) (h : Zw d own cc nL rt Q (pc + 1) L st (zup μ k i.toNatClampNeg (vp_nar .boolean x)) τ) : Zw d own cc nL rt Q pc L (.int x :: .int i :: .ref k :: st) μ τ := by
  intro p l e R s m args below meth c D ad ac X K cells slots H locs ls hC hH hL hK
  refine va_zast (A := zA ad) hC.1 hC.2.1 hC.2.2.2.2.2.2.2.2.1 hH.1 (zW_D hC.2.2.2.2.2.2.2.2.2.1 _ _ _) hH.2.1 k k (zW_ints hk hs) (zTs_at hk hs) hin hd (fun H1 locs1 hP1 hD1 hS1 => ?_)
  rw [zW_put hs] at hP1
  exact h p l e R s m args below meth c D ad ac X K cells slots H1 locs1 ls hC ⟨hP1, hS1, zXm_up hk hH.2.2⟩ hL hK
theorem Zw_aald {k q : Nat} {C : String} {ps : List Nat} {i : Int32} (hd : decode cc pc = .ok (.aaload, 1)) (hk : k < 78) (hs : zSh k = .inr (.inr (C, ps))) (hin : vp_in i ps.length) (hq : ps[i.toNatClampNeg]? = some q) (h : Zw d own cc nL rt Q (pc + 1) L (.ref q :: st) μ τ) : Zw d own cc nL rt Q pc L (.int i :: .ref k :: st) μ τ := by
  intro p l e R s m args below meth c D ad ac X K cells slots H locs ls hC hH hL hK
  have h1 := h p l e R s m args below meth c D ad ac X K cells slots H locs ls hC hH hL hK
  refine va_aldq hC.1 hC.2.1 hC.2.2.2.2.2.2.2.2.1 hH.1 k k (C := C) (zW_refs hk hs) (zTs_at hk hs) hin hd ?_
  show W p l e R s m args below meth c H locs cells slots K (F0 m (pc + 1) ls (va_rf ((ps[i.toNatClampNeg]?).map ad) :: st.map (tr ad)))
  rw [hq]
  exact h1
theorem Zw_alen {k n : Nat} {ty : FieldType} (hd : decode cc pc = .ok (.arraylength, 1)) (hk : k < 78) (hs : zSh k = .inr (.inl (ty, n))) (h : Zw d own cc nL rt Q (pc + 1) L (.int (nI n) :: st) μ τ) : Zw d own cc nL rt Q pc L (.ref k :: st) μ τ := by
  intro p l e R s m args below meth c D ad ac X K cells slots H locs ls hC hH hL hK
  exact va_alen hC.1 hC.2.1 hC.2.2.2.2.2.2.2.2.1 hH.1 k k (zW_ints hk hs) (zTs_at hk hs) rfl hd (h p l e R s m args below meth c D ad ac X K cells slots H locs ls hC hH hL hK)
/-! static tables and the script -/
theorem Zw_tald {t : Nat} {i x : Int32} (hd : decode cc pc = .ok (.iaload, 1)) (ht : t < 4) (hin : vp_in i (zTab t).length) (hx : (zTab t).getD i.toNatClampNeg 0 = x) (h : Zw d own cc nL rt Q (pc + 1) L (.int x :: st) μ τ) : Zw d own cc nL rt Q pc L (.int i :: .ref (80 + t) :: st) μ τ := by
  intro p l e R s m args below meth c D ad ac X K cells slots H locs ls hC hH hL hK
  exact va_ti hC.1 hC.2.1 (hC.2.2.2.2.2.2.2.2.2.2.2.2.2.2.1 t ht) hH.2.1 hin (by rw [hx]; rfl) hd (h p l e R s m args below meth c D ad ac X K cells slots H locs ls hC hH hL hK)
theorem Zw_tlen {t : Nat} {n : Int32} (hd : decode cc pc = .ok (.arraylength, 1)) (ht : t < 4) (hn : nI (zTab t).length = n) (h : Zw d own cc nL rt Q (pc + 1) L (.int n :: st) μ τ) : Zw d own cc nL rt Q pc L (.ref (80 + t) :: st) μ τ := by
  intro p l e R s m args below meth c D ad ac X K cells slots H locs ls hC hH hL hK
  exact va_tlen hC.1 hC.2.1 (hC.2.2.2.2.2.2.2.2.2.2.2.2.2.2.1 t ht) hH.2.1 hn hd (h p l e R s m args below meth c D ad ac X K cells slots H locs ls hC hH hL hK)
theorem Zw_gets {t idx : Nat} (ht : t < 4) (hw : Cond.fieldLink own idx RX10 (zTabN t) "[I" ∈ zT) (hd : decode cc pc = .ok (.getstatic idx, 3)) (h : Zw d own cc nL rt Q (pc + 3) L (.ref (80 + t) :: st) μ τ) : Zw d own cc nL rt Q pc L st μ τ := by
  intro p l e R s m args below meth c D ad ac X K cells slots H locs ls hC hH hL hK
  exact va_gets hC.1 hC.2.1 (hC.2.2.2.2.2.2.2.2.2.2.2.2.2.1 t ht) hH.2.1 hC.2.2.2.2.2.1 (hC.2.2.2.2.2.2.1 _ hw) (fun x hx => hx) hd (h p l e R s m args below meth c D ad ac X K cells slots H locs ls hC hH hL hK)
theorem Zw_getsN {t idx : Nat} (ht : t < 4) (hw : Cond.fieldLinkNest own idx RX10 (zTabN t) "[I" RX10 ∈ zNf) (hd : decode cc pc = .ok (.getstatic idx, 3)) (h : Zw d own cc nL rt Q (pc + 3) L (.ref (80 + t) :: st) μ τ) : Zw d own cc nL rt Q pc L st μ τ := by
  intro p l e R s m args below meth c D ad ac X K cells slots H locs ls hC hH hL hK
  exact va_getsN hC.1 hC.2.1 (hC.2.2.2.2.2.2.2.2.2.2.2.2.2.1 t ht) hH.2.1 hC.2.2.2.2.2.1 (va_Nw.use rfl (hC.2.2.2.2.2.2.2.2.2.2.2.1 _ hw)) (fun x hx => hx) hd (h p l e R s m args below meth c D ad ac X K cells slots H locs ls hC hH hL hK)
theorem Zw_xald {n : Nat} {i : Int32} (hd : decode cc pc = .ok (.iaload, 1)) (hn : μ 91 0 = nI n) (hn2 : n < 2 ^ 31) (hin : vp_in i n) (h : Zw d own cc nL rt Q (pc + 1) L (.int (μ 90 i.toNatClampNeg) :: st) μ τ) : Zw d own cc nL rt Q pc L (.int i :: .ref 90 :: st) μ τ := by
  intro p l e R s m args below meth c D ad ac X K cells slots H locs ls hC hH hL hK
  by_cases hX1 : X.1 < 2 ^ 31
  · have e1 : X.1 = n := (nI_eq hX1 hn2).mp (hH.2.2.2.symm.trans hn)
    refine va_ti hC.1 hC.2.1 (hC.2.2.2.2.2.2.2.2.2.2.2.2.2.2.2.1) hH.2.1 (by rw [e1]; exact hin) (v := .int (μ 90 i.toNatClampNeg)) (by rw [hH.2.2.1]) hd (h p l e R s m args below meth c D ad ac X K cells slots H locs ls hC hH hL hK)
  · obtain ⟨cell, c1, c2, c3, c4, c5, c6⟩ := hC.2.2.2.2.2.2.2.2.2.2.2.2.2.2.2.1
    have e2 : cell.slots.size.toInt32 = nI n := c5.trans (hH.2.2.2.symm.trans hn)
    refine va_ti (N := n) hC.1 hC.2.1 ⟨cell, c1, c2, c3, by omega, e2, fun j hj => c6.1 j (by omega), c6.2⟩ hH.2.1 hin (v := .int (μ 90 i.toNatClampNeg)) (by rw [hH.2.2.1]) hd (h p l e R s m args below meth c D ad ac X K cells slots H locs ls hC hH hL hK)
theorem Zw_xlen (hd : decode cc pc = .ok (.arraylength, 1)) (h : Zw d own cc nL rt Q (pc + 1) L (.int (μ 91 0) :: st) μ τ) : Zw d own cc nL rt Q pc L (.ref 90 :: st) μ τ := by
  intro p l e R s m args below meth c D ad ac X K cells slots H locs ls hC hH hL hK
  exact va_tlen hC.1 hC.2.1 (hC.2.2.2.2.2.2.2.2.2.2.2.2.2.2.2.1) hH.2.1 hH.2.2.2.symm hd (h p l e R s m args below meth c D ad ac X K cells slots H locs ls hC hH hL hK)
end ZF
/-! calls -/
theorem z_blind {D : va_G} {ad : Nat → Nat} {ac : Nat → ClassId} {X : zXs} {μ : zMu} {τ : Int64} {as : List Value} : FrameBlind (va_Pc as (zHq D ad ac X μ τ)) := fun a U g mk q => by
  obtain ⟨q0, qP, qK, qS⟩ := q
  exact ⟨q0, qP, va_K.moved (u := U) (U := U.calling g mk a) (Vm.Alike.refl U.vm) qK, qS.same rfl rfl⟩
theorem z_run {p : Program} {l : Launch} {e : Env} {R : Room} {s : State} {m : MethodId} {args : Array Value} {below : List Frame} {meth : Method} {c : Code} {D : va_G} {ad : Nat → Nat} {ac : Nat → ClassId} {X : zXs} {K : State → Prop} {cells slots : Nat} {H : Heap} {locs : List Loc} {ls : Array Slot} {pc : Nat} {st0 rest : List Value} {a : Array Value} {Q : zQ}
    (hr : va_Run p l e R s m args below meth c H locs cells slots 0 0 (F0 m pc ls st0) rest (zQc D ad ac X Q a) (zA ad)) (hS : va_S (zA ad) s.heap H locs)
    (kk : ∀ (r : Option Value) (μ' : zMu) (τ' : Int64) (H' : Heap) (locs' : List Loc), Q r μ' τ' → zHp s D ad ac X μ' τ' H' locs' → W p l e R s m args below meth c H' locs' cells slots K (F0 m (pc + 3) ls ((r.map (tr ad)).toList ++ rest))) : W p l e R s m args below meth c H locs cells slots K (F0 m pc ls st0) := by
  intro T hT XX
  obtain ⟨v, st₀, t, T', L, h0, X', hL, e1, e2, ⟨⟨r, μ', τ', hv, hq, hP, hXm⟩, hz, hk⟩, st⟩ := hr T hT XX
  have hv' : v = r.map (tr ad) := by cases hv; rfl
  subst hv'
  rw [h0] at hz hk
  obtain ⟨t2, a1, b1⟩ := kk r μ' τ' T'.heap (locs ++ L) hq ⟨by rw [e1]; exact hP, ⟨Nat.le_trans hS.1 (by rw [e1]; exact hz), fun q h1 h2 => by rw [e1, hk q (Nat.lt_of_lt_of_le h1 hS.1) h2]; exact hS.2.1 q h1 h2, fun q hq => by
      rcases List.mem_append.mp hq with h | h
      · exact hS.2.2 q h
      · exact hL q h⟩, hXm⟩ T' rfl X'
  exact ⟨t2, st t2 a1, b1⟩
/-- the words of a call: of an instance method, of a static one, of a nest mate's static one -/
def zCV (own : String) (idx : Nat) (y : MethodName) (cc : ByteArray) (nL : Nat) (rt : Option FieldType) (n : Nat) : Prop :=
  Cond.methodLink own idx y ∈ zT ∧ Cond.instanceMethod y ∈ zT ∧ Cond.selects y.cls y y ∈ zT ∧ Cond.initialized y.cls ∈ zT ∧ Cond.code y cc nL rt ∈ zT ∧ (y.cls ≠ "java/lang/invoke/MethodHandle" ∧ y.cls ≠ "java/lang/invoke/VarHandle" ∧ (parseMethodDescriptor y.desc).map (fun d => d.parameters.length) = some n) ∧ nL ≤ 25
def zCS (own : String) (idx : Nat) (y : MethodName) (cc : ByteArray) (nL : Nat) (rt : Option FieldType) (n : Nat) : Prop :=
  Cond.methodLink own idx y ∈ zT ∧ Cond.static y ∈ zT ∧ Cond.initialized y.cls ∈ zT ∧ Cond.code y cc nL rt ∈ zT ∧ (y.cls ≠ "java/lang/invoke/MethodHandle" ∧ y.cls ≠ "java/lang/invoke/VarHandle" ∧ (parseMethodDescriptor y.desc).map (fun d => d.parameters.length) = some n) ∧ nL ≤ 25
def zCN (own : String) (idx : Nat) (y : MethodName) (cc : ByteArray) (nL : Nat) (rt : Option FieldType) (n : Nat) : Prop :=
  Cond.methodLinkNest own idx y RX10 ∈ zNw ∧ Cond.static y ∈ zT ∧ Cond.initialized y.cls ∈ zT ∧ Cond.code y cc nL rt ∈ zT ∧ (y.cls ≠ "java/lang/invoke/MethodHandle" ∧ y.cls ≠ "java/lang/invoke/VarHandle" ∧ (parseMethodDescriptor y.desc).map (fun d => d.parameters.length) = some n) ∧ nL ≤ 25
theorem zGood {y : MethodName} {cc : ByteArray} {nL : Nat} {rt : Option FieldType} (h : Cond.code y cc nL rt ∈ zT) : GoodIn zT (Cond.code y cc nL rt :: zT) := fun w hw => by
  rcases List.mem_cons.mp hw with e | e
  · rw [e]; exact zT_good _ h
  · exact zT_good w e
section ZC
variable {d : Nat} {own : String} {cc : ByteArray} {nL : Nat} {rt : Option FieldType} {Q : zQ} {pc : Nat} {L st : List Value} {μ : zMu} {τ : Int64}
theorem z_cat (ad : Nat → Nat) (r : List Value) : ((r.map (tr ad)).map fun v => v.category).sum = (r.map fun v => v.category).sum := by
  induction r with
  | nil => rfl
  | cons v r ih => simp only [List.map_cons, List.sum_cons, tr_cat, ih]
theorem z_app (ad : Nat → Nat) (r : Option Value) (rest : List Value) : (r.toList ++ rest).map (tr ad) = (r.map (tr ad)).toList ++ rest.map (tr ad) := by
  cases r <;> simp
theorem Zw_invV {idx n k ci b : Nat} {y : MethodName} {cc' : ByteArray} {nL' : Nat} {rt' : Option FieldType} {cs : List Nat} {T : u_T} {N : Nat} (as rest : List Value) (hM : zCV own idx y cc' nL' rt' n) (hd : decode cc pc = .ok (.invokevirtual idx, 3)) (hk : k + 1 ≤ d) (hb : b < 78) (hs : zSh b = .inl (ci, cs)) (hci : vwCl[ci]? = some (y.cls, T, N)) (hn : as.length = n) (hW : (rest.map fun v => v.category).sum ≤ 8)
    (hZ : Zc k y cc' nL' rt' (.ref b :: as) μ τ (fun r μ' τ' => Zw d own cc nL rt Q (pc + 3) L (r.toList ++ rest) μ' τ')) : Zw d own cc nL rt Q pc L (as.reverse ++ .ref b :: rest) μ τ := by
  intro p l e R s m args below meth c D ad ac X K cells slots H locs ls hC hH hL hK
  obtain ⟨m1, m2, m3, m4, m5, m6, m7⟩ := hM
  obtain ⟨hx, hcc, hml, hr, hlocks, hown, hts, ⟨r1, r2, r3, r4⟩, hKK, hDj, hSt⟩ := id hC
  have hfix : CallFix p m c cc nL s args zT own := ⟨hx, hcc, hml, hown, hts⟩
  have hcw : CallW R s args own y.cls idx y cc' nL' rt' (Cond.code y cc' nL' rt' :: zT) (zRm k) 0 0 n :=
    ⟨callB_of n hts (zGood m5) rfl rfl rfl (hts _ m4) (hts _ m1) m6 ⟨show k + 1 ≤ R.frames by omega, show 8 + (nL' + 11) + 44 * k ≤ R.locals by omega⟩, hts _ m2, hts _ m3⟩
  refine z_run (va_runV (C := y.cls) (As := as.map (tr ad)) (rest := rest.map (tr ad)) hfix (hZ l D ad ac X hDj hH.2.2) hcw ⟨z_blind, va_recv hKK hH.1 hci (zW_obj hb hs), fun U hU hW1 => ⟨rfl, by rw [hU]; exact hH.1, va_K.moved hW1.alike hKK, hSt.go hW1 hU hH.2.1⟩⟩ rfl (by rw [List.length_map]; exact hn) hL.1 (by simp [tr]) (lv_room (by rw [z_cat]; exact hW)) hd ⟨r3, r4⟩) hH.2.1 (fun r μ' τ' H' locs' hq hH' => ?_)
  rw [← z_app]
  exact hq p l e R s m args below meth c D ad ac X K cells slots H' locs' ls hC hH' hL hK
theorem Zw_invS {idx n k : Nat} {y : MethodName} {cc' : ByteArray} {nL' : Nat} {rt' : Option FieldType} (as rest : List Value) (hM : zCS own idx y cc' nL' rt' n) (hd : decode cc pc = .ok (.invokestatic idx, 3)) (hk : k + 1 ≤ d) (hn : as.length = n) (hW : (rest.map fun v => v.category).sum ≤ 8)
    (hZ : Zc k y cc' nL' rt' as μ τ (fun r μ' τ' => Zw d own cc nL rt Q (pc + 3) L (r.toList ++ rest) μ' τ')) : Zw d own cc nL rt Q pc L (as.reverse ++ rest) μ τ := by
  intro p l e R s m args below meth c D ad ac X K cells slots H locs ls hC hH hL hK
  obtain ⟨m1, m2, m4, m5, m6, m7⟩ := hM
  obtain ⟨hx, hcc, hml, hr, hlocks, hown, hts, ⟨r1, r2, r3, r4⟩, hKK, hDj, hSt⟩ := id hC
  have hfix : CallFix p m c cc nL s args zT own := ⟨hx, hcc, hml, hown, hts⟩
  have hcw : CallB R s args own idx y cc' nL' rt' (Cond.code y cc' nL' rt' :: zT) (zRm k) 0 0 n ∧ (Cond.static y).before args s = true :=
    ⟨callB_of n hts (zGood m5) rfl rfl rfl (hts _ m4) (hts _ m1) m6 ⟨show k + 1 ≤ R.frames by omega, show 8 + (nL' + 11) + 44 * k ≤ R.locals by omega⟩, hts _ m2⟩
  refine z_run (va_runS (As := as.map (tr ad)) (rest := rest.map (tr ad)) hfix (hZ l D ad ac X hDj hH.2.2) hcw ⟨z_blind, fun U hU hW1 => ⟨rfl, by rw [hU]; exact hH.1, va_K.moved hW1.alike hKK, hSt.go hW1 hU hH.2.1⟩⟩ rfl (by rw [List.length_map]; exact hn) hL.1 (by simp) (lv_room (by rw [z_cat]; exact hW)) hd ⟨r3, r4⟩) hH.2.1 (fun r μ' τ' H' locs' hq hH' => ?_)
  rw [← z_app]
  exact hq p l e R s m args below meth c D ad ac X K cells slots H' locs' ls hC hH' hL hK
theorem Zw_invN {idx n k : Nat} {y : MethodName} {cc' : ByteArray} {nL' : Nat} {rt' : Option FieldType} (as rest : List Value) (hM : zCN own idx y cc' nL' rt' n) (hd : decode cc pc = .ok (.invokestatic idx, 3)) (hk : k + 1 ≤ d) (hn : as.length = n) (hW : (rest.map fun v => v.category).sum ≤ 8)
    (hZ : Zc k y cc' nL' rt' as μ τ (fun r μ' τ' => Zw d own cc nL rt Q (pc + 3) L (r.toList ++ rest) μ' τ')) : Zw d own cc nL rt Q pc L (as.reverse ++ rest) μ τ := by
  intro p l e R s m args below meth c D ad ac X K cells slots H locs ls hC hH hL hK
  obtain ⟨m1, m2, m4, m5, m6, m7⟩ := hM
  obtain ⟨hx, hcc, hml, hr, hlocks, hown, hts, ⟨r1, r2, r3, r4⟩, hKK, hDj, hSt⟩ := id hC
  have hfix : CallFix p m c cc nL s args zT own := ⟨hx, hcc, hml, hown, hts⟩
  have hcw : va_CN R s args own idx y RX10 cc' nL' rt' (Cond.code y cc' nL' rt' :: zT) (zRm k) 0 0 n :=
    va_cnB n hts (zGood m5) rfl rfl rfl (hSt.1 _ m1) (hts _ m4) m6 ⟨show k + 1 ≤ R.frames by omega, show 8 + (nL' + 11) + 44 * k ≤ R.locals by omega⟩
  refine z_run (va_runSN (As := as.map (tr ad)) (rest := rest.map (tr ad)) hfix (hZ l D ad ac X hDj hH.2.2) ⟨hcw, hts _ m2, trivial⟩ ⟨z_blind, fun U hU hW1 => ⟨rfl, by rw [hU]; exact hH.1, va_K.moved hW1.alike hKK, hSt.go hW1 hU hH.2.1⟩⟩ rfl (by rw [List.length_map]; exact hn) hL.1 (by simp) (lv_room (by rw [z_cat]; exact hW)) hd ⟨r3, r4⟩) hH.2.1 (fun r μ' τ' H' locs' hq hH' => ?_)
  rw [← z_app]
  exact hq p l e R s m args below meth c D ad ac X K cells slots H' locs' ls hC hH' hL hK
/-- Math.max, Math.min, System.arraycopy -/
def zCM (own : String) (idx : Nat) (y : MethodName) (b : ByteArray) : Prop := Cond.methodLink own idx y ∈ zT ∧ Cond.static y ∈ zT ∧ Cond.initialized "java/lang/Math" ∈ zT ∧ Cond.code y b 2 (some .int) ∈ zT
theorem Zw_max {idx : Nat} {x y : Int32} (hM : zCM own idx Lib.Math.max.name Lib.Math.max.code) (hd : decode cc pc = .ok (.invokestatic idx, 3)) (hk : 1 ≤ d) (hW : (st.map fun v => v.category).sum ≤ 8) (h : Zw d own cc nL rt Q (pc + 3) L (.int (if x < y then y else x) :: st) μ τ) : Zw d own cc nL rt Q pc L (.int y :: .int x :: st) μ τ := by
  intro p l e R s m args below meth c D ad ac X K cells slots H locs ls hC hH hL hK
  obtain ⟨m1, m2, m4, m5⟩ := hM
  obtain ⟨hx, hcc, hml, hr, hlocks, hown, hts, ⟨r1, r2, r3, r4⟩, hKK, hDj, hSt⟩ := id hC
  exact va_mmax hx hcc (hml.trans hL.1.symm) hown (hts _ m1) (hts _ m2) (hts _ m4) (hts _ m5) (by omega) (by rw [z_cat]; omega) r3 r4 hd (h p l e R s m args below meth c D ad ac X K cells slots H locs ls hC hH hL hK)
theorem Zw_min {idx : Nat} {x y : Int32} (hM : zCM own idx Lib.Math.min.name Lib.Math.min.code) (hd : decode cc pc = .ok (.invokestatic idx, 3)) (hk : 1 ≤ d) (hW : (st.map fun v => v.category).sum ≤ 8) (h : Zw d own cc nL rt Q (pc + 3) L (.int (if y < x then y else x) :: st) μ τ) : Zw d own cc nL rt Q pc L (.int y :: .int x :: st) μ τ := by
  intro p l e R s m args below meth c D ad ac X K cells slots H locs ls hC hH hL hK
  obtain ⟨m1, m2, m4, m5⟩ := hM
  obtain ⟨hx, hcc, hml, hr, hlocks, hown, hts, ⟨r1, r2, r3, r4⟩, hKK, hDj, hSt⟩ := id hC
  exact va_mmin hx hcc (hml.trans hL.1.symm) hown (hts _ m1) (hts _ m2) (hts _ m4) (hts _ m5) (by omega) (by rw [z_cat]; omega) r3 r4 hd (h p l e R s m args below meth c D ad ac X K cells slots H locs ls hC hH hL hK)
def zCpA (own : String) (idx : Nat) : Prop := Cond.methodLink own idx arraycopyName ∈ zT ∧ Cond.native arraycopyName ∈ zT ∧ Cond.static arraycopyName ∈ zT ∧ Cond.initialized "java/lang/System" ∈ zT
theorem Zw_copy {idx k0 k1 n0 n1 : Nat} {sp dp n : Int32} (hM : zCpA own idx) (hd : decode cc pc = .ok (.invokestatic idx, 3)) (hk : 1 ≤ d) (hW : (st.map fun v => v.category).sum ≤ 8) (hk0 : k0 < 78) (hs0 : zSh k0 = .inr (.inl (.int, n0))) (hk1 : k1 < 78) (hs1 : zSh k1 = .inr (.inl (.int, n1))) (h1 : ¬ sp < 0) (h2 : ¬ dp < 0) (h3 : ¬ n < 0) (h4 : sp.toNatClampNeg + n.toNatClampNeg ≤ n0) (h5 : dp.toNatClampNeg + n.toNatClampNeg ≤ n1)
    (h : Zw d own cc nL rt Q (pc + 3) L st (zar μ k1 (va_cpy (μ k0) (μ k1) sp.toNatClampNeg dp.toNatClampNeg n.toNatClampNeg)) τ) : Zw d own cc nL rt Q pc L (.int n :: .int dp :: .ref k1 :: .int sp :: .ref k0 :: st) μ τ := by
  intro p l e R s m args below meth c D ad ac X K cells slots H locs ls hC hH hL hK
  obtain ⟨m1, m2, m4, m5⟩ := hM
  obtain ⟨hx, hcc, hml, hr, hlocks, hown, hts, ⟨r1, r2, r3, r4⟩, hKK, hDj, hSt⟩ := id hC
  have hnf : nativeFrameWords "java/lang/System" "arraycopy" 5 ≤ 20 := by decide +kernel
  refine va_copyi (A := zA ad) (ty := .int) hx hcc (hml.trans hL.1.symm) hown (hts _ m1) (hts _ m2) (hts _ m4) (hts _ m5) hKK hH.1 (zW_D hDj _ _ _) hH.2.1 k0 k1 k0 k1 (zW_ints hk0 hs0) (zW_ints hk1 hs1) (zTs_at hk0 hs0) (zTs_at hk1 hs1) rfl h1 h2 h3 h4 h5 (fun i hi => rfl) (by omega) (by rw [z_cat]; omega) hd (fun H1 locs1 hP1 hD1 hS1 => ?_)
  have eq0 : (zW ad ac μ τ).set k1 (ad k1, .inl (ac k1, n1, .inl (va_cpy (μ k0) (μ k1) sp.toNatClampNeg dp.toNatClampNeg n.toNatClampNeg))) = zW ad ac (zar μ k1 (va_cpy (μ k0) (μ k1) sp.toNatClampNeg dp.toNatClampNeg n.toNatClampNeg)) τ := by
    refine zW_set (fun k' h1 h2 => by rw [zar_ne h2]) ?_
    rw [hs1, zar_eq]
    rfl
  rw [eq0] at hP1
  refine h p l e R s m args below meth c D ad ac X K cells slots H1 locs1 ls hC ⟨hP1, hS1, ?_⟩ hL hK
  have hk90 : (90 : Nat) ≠ k1 := by omega
  have hk91 : (91 : Nat) ≠ k1 := by omega
  exact ⟨by rw [zar_ne hk90]; exact hH.2.2.1, by rw [zar_ne hk91]; exact hH.2.2.2⟩
end ZC
theorem Zw_V0 {d : Nat} {own : String} {cc : ByteArray} {nL : Nat} {rt : Option FieldType} {Q : zQ} {pc : Nat} {L rest : List Value} {μ : zMu} {τ : Int64} {idx k ci b : Nat} {y : MethodName} {cc' : ByteArray} {nL' : Nat} {rt' : Option FieldType} {cs : List Nat} {T : u_T} {N : Nat} (hM : zCV own idx y cc' nL' rt' 0) (hd : decode cc pc = .ok (.invokevirtual idx, 3)) (hk : k + 1 ≤ d) (hb : b < 78) (hs : zSh b = .inl (ci, cs)) (hci : vwCl[ci]? = some (y.cls, T, N)) (hW : (rest.map fun v => v.category).sum ≤ 8) (hZ : Zc k y cc' nL' rt' (.ref b :: []) μ τ (fun r μ' τ' => Zw d own cc nL rt Q (pc + 3) L (r.toList ++ rest) μ' τ')) : Zw d own cc nL rt Q pc L (.ref b :: rest) μ τ := Zw_invV [] rest hM hd hk hb hs hci rfl hW hZ
theorem Zw_V1 {d : Nat} {own : String} {cc : ByteArray} {nL : Nat} {rt : Option FieldType} {Q : zQ} {pc : Nat} {L rest : List Value} {μ : zMu} {τ : Int64} {idx k ci b : Nat} {y : MethodName} {cc' : ByteArray} {nL' : Nat} {rt' : Option FieldType} {cs : List Nat} {T : u_T} {N : Nat} {a1 : Value} (hM : zCV own idx y cc' nL' rt' 1) (hd : decode cc pc = .ok (.invokevirtual idx, 3)) (hk : k + 1 ≤ d) (hb : b < 78) (hs : zSh b = .inl (ci, cs)) (hci : vwCl[ci]? = some (y.cls, T, N)) (hW : (rest.map fun v => v.category).sum ≤ 8) (hZ : Zc k y cc' nL' rt' (.ref b :: [a1]) μ τ (fun r μ' τ' => Zw d own cc nL rt Q (pc + 3) L (r.toList ++ rest) μ' τ')) : Zw d own cc nL rt Q pc L (a1 :: .ref b :: rest) μ τ := Zw_invV [a1] rest hM hd hk hb hs hci rfl hW hZ
theorem Zw_S1 {d : Nat} {own : String} {cc : ByteArray} {nL : Nat} {rt : Option FieldType} {Q : zQ} {pc : Nat} {L rest : List Value} {μ : zMu} {τ : Int64} {idx k : Nat} {y : MethodName} {cc' : ByteArray} {nL' : Nat} {rt' : Option FieldType} {a1 : Value} (hM : zCS own idx y cc' nL' rt' 1) (hd : decode cc pc = .ok (.invokestatic idx, 3)) (hk : k + 1 ≤ d) (hW : (rest.map fun v => v.category).sum ≤ 8) (hZ : Zc k y cc' nL' rt' [a1] μ τ (fun r μ' τ' => Zw d own cc nL rt Q (pc + 3) L (r.toList ++ rest) μ' τ')) : Zw d own cc nL rt Q pc L (a1 :: rest) μ τ := Zw_invS [a1] rest hM hd hk rfl hW hZ
theorem Zw_N1 {d : Nat} {own : String} {cc : ByteArray} {nL : Nat} {rt : Option FieldType} {Q : zQ} {pc : Nat} {L rest : List Value} {μ : zMu} {τ : Int64} {idx k : Nat} {y : MethodName} {cc' : ByteArray} {nL' : Nat} {rt' : Option FieldType} {a1 : Value} (hM : zCN own idx y cc' nL' rt' 1) (hd : decode cc pc = .ok (.invokestatic idx, 3)) (hk : k + 1 ≤ d) (hW : (rest.map fun v => v.category).sum ≤ 8) (hZ : Zc k y cc' nL' rt' [a1] μ τ (fun r μ' τ' => Zw d own cc nL rt Q (pc + 3) L (r.toList ++ rest) μ' τ')) : Zw d own cc nL rt Q pc L (a1 :: rest) μ τ := Zw_invN [a1] rest hM hd hk rfl hW hZ
theorem Zw_V2 {d : Nat} {own : String} {cc : ByteArray} {nL : Nat} {rt : Option FieldType} {Q : zQ} {pc : Nat} {L rest : List Value} {μ : zMu} {τ : Int64} {idx k ci b : Nat} {y : MethodName} {cc' : ByteArray} {nL' : Nat} {rt' : Option FieldType} {cs : List Nat} {T : u_T} {N : Nat} {a1 a2 : Value} (hM : zCV own idx y cc' nL' rt' 2) (hd : decode cc pc = .ok (.invokevirtual idx, 3)) (hk : k + 1 ≤ d) (hb : b < 78) (hs : zSh b = .inl (ci, cs)) (hci : vwCl[ci]? = some (y.cls, T, N)) (hW : (rest.map fun v => v.category).sum ≤ 8) (hZ : Zc k y cc' nL' rt' (.ref b :: [a1, a2]) μ τ (fun r μ' τ' => Zw d own cc nL rt Q (pc + 3) L (r.toList ++ rest) μ' τ')) : Zw d own cc nL rt Q pc L (a2 :: a1 :: .ref b :: rest) μ τ := Zw_invV [a1, a2] rest hM hd hk hb hs hci rfl hW hZ
theorem Zw_S2 {d : Nat} {own : String} {cc : ByteArray} {nL : Nat} {rt : Option FieldType} {Q : zQ} {pc : Nat} {L rest : List Value} {μ : zMu} {τ : Int64} {idx k : Nat} {y : MethodName} {cc' : ByteArray} {nL' : Nat} {rt' : Option FieldType} {a1 a2 : Value} (hM : zCS own idx y cc' nL' rt' 2) (hd : decode cc pc = .ok (.invokestatic idx, 3)) (hk : k + 1 ≤ d) (hW : (rest.map fun v => v.category).sum ≤ 8) (hZ : Zc k y cc' nL' rt' [a1, a2] μ τ (fun r μ' τ' => Zw d own cc nL rt Q (pc + 3) L (r.toList ++ rest) μ' τ')) : Zw d own cc nL rt Q pc L (a2 :: a1 :: rest) μ τ := Zw_invS [a1, a2] rest hM hd hk rfl hW hZ
theorem Zw_N2 {d : Nat} {own : String} {cc : ByteArray} {nL : Nat} {rt : Option FieldType} {Q : zQ} {pc : Nat} {L rest : List Value} {μ : zMu} {τ : Int64} {idx k : Nat} {y : MethodName} {cc' : ByteArray} {nL' : Nat} {rt' : Option FieldType} {a1 a2 : Value} (hM : zCN own idx y cc' nL' rt' 2) (hd : decode cc pc = .ok (.invokestatic idx, 3)) (hk : k + 1 ≤ d) (hW : (rest.map fun v => v.category).sum ≤ 8) (hZ : Zc k y cc' nL' rt' [a1, a2] μ τ (fun r μ' τ' => Zw d own cc nL rt Q (pc + 3) L (r.toList ++ rest) μ' τ')) : Zw d own cc nL rt Q pc L (a2 :: a1 :: rest) μ τ := Zw_invN [a1, a2] rest hM hd hk rfl hW hZ
theorem Zw_V3 {d : Nat} {own : String} {cc : ByteArray} {nL : Nat} {rt : Option FieldType} {Q : zQ} {pc : Nat} {L rest : List Value} {μ : zMu} {τ : Int64} {idx k ci b : Nat} {y : MethodName} {cc' : ByteArray} {nL' : Nat} {rt' : Option FieldType} {cs : List Nat} {T : u_T} {N : Nat} {a1 a2 a3 : Value} (hM : zCV own idx y cc' nL' rt' 3) (hd : decode cc pc = .ok (.invokevirtual idx, 3)) (hk : k + 1 ≤ d) (hb : b < 78) (hs : zSh b = .inl (ci, cs)) (hci : vwCl[ci]? = some (y.cls, T, N)) (hW : (rest.map fun v => v.category).sum ≤ 8) (hZ : Zc k y cc' nL' rt' (.ref b :: [a1, a2, a3]) μ τ (fun r μ' τ' => Zw d own cc nL rt Q (pc + 3) L (r.toList ++ rest) μ' τ')) : Zw d own cc nL rt Q pc L (a3 :: a2 :: a1 :: .ref b :: rest) μ τ := Zw_invV [a1, a2, a3] rest hM hd hk hb hs hci rfl hW hZ
theorem Zw_S3 {d : Nat} {own : String} {cc : ByteArray} {nL : Nat} {rt : Option FieldType} {Q : zQ} {pc : Nat} {L rest : List Value} {μ : zMu} {τ : Int64} {idx k : Nat} {y : MethodName} {cc' : ByteArray} {nL' : Nat} {rt' : Option FieldType} {a1 a2 a3 : Value} (hM : zCS own idx y cc' nL' rt' 3) (hd : decode cc pc = .ok (.invokestatic idx, 3)) (hk : k + 1 ≤ d) (hW : (rest.map fun v => v.category).sum ≤ 8) (hZ : Zc k y cc' nL' rt' [a1, a2, a3] μ τ (fun r μ' τ' => Zw d own cc nL rt Q (pc + 3) L (r.toList ++ rest) μ' τ')) : Zw d own cc nL rt Q pc L (a3 :: a2 :: a1 :: rest) μ τ := Zw_invS [a1, a2, a3] rest hM hd hk rfl hW hZ
theorem Zw_N3 {d : Nat} {own : String} {cc : ByteArray} {nL : Nat} {rt : Option FieldType} {Q : zQ} {pc : Nat} {L rest : List Value} {μ : zMu} {τ : Int64} {idx k : Nat} {y : MethodName} {cc' : ByteArray} {nL' : Nat} {rt' : Option FieldType} {a1 a2 a3 : Value} (hM : zCN own idx y cc' nL' rt' 3) (hd : decode cc pc = .ok (.invokestatic idx, 3)) (hk : k + 1 ≤ d) (hW : (rest.map fun v => v.category).sum ≤ 8) (hZ : Zc k y cc' nL' rt' [a1, a2, a3] μ τ (fun r μ' τ' => Zw d own cc nL rt Q (pc + 3) L (r.toList ++ rest) μ' τ')) : Zw d own cc nL rt Q pc L (a3 :: a2 :: a1 :: rest) μ τ := Zw_invN [a1, a2, a3] rest hM hd hk rfl hW hZ
theorem Zw_V4 {d : Nat} {own : String} {cc : ByteArray} {nL : Nat} {rt : Option FieldType} {Q : zQ} {pc : Nat} {L rest : List Value} {μ : zMu} {τ : Int64} {idx k ci b : Nat} {y : MethodName} {cc' : ByteArray} {nL' : Nat} {rt' : Option FieldType} {cs : List Nat} {T : u_T} {N : Nat} {a1 a2 a3 a4 : Value} (hM : zCV own idx y cc' nL' rt' 4) (hd : decode cc pc = .ok (.invokevirtual idx, 3)) (hk : k + 1 ≤ d) (hb : b < 78) (hs : zSh b = .inl (ci, cs)) (hci : vwCl[ci]? = some (y.cls, T, N)) (hW : (rest.map fun v => v.category).sum ≤ 8) (hZ : Zc k y cc' nL' rt' (.ref b :: [a1, a2, a3, a4]) μ τ (fun r μ' τ' => Zw d own cc nL rt Q (pc + 3) L (r.toList ++ rest) μ' τ')) : Zw d own cc nL rt Q pc L (a4 :: a3 :: a2 :: a1 :: .ref b :: rest) μ τ := Zw_invV [a1, a2, a3, a4] rest hM hd hk hb hs hci rfl hW hZ
theorem Zw_S4 {d : Nat} {own : String} {cc : ByteArray} {nL : Nat} {rt : Option FieldType} {Q : zQ} {pc : Nat} {L rest : List Value} {μ : zMu} {τ : Int64} {idx k : Nat} {y : MethodName} {cc' : ByteArray} {nL' : Nat} {rt' : Option FieldType} {a1 a2 a3 a4 : Value} (hM : zCS own idx y cc' nL' rt' 4) (hd : decode cc pc = .ok (.invokestatic idx, 3)) (hk : k + 1 ≤ d) (hW : (rest.map fun v => v.category).sum ≤ 8) (hZ : Zc k y cc' nL' rt' [a1, a2, a3, a4] μ τ (fun r μ' τ' => Zw d own cc nL rt Q (pc + 3) L (r.toList ++ rest) μ' τ')) : Zw d own cc nL rt Q pc L (a4 :: a3 :: a2 :: a1 :: rest) μ τ := Zw_invS [a1, a2, a3, a4] rest hM hd hk rfl hW hZ
theorem Zw_N4 {d : Nat} {own : String} {cc : ByteArray} {nL : Nat} {rt : Option FieldType} {Q : zQ} {pc : Nat} {L rest : List Value} {μ : zMu} {τ : Int64} {idx k : Nat} {y : MethodName} {cc' : ByteArray} {nL' : Nat} {rt' : Option FieldType} {a1 a2 a3 a4 : Value} (hM : zCN own idx y cc' nL' rt' 4) (hd : decode cc pc = .ok (.invokestatic idx, 3)) (hk : k + 1 ≤ d) (hW : (rest.map fun v => v.category).sum ≤ 8) (hZ : Zc k y cc' nL' rt' [a1, a2, a3, a4] μ τ (fun r μ' τ' => Zw d own cc nL rt Q (pc + 3) L (r.toList ++ rest) μ' τ')) : Zw d own cc nL rt Q pc L (a4 :: a3 :: a2 :: a1 :: rest) μ τ := Zw_invN [a1, a2, a3, a4] rest hM hd hk rfl hW hZ
theorem Zw_V5 {d : Nat} {own : String} {cc : ByteArray} {nL : Nat} {rt : Option FieldType} {Q : zQ} {pc : Nat} {L rest : List Value} {μ : zMu} {τ : Int64} {idx k ci b : Nat} {y : MethodName} {cc' : ByteArray} {nL' : Nat} {rt' : Option FieldType} {cs : List Nat} {T : u_T} {N : Nat} {a1 a2 a3 a4 a5 : Value} (hM : zCV own idx y cc' nL' rt' 5) (hd : decode cc pc = .ok (.invokevirtual idx, 3)) (hk : k + 1 ≤ d) (hb : b < 78) (hs : zSh b = .inl (ci, cs)) (hci : vwCl[ci]? = some (y.cls, T, N)) (hW : (rest.map fun v => v.category).sum ≤ 8) (hZ : Zc k y cc' nL' rt' (.ref b :: [a1, a2, a3, a4, a5]) μ τ (fun r μ' τ' => Zw d own cc nL rt Q (pc + 3) L (r.toList ++ rest) μ' τ')) : Zw d own cc nL rt Q pc L (a5 :: a4 :: a3 :: a2 :: a1 :: .ref b :: rest) μ τ := Zw_invV [a1, a2, a3, a4, a5] rest hM hd hk hb hs hci rfl hW hZ
theorem Zw_S5 {d : Nat} {own : String} {cc : ByteArray} {nL : Nat} {rt : Option FieldType} {Q : zQ} {pc : Nat} {L rest : List Value} {μ : zMu} {τ : Int64} {idx k : Nat} {y : MethodName} {cc' : ByteArray} {nL' : Nat} {rt' : Option FieldType} {a1 a2 a3 a4 a5 : Value} (hM : zCS own idx y cc' nL' rt' 5) (hd : decode cc pc = .ok (.invokestatic idx, 3)) (hk : k + 1 ≤ d) (hW : (rest.map fun v => v.category).sum ≤ 8) (hZ : Zc k y cc' nL' rt' [a1, a2, a3, a4, a5] μ τ (fun r μ' τ' => Zw d own cc nL rt Q (pc + 3) L (r.toList ++ rest) μ' τ')) : Zw d own cc nL rt Q pc L (a5 :: a4 :: a3 :: a2 :: a1 :: rest) μ τ := Zw_invS [a1, a2, a3, a4, a5] rest hM hd hk rfl hW hZ
theorem Zw_N5 {d : Nat} {own : String} {cc : ByteArray} {nL : Nat} {rt : Option FieldType} {Q : zQ} {pc : Nat} {L rest : List Value} {μ : zMu} {τ : Int64} {idx k : Nat} {y : MethodName} {cc' : ByteArray} {nL' : Nat} {rt' : Option FieldType} {a1 a2 a3 a4 a5 : Value} (hM : zCN own idx y cc' nL' rt' 5) (hd : decode cc pc = .ok (.invokestatic idx, 3)) (hk : k + 1 ≤ d) (hW : (rest.map fun v => v.category).sum ≤ 8) (hZ : Zc k y cc' nL' rt' [a1, a2, a3, a4, a5] μ τ (fun r μ' τ' => Zw d own cc nL rt Q (pc + 3) L (r.toList ++ rest) μ' τ')) : Zw d own cc nL rt Q pc L (a5 :: a4 :: a3 :: a2 :: a1 :: rest) μ τ := Zw_invN [a1, a2, a3, a4, a5] rest hM hd hk rfl hW hZ
theorem Zw_V6 {d : Nat} {own : String} {cc : ByteArray} {nL : Nat} {rt : Option FieldType} {Q : zQ} {pc : Nat} {L rest : List Value} {μ : zMu} {τ : Int64} {idx k ci b : Nat} {y : MethodName} {cc' : ByteArray} {nL' : Nat} {rt' : Option FieldType} {cs : List Nat} {T : u_T} {N : Nat} {a1 a2 a3 a4 a5 a6 : Value} (hM : zCV own idx y cc' nL' rt' 6) (hd : decode cc pc = .ok (.invokevirtual idx, 3)) (hk : k + 1 ≤ d) (hb : b < 78) (hs : zSh b = .inl (ci, cs)) (hci : vwCl[ci]? = some (y.cls, T, N)) (hW : (rest.map fun v => v.category).sum ≤ 8) (hZ : Zc k y cc' nL' rt' (.ref b :: [a1, a2, a3, a4, a5, a6]) μ τ (fun r μ' τ' => Zw d own cc nL rt Q (pc + 3) L (r.toList ++ rest) μ' τ')) : Zw d own cc nL rt Q pc L (a6 :: a5 :: a4 :: a3 :: a2 :: a1 :: .ref b :: rest) μ τ := Zw_invV [a1, a2, a3, a4, a5, a6] rest hM hd hk hb hs hci rfl hW hZ
theorem Zw_S6 {d : Nat} {own : String} {cc : ByteArray} {nL : Nat} {rt : Option FieldType} {Q : zQ} {pc : Nat} {L rest : List Value} {μ : zMu} {τ : Int64} {idx k : Nat} {y : MethodName} {cc' : ByteArray} {nL' : Nat} {rt' : Option FieldType} {a1 a2 a3 a4 a5 a6 : Value} (hM : zCS own idx y cc' nL' rt' 6) (hd : decode cc pc = .ok (.invokestatic idx, 3)) (hk : k + 1 ≤ d) (hW : (rest.map fun v => v.category).sum ≤ 8) (hZ : Zc k y cc' nL' rt' [a1, a2, a3, a4, a5, a6] μ τ (fun r μ' τ' => Zw d own cc nL rt Q (pc + 3) L (r.toList ++ rest) μ' τ')) : Zw d own cc nL rt Q pc L (a6 :: a5 :: a4 :: a3 :: a2 :: a1 :: rest) μ τ := Zw_invS [a1, a2, a3, a4, a5, a6] rest hM hd hk rfl hW hZ
theorem Zw_N6 {d : Nat} {own : String} {cc : ByteArray} {nL : Nat} {rt : Option FieldType} {Q : zQ} {pc : Nat} {L rest : List Value} {μ : zMu} {τ : Int64} {idx k : Nat} {y : MethodName} {cc' : ByteArray} {nL' : Nat} {rt' : Option FieldType} {a1 a2 a3 a4 a5 a6 : Value} (hM : zCN own idx y cc' nL' rt' 6) (hd : decode cc pc = .ok (.invokestatic idx, 3)) (hk : k + 1 ≤ d) (hW : (rest.map fun v => v.category).sum ≤ 8) (hZ : Zc k y cc' nL' rt' [a1, a2, a3, a4, a5, a6] μ τ (fun r μ' τ' => Zw d own cc nL rt Q (pc + 3) L (r.toList ++ rest) μ' τ')) : Zw d own cc nL rt Q pc L (a6 :: a5 :: a4 :: a3 :: a2 :: a1 :: rest) μ τ := Zw_invN [a1, a2, a3, a4, a5, a6] rest hM hd hk rfl hW hZ
theorem Zw_V7 {d : Nat} {own : String} {cc : ByteArray} {nL : Nat} {rt : Option FieldType} {Q : zQ} {pc : Nat} {L rest : List Value} {μ : zMu} {τ : Int64} {idx k ci b : Nat} {y : MethodName} {cc' : ByteArray} {nL' : Nat} {rt' : Option FieldType} {cs : List Nat} {T : u_T} {N : Nat} {a1 a2 a3 a4 a5 a6 a7 : Value} (hM : zCV own idx y cc' nL' rt' 7) (hd : decode cc pc = .ok (.invokevirtual idx, 3)) (hk : k + 1 ≤ d) (hb : b < 78) (hs : zSh b = .inl (ci, cs)) (hci : vwCl[ci]? = some (y.cls, T, N)) (hW : (rest.map fun v => v.category).sum ≤ 8) (hZ : Zc k y cc' nL' rt' (.ref b :: [a1, a2, a3, a4, a5, a6, a7]) μ τ (fun r μ' τ' => Zw d own cc nL rt Q (pc + 3) L (r.toList ++ rest) μ' τ')) : Zw d own cc nL rt Q pc L (a7 :: a6 :: a5 :: a4 :: a3 :: a2 :: a1 :: .ref b :: rest) μ τ := Zw_invV [a1, a2, a3, a4, a5, a6, a7] rest hM hd hk hb hs hci rfl hW hZ
theorem Zw_S7 {d : Nat} {own : String} {cc : ByteArray} {nL : Nat} {rt : Option FieldType} {Q : zQ} {pc : Nat} {L rest : List Value} {μ : zMu} {τ : Int64} {idx k : Nat} {y : MethodName} {cc' : ByteArray} {nL' : Nat} {rt' : Option FieldType} {a1 a2 a3 a4 a5 a6 a7 : Value} (hM : zCS own idx y cc' nL' rt' 7) (hd : decode cc pc = .ok (.invokestatic idx, 3)) (hk : k + 1 ≤ d) (hW : (rest.map fun v => v.category).sum ≤ 8) (hZ : Zc k y cc' nL' rt' [a1, a2, a3, a4, a5, a6, a7] μ τ (fun r μ' τ' => Zw d own cc nL rt Q (pc + 3) L (r.toList ++ rest) μ' τ')) : Zw d own cc nL rt Q pc L (a7 :: a6 :: a5 :: a4 :: a3 :: a2 :: a1 :: rest) μ τ := Zw_invS [a1, a2, a3, a4, a5, a6, a7] rest hM hd hk rfl hW hZ
theorem Zw_N7 {d : Nat} {own : String} {cc : ByteArray} {nL : Nat} {rt : Option FieldType} {Q : zQ} {pc : Nat} {L rest : List Value} {μ : zMu} {τ : Int64} {idx k : Nat} {y : MethodName} {cc' : ByteArray} {nL' : Nat} {rt' : Option FieldType} {a1 a2 a3 a4 a5 a6 a7 : Value} (hM : zCN own idx y cc' nL' rt' 7) (hd : decode cc pc = .ok (.invokestatic idx, 3)) (hk : k + 1 ≤ d) (hW : (rest.map fun v => v.category).sum ≤ 8) (hZ : Zc k y cc' nL' rt' [a1, a2, a3, a4, a5, a6, a7] μ τ (fun r μ' τ' => Zw d own cc nL rt Q (pc + 3) L (r.toList ++ rest) μ' τ')) : Zw d own cc nL rt Q pc L (a7 :: a6 :: a5 :: a4 :: a3 :: a2 :: a1 :: rest) μ τ := Zw_invN [a1, a2, a3, a4, a5, a6, a7] rest hM hd hk rfl hW hZ
theorem Zw_V8 {d : Nat} {own : String} {cc : ByteArray} {nL : Nat} {rt : Option FieldType} {Q : zQ} {pc : Nat} {L rest : List Value} {μ : zMu} {τ : Int64} {idx k ci b : Nat} {y : MethodName} {cc' : ByteArray} {nL' : Nat} {rt' : Option FieldType} {cs : List Nat} {T : u_T} {N : Nat} {a1 a2 a3 a4 a5 a6 a7 a8 : Value} (hM : zCV own idx y cc' nL' rt' 8) (hd : decode cc pc = .ok (.invokevirtual idx, 3)) (hk : k + 1 ≤ d) (hb : b < 78) (hs : zSh b = .inl (ci, cs)) (hci : vwCl[ci]? = some (y.cls, T, N)) (hW : (rest.map fun v => v.category).sum ≤ 8) (hZ : Zc k y cc' nL' rt' (.ref b :: [a1, a2, a3, a4, a5, a6, a7, a8]) μ τ (fun r μ' τ' => Zw d own cc nL rt Q (pc + 3) L (r.toList ++ rest) μ' τ')) : Zw d own cc nL rt Q pc L (a8 :: a7 :: a6 :: a5 :: a4 :: a3 :: a2 :: a1 :: .ref b :: rest) μ τ := Zw_invV [a1, a2, a3, a4, a5, a6, a7, a8] rest hM hd hk hb hs hci rfl hW hZ
theorem Zw_S8 {d : Nat} {own : String} {cc : ByteArray} {nL : Nat} {rt : Option FieldType} {Q : zQ} {pc : Nat} {L rest : List Value} {μ : zMu} {τ : Int64} {idx k : Nat} {y : MethodName} {cc' : ByteArray} {nL' : Nat} {rt' : Option FieldType} {a1 a2 a3 a4 a5 a6 a7 a8 : Value} (hM : zCS own idx y cc' nL' rt' 8) (hd : decode cc pc = .ok (.invokestatic idx, 3)) (hk : k + 1 ≤ d) (hW : (rest.map fun v => v.category).sum ≤ 8) (hZ : Zc k y cc' nL' rt' [a1, a2, a3, a4, a5, a6, a7, a8] μ τ (fun r μ' τ' => Zw d own cc nL rt Q (pc + 3) L (r.toList ++ rest) μ' τ')) : Zw d own cc nL rt Q pc L (a8 :: a7 :: a6 :: a5 :: a4 :: a3 :: a2 :: a1 :: rest) μ τ := Zw_invS [a1, a2, a3, a4, a5, a6, a7, a8] rest hM hd hk rfl hW hZ
theorem Zw_N8 {d : Nat} {own : String} {cc : ByteArray} {nL : Nat} {rt : Option FieldType} {Q : zQ} {pc : Nat} {L rest : List Value} {μ : zMu} {τ : Int64} {idx k : Nat} {y : MethodName} {cc' : ByteArray} {nL' : Nat} {rt' : Option FieldType} {a1 a2 a3 a4 a5 a6 a7 a8 : Value} (hM : zCN own idx y cc' nL' rt' 8) (hd : decode cc pc = .ok (.invokestatic idx, 3)) (hk : k + 1 ≤ d) (hW : (rest.map fun v => v.category).sum ≤ 8) (hZ : Zc k y cc' nL' rt' [a1, a2, a3, a4, a5, a6, a7, a8] μ τ (fun r μ' τ' => Zw d own cc nL rt Q (pc + 3) L (r.toList ++ rest) μ' τ')) : Zw d own cc nL rt Q pc L (a8 :: a7 :: a6 :: a5 :: a4 :: a3 :: a2 :: a1 :: rest) μ τ := Zw_invN [a1, a2, a3, a4, a5, a6, a7, a8] rest hM hd hk rfl hW hZ
