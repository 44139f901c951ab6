/-! THE WORLD BY POSITIONS: 0..60 the class's objects and arrays, 61..77 the reference's; 80..83 static tables, 84.. texts, 90 the script. What they hold: mu (position, slot) and tau (the one long). -/
def zT : List Cond := lw_tbl.filter goodWord
theorem zT_good : GoodIn zT zT := fun w h => ⟨h, good_of_word (List.mem_filter.mp h).2⟩
theorem zT_mem {w : Cond} (i : Nat) (h : lw_tbl[i]? = some w) (hg : goodWord w = true) : w ∈ zT := List.mem_filter.mpr ⟨List.mem_of_getElem? h, hg⟩
abbrev zMu : Type := Nat → Nat → Int32
abbrev zXs : Type := Nat × (Nat → Int32)
def tr (ad : Nat → Nat) (v : Value) : Value := match v with
  | .ref k => .ref (ad k)
  | v => v
theorem tr_cat (ad : Nat → Nat) (v : Value) : (tr ad v).category = v.category := by cases v <;> rfl
/-- codes of fields: 0 an int, 1 the long, 2 a moving reference (to an array), c + 3 the position c -/
def zfv (row : Nat → Int32) (τ : Int64) (j : Nat) : Nat → Value
  | 0 => .int (row j)
  | 1 => .long τ
  | 2 => .ref (row j).toNatClampNeg
  | c + 3 => .ref c
def zfl (row : Nat → Int32) (τ : Int64) (cs : List Nat) : List Value := cs.mapIdx (fun j c => zfv row τ j c)
theorem zfl_get (row : Nat → Int32) (τ : Int64) (cs : List Nat) (j : Nat) : (zfl row τ cs)[j]? = (cs[j]?).map (zfv row τ j) := by
  simp [zfl]
theorem zfl_len (row : Nat → Int32) (τ : Int64) (cs : List Nat) : (zfl row τ cs).length = cs.length := by simp [zfl]
abbrev zShape : Type := (Nat × List Nat) ⊕ ((FieldType × Nat) ⊕ (String × List Nat))
def zFinder : zShape := .inl (3, [0, 0, 0, 0])
def zInts (n : Nat) : zShape := .inr (.inl (.int, n))
def zSh : Nat → zShape
  | 0 => .inl (10, [4, 12, 20, 42, 45, 47, 51, 54, 55, 0])
  | 1 => .inl (2, [5, 6, 0, 0, 0, 0, 0, 0])
  | 2 => zInts 8
  | 3 => .inr (.inr ("DukeIsLost$Finder", [4, 5, 6, 7, 8]))
  | 4 => zFinder
  | 5 => zFinder
  | 6 => zFinder
  | 7 => zFinder
  | 8 => zFinder
  | 9 => .inl (2, [13, 14, 0, 0, 0, 0, 0, 0])
  | 10 => zInts 8
  | 11 => .inr (.inr ("DukeIsLost$Finder", [12, 13, 14, 15, 16]))
  | 12 => zFinder
  | 13 => zFinder
  | 14 => zFinder
  | 15 => zFinder
  | 16 => zFinder
  | 17 => .inl (0, [21, 22, 23, 0])
  | 18 => .inr (.inr ("DukeIsLost$Text", [21, 24, 27, 30, 33, 36]))
  | 19 => zInts 6
  | 20 => zInts 64
  | 21 => .inl (8, [25, 26, 0, 0])
  | 22 => zInts 160
  | 23 => zInts 4
  | 24 => .inl (8, [28, 29, 0, 0])
  | 25 => zInts 160
  | 26 => zInts 4
  | 27 => .inl (8, [31, 32, 0, 0])
  | 28 => zInts 160
  | 29 => zInts 4
  | 30 => .inl (8, [34, 35, 0, 0])
  | 31 => zInts 160
  | 32 => zInts 4
  | 33 => .inl (8, [37, 38, 0, 0])
  | 34 => zInts 160
  | 35 => zInts 4
  | 36 => .inl (8, [40, 41, 0, 0])
  | 37 => zInts 160
  | 38 => zInts 4
  | 39 => .inl (6, [43, 0, 0, 0, 0, 0, 44, 0, 0])
  | 40 => zInts 160
  | 41 => zInts 64
  | 42 => .inl (9, [4, 20, 46])
  | 43 => zInts 8
  | 44 => .inl (4, [4, 45, 48, 49, 50, 0, 0, 0])
  | 45 => zInts 256
  | 46 => zInts 2048
  | 47 => zInts 2048
  | 48 => .inl (7, [4, 45, 2, 2, 0, 0, 0])
  | 49 => zInts 8
  | 50 => zInts 8
  | 51 => .inl (1, [4, 45, 0, 0, 0])
  | 52 => .inr (.inr ("DukeIsLost$Row", [53, 55, 57, 59]))
  | 53 => .inl (5, [57, 0, 0])
  | 54 => zInts 40
  | 55 => .inl (5, [59, 0, 0])
  | 56 => zInts 40
  | 57 => .inl (5, [61, 0, 0])
  | 58 => zInts 40
  | 59 => .inl (5, [63, 0, 0])
  | 60 => zInts 40
  | 61 => .inl (11, [0, 65, 66, 0, 0, 67, 0, 68, 69, 70, 71, 0, 0, 0, 0, 0, 0, 0, 0, 0, 0, 0, 0, 1, 0, 0, 0, 72, 73, 0, 0, 74, 75, 76, 0, 0, 77, 78, 79, 80])
  | 62 => zInts 960
  | 63 => zInts 6
  | 64 => zInts 160
  | 65 => zInts 4
  | 66 => zInts 8
  | 67 => zInts 5
  | 68 => zInts 15
  | 69 => zInts 256
  | 70 => zInts 2048
  | 71 => zInts 4
  | 72 => zInts 8
  | 73 => zInts 15
  | 74 => .inr (.inl (.boolean, 4))
  | 75 => zInts 4
  | 76 => zInts 4
  | _ => zInts 160
def zEr (ad : Nat → Nat) (cA : ClassId) (row : Nat → Int32) (τ : Int64) (sh : zShape) : va_E := match sh with
  | .inl (ci, cs) => .inr (ci, (zfl row τ cs).map (tr ad))
  | .inr (.inl (_, n)) => .inl (cA, n, .inl row)
  | .inr (.inr (_, ps)) => .inl (cA, ps.length, .inr (.inr (.inr (.inr (fun j => (ps[j]?).map ad)))))
def zW (ad : Nat → Nat) (ac : Nat → ClassId) (μ : zMu) (τ : Int64) : va_W := (List.range 78).map (fun k => (ad k, zEr ad (ac k) (μ k) τ (zSh k)))
def zAt : zShape → FieldType
  | .inl _ => .int
  | .inr (.inl (ty, _)) => ty
  | .inr (.inr (C, _)) => .object C
def zTs (ac : Nat → ClassId) : List (ClassId × FieldType) := (List.range 78).map (fun k => (ac k, zAt (zSh k)))
def zA (ad : Nat → Nat) : Nat → Prop := fun q => ∃ k, k < 78 ∧ q = ad k
def zDj (ad : Nat → Nat) : Prop := ∀ i j : Nat, i < 78 → j < 78 → ad i = ad j → i = j
theorem zW_get {ad : Nat → Nat} {ac : Nat → ClassId} {μ : zMu} {τ : Int64} {k : Nat} (h : k < 78) : (zW ad ac μ τ)[k]? = some (ad k, zEr ad (ac k) (μ k) τ (zSh k)) := by
  simp [zW, h]
theorem zTs_get {ac : Nat → ClassId} {k : Nat} (h : k < 78) : (zTs ac)[k]? = some (ac k, zAt (zSh k)) := by
  simp [zTs, h]
theorem zW_some {ad : Nat → Nat} {ac : Nat → ClassId} {μ : zMu} {τ : Int64} {k : Nat} {q : Nat × va_E} (h : (zW ad ac μ τ)[k]? = some q) : k < 78 ∧ q.1 = ad k := by
  have hk : k < 78 := by
    rcases Nat.lt_or_ge k 78 with h1 | h1
    · exact h1
    · rw [List.getElem?_eq_none (by simpa [zW] using h1)] at h; cases h
  rw [zW_get hk] at h
  cases h
  exact ⟨hk, rfl⟩
theorem zW_D {ad : Nat → Nat} (h : zDj ad) (ac : Nat → ClassId) (μ : zMu) (τ : Int64) : va_D (zA ad) (zW ad ac μ τ) := by
  refine ⟨fun i j p q hi hj e => ?_, fun k q hk => ?_⟩
  · obtain ⟨a1, a2⟩ := zW_some hi
    obtain ⟨b1, b2⟩ := zW_some hj
    exact h i j a1 b1 (by rw [← a2, ← b2]; exact e)
  · obtain ⟨a1, a2⟩ := zW_some hk
    exact ⟨k, a1, a2⟩
theorem zW_set {ad : Nat → Nat} {ac : Nat → ClassId} {μ μ' : zMu} {τ τ' : Int64} {k : Nat} {e : va_E} (h0 : ∀ k', k' < 78 → k' ≠ k → zEr ad (ac k') (μ' k') τ' (zSh k') = zEr ad (ac k') (μ k') τ (zSh k')) (h1 : zEr ad (ac k) (μ' k) τ' (zSh k) = e) : (zW ad ac μ τ).set k (ad k, e) = zW ad ac μ' τ' := by
  apply List.ext_getElem?
  intro i
  rw [List.getElem?_set]
  rcases Nat.lt_or_ge i 78 with hi | hi
  · by_cases hk : k = i
    · subst hk
      rw [if_pos rfl, if_pos (by simpa [zW] using hi), zW_get hi, h1]
    · rw [if_neg hk, zW_get hi, zW_get hi, h0 i hi (fun e => hk e.symm)]
  · have e1 : (zW ad ac μ' τ')[i]? = none := List.getElem?_eq_none (by simpa [zW] using hi)
    have e2 : (zW ad ac μ τ)[i]? = none := List.getElem?_eq_none (by simpa [zW] using hi)
    rw [e1, e2]
    by_cases hk : k = i
    · subst hk
      rw [if_pos rfl, if_neg (by simpa [zW] using hi)]
    · rw [if_neg hk]
def zup (μ : zMu) (k j : Nat) (x : Int32) : zMu := va_up μ k (upd (μ k) j x)
theorem zup_ne {μ : zMu} {k j : Nat} {x : Int32} {k' : Nat} (h : k' ≠ k) : zup μ k j x k' = μ k' := if_neg h
theorem zup_eq {μ : zMu} {k j : Nat} {x : Int32} : zup μ k j x k = upd (μ k) j x := if_pos rfl
theorem zfl_int {row : Nat → Int32} {τ : Int64} {cs : List Nat} {j : Nat} {x : Int32} (h : cs[j]? = some 0) : zfl (upd row j x) τ cs = (zfl row τ cs).set j (.int x) := by
  have hj : j < cs.length := (List.getElem?_eq_some_iff.mp h).1
  apply List.ext_getElem?
  intro i
  rw [List.getElem?_set, zfl_get, zfl_get]
  by_cases hi : j = i
  · subst hi
    rw [if_pos rfl, if_pos (by rw [zfl_len]; exact hj), h]
    simp [zfv, upd]
  · rw [if_neg hi]
    cases hc : cs[i]? with
    | none => rfl
    | some cd =>
      have hu : upd row j x i = row i := if_neg (fun e => hi e.symm)
      match cd with
      | 0 => simp [zfv, hu]
      | 1 => rfl
      | 2 => simp [zfv, hu]
      | n + 3 => rfl
theorem zfl_ref {row : Nat → Int32} {τ : Int64} {cs : List Nat} {j q : Nat} (h : cs[j]? = some 2) (hq : q < 2 ^ 31) : zfl (upd row j (nI q)) τ cs = (zfl row τ cs).set j (.ref q) := by
  have hj : j < cs.length := (List.getElem?_eq_some_iff.mp h).1
  apply List.ext_getElem?
  intro i
  rw [List.getElem?_set, zfl_get, zfl_get]
  by_cases hi : j = i
  · subst hi
    rw [if_pos rfl, if_pos (by rw [zfl_len]; exact hj), h]
    simp [zfv, upd, nI_clamp hq]
  · rw [if_neg hi]
    cases hc : cs[i]? with
    | none => rfl
    | some cd =>
      have hu : upd row j (nI q) i = row i := if_neg (fun e => hi e.symm)
      match cd with
      | 0 => simp [zfv, hu]
      | 1 => rfl
      | 2 => simp [zfv, hu]
      | n + 3 => rfl
theorem zfl_long {row : Nat → Int32} {τ τ' : Int64} {cs : List Nat} {j : Nat} (h : cs[j]? = some 1) (h1 : ∀ i, cs[i]? = some 1 → i = j) : zfl row τ' cs = (zfl row τ cs).set j (.long τ') := by
  have hj : j < cs.length := (List.getElem?_eq_some_iff.mp h).1
  apply List.ext_getElem?
  intro i
  rw [List.getElem?_set, zfl_get, zfl_get]
  by_cases hi : j = i
  · subst hi
    rw [if_pos rfl, if_pos (by rw [zfl_len]; exact hj), h]
    rfl
  · rw [if_neg hi]
    cases hc : cs[i]? with
    | none => rfl
    | some cd =>
      match cd, hc with
      | 0, _ => rfl
      | 1, hc => exact absurd (h1 i hc).symm hi
      | 2, _ => rfl
      | n + 3, _ => rfl
theorem zfl_noLong {row : Nat → Int32} {τ τ' : Int64} {cs : List Nat} (h1 : 1 ∉ cs) : zfl row τ' cs = zfl row τ cs := by
  apply List.ext_getElem?
  intro i
  rw [zfl_get, zfl_get]
  cases hc : cs[i]? with
  | none => rfl
  | some cd =>
    match cd, hc with
    | 0, _ => rfl
    | 1, hc => exact absurd (List.mem_of_getElem? hc) h1
    | 2, _ => rfl
    | n + 3, _ => rfl
/-- only the reference's object (61) holds the long -/
def zNoLong : zShape → Bool
  | .inl (_, cs) => !cs.contains 1
  | _ => true
theorem zEr_noLong {ad : Nat → Nat} {cA : ClassId} {row : Nat → Int32} {τ τ' : Int64} {sh : zShape} (h : zNoLong sh = true) : zEr ad cA row τ' sh = zEr ad cA row τ sh := by
  match sh, h with
  | .inl (ci, cs), h =>
    have h1 : 1 ∉ cs := by simpa [zNoLong] using h
    show Sum.inr (ci, (zfl row τ' cs).map (tr ad)) = Sum.inr (ci, (zfl row τ cs).map (tr ad))
    rw [zfl_noLong h1]
  | .inr (.inl _), _ => rfl
  | .inr (.inr _), _ => rfl
theorem zNoLong_all : ∀ k, k < 78 → k ≠ 61 → zNoLong (zSh k) = true := by decide +kernel
/-! static tables, texts, nest words -/
def zTab : Nat → List Int32
  | 0 => [1000, 10, 8, 256, 10, 8]
  | 1 => [-1, 0, 0, 1, 2, 0]
  | 2 => [0, 1, 2, 3, 4, 4, 5, 5, 6, 7, 0]
  | _ => [10, 11, 12, 6, 7, 8, 4, 5]
def zTabN : Nat → String
  | 0 => "SET_BELOW"
  | 1 => "ABOVE"
  | 2 => "BINDS"
  | _ => "SIGN_TOKENS"
def zWords : String := "goes  stays sees  or    and   not   place to    week  numberways  pose  "
def zSigns : String := "();+-*<="
def zBytes (t : String) : List Int32 := t.toList.map (fun c => Int32.ofNat c.toNat)
def zNw : List Cond := [.methodLinkNest RX8 26 yX10_within RX10, .methodLinkNest RX2 51 yX10_within RX10, .methodLinkNest RX0 40 yX10_within RX10, .methodLinkNest RX6 121 yX10_within RX10, .methodLinkNest RX5 37 yX10_within RX10, .methodLinkNest RX3 24 yX10_within RX10, .methodLinkNest RX2 25 yX3_init RX10, .methodLinkNest RX0 28 yX8_init RX10, .methodLinkNest RX10 28 yX6_init RX10, .methodLinkNest RX10 71 yX5_init RX10]
def zNf : List Cond := [.fieldLinkNest RX6 118 RX10 "SIGN_TOKENS" "[I" RX10, .fieldLinkNest RX6 80 RX10 "BINDS" "[I" RX10, .fieldLinkNest RX3 28 RX10 "ABOVE" "[I" RX10]
theorem zNw_warm {s U : State} (hW : s.WarmedH U.vm) (h : ∀ w ∈ zNw, va_Nw w s) : ∀ w ∈ zNw, va_Nw w U := by
  intro w hw
  have h1 := h w hw
  simp only [zNw, List.mem_cons, List.not_mem_nil, or_false] at hw
  rcases hw with rfl | rfl | rfl | rfl | rfl | rfl | rfl | rfl | rfl | rfl <;> exact va_Nw.warmM hW h1
theorem zNf_warm {s U : State} (hW : s.WarmedH U.vm) (h : ∀ w ∈ zNf, va_Nw w s) : ∀ w ∈ zNf, va_Nw w U := by
  intro w hw
  have h1 := h w hw
  simp only [zNf, List.mem_cons, List.not_mem_nil, or_false] at hw
  rcases hw with rfl | rfl | rfl <;> exact va_Nw.warmF hW h1
theorem zNw_same {s U : State} (hv : s.vm = U.vm) (h : ∀ w ∈ zNw, va_Nw w s) : ∀ w ∈ zNw, va_Nw w U := by
  intro w hw
  have h1 := h w hw
  simp only [zNw, List.mem_cons, List.not_mem_nil, or_false] at hw
  rcases hw with rfl | rfl | rfl | rfl | rfl | rfl | rfl | rfl | rfl | rfl <;> exact va_Nw.same rfl hv h1
theorem zNf_same {s U : State} (hv : s.vm = U.vm) (h : ∀ w ∈ zNf, va_Nw w s) : ∀ w ∈ zNf, va_Nw w U := by
  intro w hw
  have h1 := h w hw
  simp only [zNf, List.mem_cons, List.not_mem_nil, or_false] at hw
  rcases hw with rfl | rfl | rfl <;> exact va_Nw.same rfl hv h1
def zStr (ad : Nat → Nat) (U : State) : Prop := vk_R RX6 104 zWords (ad 84) U ∧ vk_R RX6 112 zSigns (ad 85) U
def zSta (ad : Nat → Nat) (X : zXs) (U : State) (H : Heap) : Prop :=
  (∀ i, i < 4 → va_Z RX10 (zTabN i) "[I" (.ref (ad (80 + i))) (zA ad) U H) ∧ (∀ i, i < 4 → va_T .int (ad (80 + i)) (zTab i).length (fun j => .int ((zTab i).getD j 0)) (zA ad) U H) ∧
  va_T .int (ad 90) X.1 (fun j => .int (X.2 j)) (zA ad) U H ∧
  vk_S 2 [72, 8] [zBytes zWords, zBytes zSigns] (fun i => ad (84 + i)) (fun i => ad (86 + i)) (zA ad) U H ∧
  va_Z "java/lang/String" "COMPACT_STRINGS" "Z" (.int 1) (zA ad) U H ∧ va_Zq "jdk/internal/util/Preconditions" "SIOOBE_FORMATTER" "Ljava/util/function/BiFunction;" (zA ad) U H
def zSt (ad : Nat → Nat) (X : zXs) (U : State) : Prop := (∀ w ∈ zNw, va_Nw w U) ∧ (∀ w ∈ zNf, va_Nw w U) ∧ zStr ad U ∧ zSta ad X U U.heap
theorem zSta.moved {ad : Nat → Nat} {X : zXs} {u U : State} {H : Heap} (hvm : u.vm.Alike U.vm) (h : zSta ad X u H) : zSta ad X U H := by
  obtain ⟨h1, h2, h3, h4, h5, h6⟩ := h
  exact ⟨fun i hi => (h1 i hi).moved hvm, fun i hi => (h2 i hi).moved hvm, h3.moved hvm, h4.moved hvm, h5.moved hvm, h6.moved hvm⟩
theorem zSta.kept {ad : Nat → Nat} {X : zXs} {U : State} {H H1 : Heap} (h : zSta ad X U H) (hq : ∀ a : Nat, a < H.size → ¬ zA ad a → H1[a]? = H[a]?) : zSta ad X U H1 := by
  obtain ⟨h1, h2, h3, h4, h5, h6⟩ := h
  exact ⟨fun i hi => (h1 i hi).kept hq, fun i hi => (h2 i hi).kept hq, h3.kept hq, h4.kept hq, h5.kept hq, h6.kept hq⟩
theorem zSt.go {ad : Nat → Nat} {X : zXs} {s U : State} {H : Heap} {locs : List Loc} (h : zSt ad X s) (hW : s.WarmedH U.vm) (hH : U.heap = H) (hS : va_S (zA ad) s.heap H locs) : zSt ad X U := by
  obtain ⟨h1, h2, h3, h4⟩ := h
  refine ⟨zNw_warm hW h1, zNf_warm hW h2, ⟨h3.1.warm hW, h3.2.warm hW⟩, ?_⟩
  rw [hH]
  exact (h4.moved hW.alike).kept hS.2.1
theorem zSt.same {ad : Nat → Nat} {X : zXs} {u U : State} (h : zSt ad X u) (hv : u.vm = U.vm) (hh : u.heap = U.heap) : zSt ad X U := by
  obtain ⟨h1, h2, h3, h4⟩ := h
  refine ⟨zNw_same hv h1, zNf_same hv h2, ⟨h3.1.same hv.symm, h3.2.same hv.symm⟩, ?_⟩
  rw [← hh]
  exact h4.moved (by rw [hv]; exact Vm.Alike.refl _)
/-! locals: a list, .null where nothing is known -/
def zLs (ad : Nat → Nat) (ls : Array Slot) (nL : Nat) (L : List Value) : Prop := ls.size = nL ∧ lv_wf ls ∧ L.length ≤ nL ∧ ∀ (i : Nat) (v : Value), L[i]? = some v → v ≠ .null → ls[i]? = some (.val (tr ad v))
def zXm (X : zXs) (μ : zMu) : Prop := μ 90 = X.2 ∧ μ 91 0 = nI X.1
abbrev zQ : Type := Option Value → zMu → Int64 → Prop
def zCx (p : Program) (R : Room) (s : State) (m : MethodId) (args : Array Value) (meth : Method) (c : Code) (cells slots : Nat) (own : String) (cc : ByteArray) (nL : Nat) (rt : Option FieldType) (d : Nat) (D : va_G) (ad : Nat → Nat) (ac : Nat → ClassId) (X : zXs) : Prop :=
  p.tables.exec = Jvm.exec ∧ c.code = cc ∧ c.maxLocals = nL ∧ meth.sig.returnType = rt ∧ meth.locks = false ∧ s.vm.findClass own = some m.cls ∧ (∀ w ∈ zT, w.before args s = true) ∧ (d ≤ R.frames ∧ 44 * d ≤ R.locals ∧ cells ≤ R.cells ∧ slots ≤ R.slots) ∧ va_K D vwCl (zTs ac) s ∧ zDj ad ∧ zSt ad X s
def zHp (s : State) (D : va_G) (ad : Nat → Nat) (ac : Nat → ClassId) (X : zXs) (μ : zMu) (τ : Int64) (H : Heap) (locs : List Loc) : Prop := va_P D vwCl (zW ad ac μ τ) H ∧ va_S (zA ad) s.heap H locs ∧ zXm X μ
def zRet (cc : ByteArray) (rt : Option FieldType) (pc : Nat) (r : Option Value) : Prop :=
  (∃ (x : Int32) (ty : FieldType), r = some (.int x) ∧ rt = some ty ∧ narrow ty (.int x) = .int x ∧ decode cc pc = .ok (.ireturn, 1)) ∨ (∃ x : Int64, r = some (.long x) ∧ rt = some .long ∧ decode cc pc = .ok (.lreturn, 1)) ∨ (r = none ∧ rt = none ∧ decode cc pc = .ok (.return_, 1))
/-- THE JUDGEMENT: a method's code cc from pc on, with locals L and stack st (positions for references), over mu, tau: it returns, and Q holds -/
def Zw (d : Nat) (own : String) (cc : ByteArray) (nL : Nat) (rt : Option FieldType) (Q : zQ) (pc : Nat) (L st : List Value) (μ : zMu) (τ : Int64) : Prop :=
  ∀ (p : Program) (l : Launch) (e : Env) (R : Room) (s : State) (m : MethodId) (args : Array Value) (below : List Frame) (meth : Method) (c : Code) (D : va_G) (ad : Nat → Nat) (ac : Nat → ClassId) (X : zXs) (K : State → Prop) (cells slots : Nat) (H : Heap) (locs : List Loc) (ls : Array Slot),
    zCx p R s m args meth c cells slots own cc nL rt d D ad ac X → zHp s D ad ac X μ τ H locs → zLs ad ls nL L →
    (∀ (r : Option Value) (μ' : zMu) (τ' : Int64) (H' : Heap) (locs' : List Loc) (pc' : Nat) (ls' : Array Slot), Q r μ' τ' → zHp s D ad ac X μ' τ' H' locs' → zRet cc rt pc' r → W p l e R s m args below meth c H' locs' cells slots K (F0 m pc' ls' (r.map (tr ad)).toList)) →
    W p l e R s m args below meth c H locs cells slots K (F0 m pc ls (st.map (tr ad)))
def zRm (d : Nat) : Room := { frames := d, cells := 0, slots := 0, locals := 44 * d }
def zHq (D : va_G) (ad : Nat → Nat) (ac : Nat → ClassId) (X : zXs) (μ : zMu) (τ : Int64) (U : State) : Prop := va_P D vwCl (zW ad ac μ τ) U.heap ∧ va_K D vwCl (zTs ac) U ∧ zSt ad X U
def zQc (D : va_G) (ad : Nat → Nat) (ac : Nat → ClassId) (X : zXs) (Q : zQ) : Array Value → State → Outcome → State → Prop := fun _ st oc t => (∃ (r : Option Value) (μ' : zMu) (τ' : Int64), oc = .returned (r.map (tr ad)) ∧ Q r μ' τ' ∧ va_P D vwCl (zW ad ac μ' τ') t.heap ∧ zXm X μ') ∧ va_F (zA ad) st t
/-- A METHOD'S CONTRACT: called with as over mu, tau it returns, and Q holds -/
def Zc (d : Nat) (y : MethodName) (cc : ByteArray) (nL : Nat) (rt : Option FieldType) (as : List Value) (μ : zMu) (τ : Int64) (Q : zQ) : Prop :=
  ∀ (l : Launch) (D : va_G) (ad : Nat → Nat) (ac : Nat → ClassId) (X : zXs), zDj ad → zXm X μ → Met l y (.code y cc nL rt :: zT) (zRm d) (va_Pc (as.map (tr ad)) (zHq D ad ac X μ τ)) (zQc D ad ac X Q) 0 0 (zA ad)
theorem lv_args_tr (ad : Nat → Nat) : ∀ (vs : List Value) (i : Nat), lv_args i (vs.map (tr ad)) = (lv_args i vs).map (fun q => (q.1, tr ad q.2))
  | [], _ => rfl
  | v :: vs, i => by
    show (i, tr ad v) :: lv_args (if (tr ad v).category = 2 then i + 2 else i + 1) (vs.map (tr ad)) = (i, tr ad v) :: (lv_args (if v.category = 2 then i + 2 else i + 1) vs).map (fun q => (q.1, tr ad q.2))
    rw [tr_cat, lv_args_tr ad vs]
theorem lg_sl_len (ad : Nat → Nat) : ∀ vs : List Value, (lg_sl (vs.map (tr ad))).length = (lg_sl vs).length
  | [] => rfl
  | v :: vs => by
    have ih := lg_sl_len ad vs
    simp only [lg_sl, List.map_cons, List.flatMap_cons, List.length_append, tr_cat] at ih ⊢
    rw [ih]
    congr 1
    split <;> rfl
/-- at the entry: the locals that the arguments make -/
def zEnt (as : List Value) (L : List Value) : Prop := ∀ (i : Nat) (v : Value), L[i]? = some v → v ≠ .null → (i, v) ∈ lv_args 0 as
theorem Zc.of {d : Nat} {y : MethodName} {cc : ByteArray} {nL : Nat} {rt : Option FieldType} {as : List Value} {μ : zMu} {τ : Int64} {Q : zQ} (L : List Value) (hy : plainName y.cls = true) (hn : (lg_sl as).length ≤ nL) (hLn : L.length ≤ nL) (hL : zEnt as L) (h : Zw d y.cls cc nL rt Q 0 L [] μ τ) : Zc d y cc nL rt as μ τ Q := by
  intro l D ad ac X hDj hXm
  refine Met.ofW (cc := cc) (maxL := nL) (ret := rt) hy rfl ?_
  intro p e s m args below meth c s₁ B hml hv
  obtain ⟨rfl, hP, hK, hSt⟩ := hv
  have hx := B.exec
  have hb := B.bytes
  have hr := B.returns
  have hts := atoms_spec (ws := .code y cc nL rt :: zT) B.pre
  have hown : s.vm.findClass y.cls = some m.cls := findClass_of_methodNamed B.named
  have hlocks := B.notSynchronized
  have hl := lv_entry (as.map (tr ad)) (n := nL) (by rw [lg_sl_len]; exact hn)
  rw [lg_entry_eq]
  generalize (lg_sl (as.map (tr ad)) ++ List.replicate (nL - (lg_sl (as.map (tr ad))).length) Slot.unset).toArray = ls at hl ⊢
  refine h p l e _ s m _ below meth c D ad ac X _ 0 0 s.heap [] ls ⟨hx, hb, hml, hr, hlocks, hown, fun w hw => hts w (List.mem_cons_of_mem _ hw), ⟨Nat.le_refl d, Nat.le_refl _, Nat.zero_le _, Nat.zero_le _⟩, hK, hDj, hSt⟩ ⟨hP, va_S.rf, hXm⟩ ⟨hl.1, hl.2.1, hLn, ?_⟩ ?_
  · intro i v h1 h2
    have h3 := hL i v h1 h2
    refine hl.2.2 (i, tr ad v) ?_
    rw [lv_args_tr]
    exact List.mem_map.mpr ⟨(i, v), h3, rfl⟩
  · intro r μ' τ' H' locs' pc' ls' hq hH' hret
    obtain ⟨hP', hS', hX'⟩ := hH'
    rcases hret with ⟨x, ty, rfl, hty, hnw, hdg⟩ | ⟨x, rfl, hty, hdg⟩ | ⟨rfl, hty, hdg⟩
    · subst hty
      exact W.zret hx hb hr hnw (fun t ht hw => ⟨⟨some (.int x), μ', τ', rfl, hq, by rw [ht]; exact hP', hX'⟩, hS'.F ht⟩) (fun q hq => hS'.2.2 q hq) hdg hlocks
    · subst hty
      exact W.lret hx hb hr (fun t ht hw => ⟨⟨some (.long x), μ', τ', rfl, hq, by rw [ht]; exact hP', hX'⟩, hS'.F ht⟩) (fun q hq => hS'.2.2 q hq) hdg hlocks
    · subst hty
      exact W.vret hx hb hr (fun t ht hw => ⟨⟨none, μ', τ', rfl, hq, by rw [ht]; exact hP', hX'⟩, hS'.F ht⟩) (fun q hq => hS'.2.2 q hq) hdg hlocks
section ZR
variable {d : Nat} {own : String} {cc : ByteArray} {nL : Nat} {rt : Option FieldType} {Q : zQ} {pc : Nat} {L st : List Value} {μ : zMu} {τ : Int64}
theorem Zw.mono {Q' : zQ} (hq : ∀ r μ' τ', Q r μ' τ' → Q' r μ' τ') (h : Zw d own cc nL rt Q pc L st μ τ) : Zw d own cc nL rt Q' pc L st μ τ := by
  intro p l e R s m args below meth c D ad ac X K cells slots H locs ls hC hH hL hK
  exact h p l e R s m args below meth c D ad ac X K cells slots H locs ls hC hH hL (fun r μ' τ' H' locs' pc' ls' q => hK r μ' τ' H' locs' pc' ls' (hq _ _ _ q))
theorem Zw_ireturn {x : Int32} {ty : FieldType} (hd : decode cc pc = .ok (.ireturn, 1)) (hn : narrow ty (.int x) = .int x) (hq : Q (some (.int x)) μ τ) : Zw d own cc nL (some ty) Q pc L [.int x] μ τ := by
  intro p l e R s m args below meth c D ad ac X K cells slots H locs ls hC hH hL hK
  exact hK (some (.int x)) μ τ H locs pc ls hq hH (Or.inl ⟨x, ty, rfl, rfl, hn, hd⟩)
theorem Zw_lreturn {x : Int64} (hd : decode cc pc = .ok (.lreturn, 1)) (hq : Q (some (.long x)) μ τ) : Zw d own cc nL (some .long) Q pc L [.long x] μ τ := by
  intro p l e R s m args below meth c D ad ac X K cells slots H locs ls hC hH hL hK
  exact hK (some (.long x)) μ τ H locs pc ls hq hH (Or.inr (Or.inl ⟨x, rfl, rfl, hd⟩))
theorem Zw_return (hd : decode cc pc = .ok (.return_, 1)) (hq : Q none μ τ) : Zw d own cc nL none Q pc L [] μ τ := by
  intro p l e R s m args below meth c D ad ac X K cells slots H locs ls hC hH hL hK
  exact hK none μ τ H locs pc ls hq hH (Or.inr (Or.inr ⟨rfl, rfl, hd⟩))
theorem Zw_iconst {n : Int} {v : Int32} (hd : decode cc pc = .ok (.iconst n, 1)) (hv : Int32.ofInt n = v) (h : Zw d own cc nL rt Q (pc + 1) L (.int v :: st) μ τ) : Zw d own cc nL rt Q pc L (st) μ τ := by
  intro p l e R s m args below meth c D ad ac X K cells slots H locs ls hC hH hL hK
  exact lv_iconst hC.1 hC.2.1 hd hv (h p l e R s m args below meth c D ad ac X K cells slots H locs ls hC hH hL hK)
theorem Zw_bipush {n : Int} {v : Int32} (hd : decode cc pc = .ok (.bipush n, 2)) (hv : (Int8.ofInt n).toInt32 = v) (h : Zw d own cc nL rt Q (pc + 2) L (.int v :: st) μ τ) : Zw d own cc nL rt Q pc L (st) μ τ := by
  intro p l e R s m args below meth c D ad ac X K cells slots H locs ls hC hH hL hK
  exact lv_bipush hC.1 hC.2.1 hd hv (h p l e R s m args below meth c D ad ac X K cells slots H locs ls hC hH hL hK)
theorem Zw_sipush {n : Int} {v : Int32} (hd : decode cc pc = .ok (.sipush n, 3)) (hv : (Int16.ofInt n).toInt32 = v) (h : Zw d own cc nL rt Q (pc + 3) L (.int v :: st) μ τ) : Zw d own cc nL rt Q pc L (st) μ τ := by
  intro p l e R s m args below meth c D ad ac X K cells slots H locs ls hC hH hL hK
  exact lv_sipush hC.1 hC.2.1 hd hv (h p l e R s m args below meth c D ad ac X K cells slots H locs ls hC hH hL hK)
theorem Zw_lconst {n : Fin 2} {v : Int64} (hd : decode cc pc = .ok (.lconst n, 1)) (hv : Int64.ofNat (n : Nat) = v) (h : Zw d own cc nL rt Q (pc + 1) L (.long v :: st) μ τ) : Zw d own cc nL rt Q pc L (st) μ τ := by
  intro p l e R s m args below meth c D ad ac X K cells slots H locs ls hC hH hL hK
  exact lv_lconst hC.1 hC.2.1 hd hv (h p l e R s m args below meth c D ad ac X K cells slots H locs ls hC hH hL hK)
theorem Zw_iadd {x y : Int32} (hd : decode cc pc = .ok (.iadd, 1)) (h : Zw d own cc nL rt Q (pc + 1) L (.int (x + y) :: st) μ τ) : Zw d own cc nL rt Q pc L (.int y :: .int x :: st) μ τ := by
  intro p l e R s m args below meth c D ad ac X K cells slots H locs ls hC hH hL hK
  exact lv_iadd hC.1 hC.2.1 hd (h p l e R s m args below meth c D ad ac X K cells slots H locs ls hC hH hL hK)
theorem Zw_isub {x y : Int32} (hd : decode cc pc = .ok (.isub, 1)) (h : Zw d own cc nL rt Q (pc + 1) L (.int (x - y) :: st) μ τ) : Zw d own cc nL rt Q pc L (.int y :: .int x :: st) μ τ := by
  intro p l e R s m args below meth c D ad ac X K cells slots H locs ls hC hH hL hK
  exact lv_isub hC.1 hC.2.1 hd (h p l e R s m args below meth c D ad ac X K cells slots H locs ls hC hH hL hK)
theorem Zw_imul {x y : Int32} (hd : decode cc pc = .ok (.imul, 1)) (h : Zw d own cc nL rt Q (pc + 1) L (.int (x * y) :: st) μ τ) : Zw d own cc nL rt Q pc L (.int y :: .int x :: st) μ τ := by
  intro p l e R s m args below meth c D ad ac X K cells slots H locs ls hC hH hL hK
  exact lv_imul hC.1 hC.2.1 hd (h p l e R s m args below meth c D ad ac X K cells slots H locs ls hC hH hL hK)
theorem Zw_iand {x y : Int32} (hd : decode cc pc = .ok (.iand, 1)) (h : Zw d own cc nL rt Q (pc + 1) L (.int (x &&& y) :: st) μ τ) : Zw d own cc nL rt Q pc L (.int y :: .int x :: st) μ τ := by
  intro p l e R s m args below meth c D ad ac X K cells slots H locs ls hC hH hL hK
  exact lv_iand hC.1 hC.2.1 hd (h p l e R s m args below meth c D ad ac X K cells slots H locs ls hC hH hL hK)
theorem Zw_ior {x y : Int32} (hd : decode cc pc = .ok (.ior, 1)) (h : Zw d own cc nL rt Q (pc + 1) L (.int (x ||| y) :: st) μ τ) : Zw d own cc nL rt Q pc L (.int y :: .int x :: st) μ τ := by
  intro p l e R s m args below meth c D ad ac X K cells slots H locs ls hC hH hL hK
  exact lv_ior hC.1 hC.2.1 hd (h p l e R s m args below meth c D ad ac X K cells slots H locs ls hC hH hL hK)
theorem Zw_ixor {x y : Int32} (hd : decode cc pc = .ok (.ixor, 1)) (h : Zw d own cc nL rt Q (pc + 1) L (.int (x ^^^ y) :: st) μ τ) : Zw d own cc nL rt Q pc L (.int y :: .int x :: st) μ τ := by
  intro p l e R s m args below meth c D ad ac X K cells slots H locs ls hC hH hL hK
  exact lv_ixor hC.1 hC.2.1 hd (h p l e R s m args below meth c D ad ac X K cells slots H locs ls hC hH hL hK)
theorem Zw_ishl {x y : Int32} (hd : decode cc pc = .ok (.ishl, 1)) (h : Zw d own cc nL rt Q (pc + 1) L (.int (x <<< (y &&& 31)) :: st) μ τ) : Zw d own cc nL rt Q pc L (.int y :: .int x :: st) μ τ := by
  intro p l e R s m args below meth c D ad ac X K cells slots H locs ls hC hH hL hK
  exact lv_ishl hC.1 hC.2.1 hd (h p l e R s m args below meth c D ad ac X K cells slots H locs ls hC hH hL hK)
theorem Zw_ishr {x y : Int32} (hd : decode cc pc = .ok (.ishr, 1)) (h : Zw d own cc nL rt Q (pc + 1) L (.int (x >>> (y &&& 31)) :: st) μ τ) : Zw d own cc nL rt Q pc L (.int y :: .int x :: st) μ τ := by
  intro p l e R s m args below meth c D ad ac X K cells slots H locs ls hC hH hL hK
  exact lv_ishr hC.1 hC.2.1 hd (h p l e R s m args below meth c D ad ac X K cells slots H locs ls hC hH hL hK)
theorem Zw_iushr {x y : Int32} (hd : decode cc pc = .ok (.iushr, 1)) (h : Zw d own cc nL rt Q (pc + 1) L (.int ((x.toUInt32 >>> (y.toUInt32 &&& Int32.toUInt32 31)).toInt32) :: st) μ τ) : Zw d own cc nL rt Q pc L (.int y :: .int x :: st) μ τ := by
  intro p l e R s m args below meth c D ad ac X K cells slots H locs ls hC hH hL hK
  exact lv_iushr hC.1 hC.2.1 hd rfl (h p l e R s m args below meth c D ad ac X K cells slots H locs ls hC hH hL hK)
theorem Zw_idiv {x y : Int32} (hd : decode cc pc = .ok (.idiv, 1)) (hne : ¬ y = 0) (h : Zw d own cc nL rt Q (pc + 1) L (.int (x / y) :: st) μ τ) : Zw d own cc nL rt Q pc L (.int y :: .int x :: st) μ τ := by
  intro p l e R s m args below meth c D ad ac X K cells slots H locs ls hC hH hL hK
  exact lv_idiv hC.1 hC.2.1 hd hne (h p l e R s m args below meth c D ad ac X K cells slots H locs ls hC hH hL hK)
theorem Zw_irem {x y : Int32} (hd : decode cc pc = .ok (.irem, 1)) (hne : ¬ y = 0) (h : Zw d own cc nL rt Q (pc + 1) L (.int (x - x / y * y) :: st) μ τ) : Zw d own cc nL rt Q pc L (.int y :: .int x :: st) μ τ := by
  intro p l e R s m args below meth c D ad ac X K cells slots H locs ls hC hH hL hK
  exact lv_irem hC.1 hC.2.1 hd hne (h p l e R s m args below meth c D ad ac X K cells slots H locs ls hC hH hL hK)
theorem Zw_ldiv {x y : Int64} (hd : decode cc pc = .ok (.ldiv, 1)) (hne : ¬ y = 0) (h : Zw d own cc nL rt Q (pc + 1) L (.long (x / y) :: st) μ τ) : Zw d own cc nL rt Q pc L (.long y :: .long x :: st) μ τ := by
  intro p l e R s m args below meth c D ad ac X K cells slots H locs ls hC hH hL hK
  exact lv_ldiv hC.1 hC.2.1 hd hne (h p l e R s m args below meth c D ad ac X K cells slots H locs ls hC hH hL hK)
theorem Zw_lrem {x y : Int64} (hd : decode cc pc = .ok (.lrem, 1)) (hne : ¬ y = 0) (h : Zw d own cc nL rt Q (pc + 1) L (.long (x - x / y * y) :: st) μ τ) : Zw d own cc nL rt Q pc L (.long y :: .long x :: st) μ τ := by
  intro p l e R s m args below meth c D ad ac X K cells slots H locs ls hC hH hL hK
  exact lv_lrem hC.1 hC.2.1 hd hne (h p l e R s m args below meth c D ad ac X K cells slots H locs ls hC hH hL hK)
theorem Zw_ineg {x : Int32} (hd : decode cc pc = .ok (.ineg, 1)) (h : Zw d own cc nL rt Q (pc + 1) L (.int (-x) :: st) μ τ) : Zw d own cc nL rt Q pc L (.int x :: st) μ τ := by
  intro p l e R s m args below meth c D ad ac X K cells slots H locs ls hC hH hL hK
  exact lv_ineg hC.1 hC.2.1 hd (h p l e R s m args below meth c D ad ac X K cells slots H locs ls hC hH hL hK)
theorem Zw_ladd {x y : Int64} (hd : decode cc pc = .ok (.ladd, 1)) (h : Zw d own cc nL rt Q (pc + 1) L (.long (x + y) :: st) μ τ) : Zw d own cc nL rt Q pc L (.long y :: .long x :: st) μ τ := by
  intro p l e R s m args below meth c D ad ac X K cells slots H locs ls hC hH hL hK
  exact lv_ladd hC.1 hC.2.1 hd (h p l e R s m args below meth c D ad ac X K cells slots H locs ls hC hH hL hK)
theorem Zw_lsub {x y : Int64} (hd : decode cc pc = .ok (.lsub, 1)) (h : Zw d own cc nL rt Q (pc + 1) L (.long (x - y) :: st) μ τ) : Zw d own cc nL rt Q pc L (.long y :: .long x :: st) μ τ := by
  intro p l e R s m args below meth c D ad ac X K cells slots H locs ls hC hH hL hK
  exact lv_lsub hC.1 hC.2.1 hd (h p l e R s m args below meth c D ad ac X K cells slots H locs ls hC hH hL hK)
theorem Zw_lmul {x y : Int64} (hd : decode cc pc = .ok (.lmul, 1)) (h : Zw d own cc nL rt Q (pc + 1) L (.long (x * y) :: st) μ τ) : Zw d own cc nL rt Q pc L (.long y :: .long x :: st) μ τ := by
  intro p l e R s m args below meth c D ad ac X K cells slots H locs ls hC hH hL hK
  exact lv_lmul hC.1 hC.2.1 hd (h p l e R s m args below meth c D ad ac X K cells slots H locs ls hC hH hL hK)
theorem Zw_lcmp {x y : Int64} (hd : decode cc pc = .ok (.lcmp, 1)) (h : Zw d own cc nL rt Q (pc + 1) L (.int (lg_cmp x y) :: st) μ τ) : Zw d own cc nL rt Q pc L (.long y :: .long x :: st) μ τ := by
  intro p l e R s m args below meth c D ad ac X K cells slots H locs ls hC hH hL hK
  exact W.lcmp hC.1 hC.2.1 hd (h p l e R s m args below meth c D ad ac X K cells slots H locs ls hC hH hL hK)
theorem Zw_i2l {x : Int32} (hd : decode cc pc = .ok (.i2l, 1)) (h : Zw d own cc nL rt Q (pc + 1) L (.long x.toInt64 :: st) μ τ) : Zw d own cc nL rt Q pc L (.int x :: st) μ τ := by
  intro p l e R s m args below meth c D ad ac X K cells slots H locs ls hC hH hL hK
  exact lv_i2l hC.1 hC.2.1 hd rfl (h p l e R s m args below meth c D ad ac X K cells slots H locs ls hC hH hL hK)
theorem Zw_l2i {x : Int64} (hd : decode cc pc = .ok (.l2i, 1)) (h : Zw d own cc nL rt Q (pc + 1) L (.int x.toInt32 :: st) μ τ) : Zw d own cc nL rt Q pc L (.long x :: st) μ τ := by
  intro p l e R s m args below meth c D ad ac X K cells slots H locs ls hC hH hL hK
  exact lv_l2i hC.1 hC.2.1 hd rfl (h p l e R s m args below meth c D ad ac X K cells slots H locs ls hC hH hL hK)
theorem Zw_i2b {x : Int32} (hd : decode cc pc = .ok (.i2b, 1)) (h : Zw d own cc nL rt Q (pc + 1) L (.int x.toInt8.toInt32 :: st) μ τ) : Zw d own cc nL rt Q pc L (.int x :: st) μ τ := by
  intro p l e R s m args below meth c D ad ac X K cells slots H locs ls hC hH hL hK
  exact lv_i2b hC.1 hC.2.1 hd rfl (h p l e R s m args below meth c D ad ac X K cells slots H locs ls hC hH hL hK)
theorem Zw_i2s {x : Int32} (hd : decode cc pc = .ok (.i2s, 1)) (h : Zw d own cc nL rt Q (pc + 1) L (.int x.toInt16.toInt32 :: st) μ τ) : Zw d own cc nL rt Q pc L (.int x :: st) μ τ := by
  intro p l e R s m args below meth c D ad ac X K cells slots H locs ls hC hH hL hK
  exact lv_i2s hC.1 hC.2.1 hd rfl (h p l e R s m args below meth c D ad ac X K cells slots H locs ls hC hH hL hK)
theorem Zw_i2c {x : Int32} (hd : decode cc pc = .ok (.i2c, 1)) (h : Zw d own cc nL rt Q (pc + 1) L (.int (x.toUInt32 % 65536).toInt32 :: st) μ τ) : Zw d own cc nL rt Q pc L (.int x :: st) μ τ := by
  intro p l e R s m args below meth c D ad ac X K cells slots H locs ls hC hH hL hK
  exact lv_i2c hC.1 hC.2.1 hd rfl (h p l e R s m args below meth c D ad ac X K cells slots H locs ls hC hH hL hK)
theorem Zw_dup {v : Value} (hd : decode cc pc = .ok (.dup, 1)) (hv : v.category = 1) (h : Zw d own cc nL rt Q (pc + 1) L (v :: v :: st) μ τ) : Zw d own cc nL rt Q pc L (v :: st) μ τ := by
  intro p l e R s m args below meth c D ad ac X K cells slots H locs ls hC hH hL hK
  exact lv_dup hC.1 hC.2.1 hd ((tr_cat ad v).trans hv) (h p l e R s m args below meth c D ad ac X K cells slots H locs ls hC hH hL hK)
theorem Zw_pop {v : Value} (hd : decode cc pc = .ok (.pop, 1)) (hv : v.category = 1) (h : Zw d own cc nL rt Q (pc + 1) L (st) μ τ) : Zw d own cc nL rt Q pc L (v :: st) μ τ := by
  intro p l e R s m args below meth c D ad ac X K cells slots H locs ls hC hH hL hK
  exact lv_pop hC.1 hC.2.1 hd ((tr_cat ad v).trans hv) (h p l e R s m args below meth c D ad ac X K cells slots H locs ls hC hH hL hK)
theorem Zw_dup2 {v u : Value} (hd : decode cc pc = .ok (.dup2, 1)) (hv : v.category = 1) (hu : u.category = 1) (h : Zw d own cc nL rt Q (pc + 1) L (v :: u :: v :: u :: st) μ τ) : Zw d own cc nL rt Q pc L (v :: u :: st) μ τ := by
  intro p l e R s m args below meth c D ad ac X K cells slots H locs ls hC hH hL hK
  exact lv_dup2_11 hC.1 hC.2.1 hd ((tr_cat ad v).trans hv) ((tr_cat ad u).trans hu) (h p l e R s m args below meth c D ad ac X K cells slots H locs ls hC hH hL hK)
theorem Zw_ldc {idx : Nat} {v : Int32} (hd : decode cc pc = .ok (.ldc idx, 2)) (hw : Cond.constant own idx v ∈ zT) (h : Zw d own cc nL rt Q (pc + 2) L (.int v :: st) μ τ) : Zw d own cc nL rt Q pc L (st) μ τ := by
  intro p l e R s m args below meth c D ad ac X K cells slots H locs ls hC hH hL hK
  exact lv_ldc hC.1 hC.2.1 hC.2.2.2.2.2.1 (hC.2.2.2.2.2.2.1 _ hw) hd (h p l e R s m args below meth c D ad ac X K cells slots H locs ls hC hH hL hK)
theorem Zw_ldcw {idx : Nat} {v : Int32} (hd : decode cc pc = .ok (.ldc_w idx, 3)) (hw : Cond.constant own idx v ∈ zT) (h : Zw d own cc nL rt Q (pc + 3) L (.int v :: st) μ τ) : Zw d own cc nL rt Q pc L (st) μ τ := by
  intro p l e R s m args below meth c D ad ac X K cells slots H locs ls hC hH hL hK
  exact lv_ldcw hC.1 hC.2.1 hC.2.2.2.2.2.1 (hC.2.2.2.2.2.2.1 _ hw) hd (h p l e R s m args below meth c D ad ac X K cells slots H locs ls hC hH hL hK)
theorem Zw_ldc2 {idx : Nat} {v : Int64} (hd : decode cc pc = .ok (.ldc2_w idx, 3)) (hw : Cond.constantLong own idx v ∈ zT) (h : Zw d own cc nL rt Q (pc + 3) L (.long v :: st) μ τ) : Zw d own cc nL rt Q pc L (st) μ τ := by
  intro p l e R s m args below meth c D ad ac X K cells slots H locs ls hC hH hL hK
  exact lv_ldc2 hC.1 hC.2.1 hC.2.2.2.2.2.1 (hC.2.2.2.2.2.2.1 _ hw) hd (h p l e R s m args below meth c D ad ac X K cells slots H locs ls hC hH hL hK)
theorem Zw_if_eq {x : Int32} {off : Int} (tgt : Nat) (hd : decode cc pc = .ok (.ifCond .eq off, 3)) (ht : (pc : Int) + off = (tgt : Int)) (h1 : x = 0 → Zw d own cc nL rt Q tgt L st μ τ) (h2 : ¬ x = 0 → Zw d own cc nL rt Q (pc + 3) L st μ τ) : Zw d own cc nL rt Q pc L (.int x :: st) μ τ := by
  intro p l e R s m args below meth c D ad ac X K cells slots H locs ls hC hH hL hK
  exact lv_if_eq hC.1 hC.2.1 hd ht (fun c1 => h1 c1 p l e R s m args below meth c D ad ac X K cells slots H locs ls hC hH hL hK) (fun c1 => h2 (by simpa using c1) p l e R s m args below meth c D ad ac X K cells slots H locs ls hC hH hL hK)
theorem Zw_if_ne {x : Int32} {off : Int} (tgt : Nat) (hd : decode cc pc = .ok (.ifCond .ne off, 3)) (ht : (pc : Int) + off = (tgt : Int)) (h1 : ¬ x = 0 → Zw d own cc nL rt Q tgt L st μ τ) (h2 : x = 0 → Zw d own cc nL rt Q (pc + 3) L st μ τ) : Zw d own cc nL rt Q pc L (.int x :: st) μ τ := by
  intro p l e R s m args below meth c D ad ac X K cells slots H locs ls hC hH hL hK
  exact lv_if_ne hC.1 hC.2.1 hd ht (fun c1 => h1 c1 p l e R s m args below meth c D ad ac X K cells slots H locs ls hC hH hL hK) (fun c1 => h2 (by simpa using c1) p l e R s m args below meth c D ad ac X K cells slots H locs ls hC hH hL hK)
theorem Zw_if_lt {x : Int32} {off : Int} (tgt : Nat) (hd : decode cc pc = .ok (.ifCond .lt off, 3)) (ht : (pc : Int) + off = (tgt : Int)) (h1 : x < 0 → Zw d own cc nL rt Q tgt L st μ τ) (h2 : ¬ x < 0 → Zw d own cc nL rt Q (pc + 3) L st μ τ) : Zw d own cc nL rt Q pc L (.int x :: st) μ τ := by
  intro p l e R s m args below meth c D ad ac X K cells slots H locs ls hC hH hL hK
  exact lv_if_lt hC.1 hC.2.1 hd ht (fun c1 => h1 c1 p l e R s m args below meth c D ad ac X K cells slots H locs ls hC hH hL hK) (fun c1 => h2 (by simpa using c1) p l e R s m args below meth c D ad ac X K cells slots H locs ls hC hH hL hK)
theorem Zw_if_ge {x : Int32} {off : Int} (tgt : Nat) (hd : decode cc pc = .ok (.ifCond .ge off, 3)) (ht : (pc : Int) + off = (tgt : Int)) (h1 : 0 ≤ x → Zw d own cc nL rt Q tgt L st μ τ) (h2 : ¬ 0 ≤ x → Zw d own cc nL rt Q (pc + 3) L st μ τ) : Zw d own cc nL rt Q pc L (.int x :: st) μ τ := by
  intro p l e R s m args below meth c D ad ac X K cells slots H locs ls hC hH hL hK
  exact lv_if_ge hC.1 hC.2.1 hd ht (fun c1 => h1 c1 p l e R s m args below meth c D ad ac X K cells slots H locs ls hC hH hL hK) (fun c1 => h2 (by simpa using c1) p l e R s m args below meth c D ad ac X K cells slots H locs ls hC hH hL hK)
theorem Zw_if_gt {x : Int32} {off : Int} (tgt : Nat) (hd : decode cc pc = .ok (.ifCond .gt off, 3)) (ht : (pc : Int) + off = (tgt : Int)) (h1 : 0 < x → Zw d own cc nL rt Q tgt L st μ τ) (h2 : ¬ 0 < x → Zw d own cc nL rt Q (pc + 3) L st μ τ) : Zw d own cc nL rt Q pc L (.int x :: st) μ τ := by
  intro p l e R s m args below meth c D ad ac X K cells slots H locs ls hC hH hL hK
  exact lv_if_gt hC.1 hC.2.1 hd ht (fun c1 => h1 c1 p l e R s m args below meth c D ad ac X K cells slots H locs ls hC hH hL hK) (fun c1 => h2 (by simpa using c1) p l e R s m args below meth c D ad ac X K cells slots H locs ls hC hH hL hK)
theorem Zw_if_le {x : Int32} {off : Int} (tgt : Nat) (hd : decode cc pc = .ok (.ifCond .le off, 3)) (ht : (pc : Int) + off = (tgt : Int)) (h1 : x ≤ 0 → Zw d own cc nL rt Q tgt L st μ τ) (h2 : ¬ x ≤ 0 → Zw d own cc nL rt Q (pc + 3) L st μ τ) : Zw d own cc nL rt Q pc L (.int x :: st) μ τ := by
  intro p l e R s m args below meth c D ad ac X K cells slots H locs ls hC hH hL hK
  exact lv_if_le hC.1 hC.2.1 hd ht (fun c1 => h1 c1 p l e R s m args below meth c D ad ac X K cells slots H locs ls hC hH hL hK) (fun c1 => h2 (by simpa using c1) p l e R s m args below meth c D ad ac X K cells slots H locs ls hC hH hL hK)
theorem Zw_icmp_eq {x y : Int32} {off : Int} (tgt : Nat) (hd : decode cc pc = .ok (.if_icmp .eq off, 3)) (ht : (pc : Int) + off = (tgt : Int)) (h1 : x = y → Zw d own cc nL rt Q tgt L st μ τ) (h2 : ¬ x = y → Zw d own cc nL rt Q (pc + 3) L st μ τ) : Zw d own cc nL rt Q pc L (.int y :: .int x :: st) μ τ := by
  intro p l e R s m args below meth c D ad ac X K cells slots H locs ls hC hH hL hK
  exact lv_icmp_eq hC.1 hC.2.1 hd ht (fun c1 => h1 c1 p l e R s m args below meth c D ad ac X K cells slots H locs ls hC hH hL hK) (fun c1 => h2 (by simpa using c1) p l e R s m args below meth c D ad ac X K cells slots H locs ls hC hH hL hK)
theorem Zw_icmp_ne {x y : Int32} {off : Int} (tgt : Nat) (hd : decode cc pc = .ok (.if_icmp .ne off, 3)) (ht : (pc : Int) + off = (tgt : Int)) (h1 : ¬ x = y → Zw d own cc nL rt Q tgt L st μ τ) (h2 : x = y → Zw d own cc nL rt Q (pc + 3) L st μ τ) : Zw d own cc nL rt Q pc L (.int y :: .int x :: st) μ τ := by
  intro p l e R s m args below meth c D ad ac X K cells slots H locs ls hC hH hL hK
  exact lv_icmp_ne hC.1 hC.2.1 hd ht (fun c1 => h1 c1 p l e R s m args below meth c D ad ac X K cells slots H locs ls hC hH hL hK) (fun c1 => h2 (by simpa using c1) p l e R s m args below meth c D ad ac X K cells slots H locs ls hC hH hL hK)
theorem Zw_icmp_lt {x y : Int32} {off : Int} (tgt : Nat) (hd : decode cc pc = .ok (.if_icmp .lt off, 3)) (ht : (pc : Int) + off = (tgt : Int)) (h1 : x < y → Zw d own cc nL rt Q tgt L st μ τ) (h2 : ¬ x < y → Zw d own cc nL rt Q (pc + 3) L st μ τ) : Zw d own cc nL rt Q pc L (.int y :: .int x :: st) μ τ := by
  intro p l e R s m args below meth c D ad ac X K cells slots H locs ls hC hH hL hK
  exact lv_icmp_lt hC.1 hC.2.1 hd ht (fun c1 => h1 c1 p l e R s m args below meth c D ad ac X K cells slots H locs ls hC hH hL hK) (fun c1 => h2 (by simpa using c1) p l e R s m args below meth c D ad ac X K cells slots H locs ls hC hH hL hK)
theorem Zw_icmp_ge {x y : Int32} {off : Int} (tgt : Nat) (hd : decode cc pc = .ok (.if_icmp .ge off, 3)) (ht : (pc : Int) + off = (tgt : Int)) (h1 : y ≤ x → Zw d own cc nL rt Q tgt L st μ τ) (h2 : ¬ y ≤ x → Zw d own cc nL rt Q (pc + 3) L st μ τ) : Zw d own cc nL rt Q pc L (.int y :: .int x :: st) μ τ := by
  intro p l e R s m args below meth c D ad ac X K cells slots H locs ls hC hH hL hK
  exact lv_icmp_ge hC.1 hC.2.1 hd ht (fun c1 => h1 c1 p l e R s m args below meth c D ad ac X K cells slots H locs ls hC hH hL hK) (fun c1 => h2 (by simpa using c1) p l e R s m args below meth c D ad ac X K cells slots H locs ls hC hH hL hK)
theorem Zw_icmp_gt {x y : Int32} {off : Int} (tgt : Nat) (hd : decode cc pc = .ok (.if_icmp .gt off, 3)) (ht : (pc : Int) + off = (tgt : Int)) (h1 : y < x → Zw d own cc nL rt Q tgt L st μ τ) (h2 : ¬ y < x → Zw d own cc nL rt Q (pc + 3) L st μ τ) : Zw d own cc nL rt Q pc L (.int y :: .int x :: st) μ τ := by
  intro p l e R s m args below meth c D ad ac X K cells slots H locs ls hC hH hL hK
  exact lv_icmp_gt hC.1 hC.2.1 hd ht (fun c1 => h1 c1 p l e R s m args below meth c D ad ac X K cells slots H locs ls hC hH hL hK) (fun c1 => h2 (by simpa using c1) p l e R s m args below meth c D ad ac X K cells slots H locs ls hC hH hL hK)
theorem Zw_icmp_le {x y : Int32} {off : Int} (tgt : Nat) (hd : decode cc pc = .ok (.if_icmp .le off, 3)) (ht : (pc : Int) + off = (tgt : Int)) (h1 : x ≤ y → Zw d own cc nL rt Q tgt L st μ τ) (h2 : ¬ x ≤ y → Zw d own cc nL rt Q (pc + 3) L st μ τ) : Zw d own cc nL rt Q pc L (.int y :: .int x :: st) μ τ := by
  intro p l e R s m args below meth c D ad ac X K cells slots H locs ls hC hH hL hK
  exact lv_icmp_le hC.1 hC.2.1 hd ht (fun c1 => h1 c1 p l e R s m args below meth c D ad ac X K cells slots H locs ls hC hH hL hK) (fun c1 => h2 (by simpa using c1) p l e R s m args below meth c D ad ac X K cells slots H locs ls hC hH hL hK)
theorem Zw_goto {off : Int} (tgt : Nat) (hd : decode cc pc = .ok (.goto off, 3)) (ht : (pc : Int) + off = (tgt : Int)) (h : Zw d own cc nL rt Q tgt L st μ τ) : Zw d own cc nL rt Q pc L st μ τ := by
  intro p l e R s m args below meth c D ad ac X K cells slots H locs ls hC hH hL hK
  exact lv_goto hC.1 hC.2.1 hd ht (h p l e R s m args below meth c D ad ac X K cells slots H locs ls hC hH hL hK)
theorem Zw_switch {dflt lo hi : Int} {offs : Array Int} {len : Nat} {x : Int32} (td : Nat) (tg : Nat → Nat) (hd : decode cc pc = .ok (.tableswitch dflt lo hi offs, len)) (htd : (pc : Int) + dflt = (td : Int)) (htg : ∀ i : Nat, lo + (i : Int) ≤ hi → ∃ off, offs[i]? = some off ∧ (pc : Int) + off = (tg i : Int)) (h1 : ∀ i : Nat, x.toInt = lo + (i : Int) → lo + (i : Int) ≤ hi → Zw d own cc nL rt Q (tg i) L st μ τ) (h2 : x.toInt < lo ∨ hi < x.toInt → Zw d own cc nL rt Q td L st μ τ) : Zw d own cc nL rt Q pc L (.int x :: st) μ τ := by
  intro p l e R s m args below meth c D ad ac X K cells slots H locs ls hC hH hL hK
  by_cases hx : x.toInt < lo ∨ hi < x.toInt
  · exact lv_tableOut hC.1 hC.2.1 hd hx htd (h2 hx p l e R s m args below meth c D ad ac X K cells slots H locs ls hC hH hL hK)
  · have e1 : x.toInt = lo + ((x.toInt - lo).toNat : Int) := by omega
    have e2 : lo + ((x.toInt - lo).toNat : Int) ≤ hi := by omega
    obtain ⟨off, o1, o2⟩ := htg _ e2
    exact lv_tableIn hC.1 hC.2.1 hd (by omega) (by omega) o1 o2 (h1 _ e1 e2 p l e R s m args below meth c D ad ac X K cells slots H locs ls hC hH hL hK)
theorem zLs_get {ad : Nat → Nat} {ls : Array Slot} {nL : Nat} {L : List Value} (h : zLs ad ls nL L) (i : Nat) {v : Value} (hv : L[i]? = some v) (hn : v ≠ .null) : ls[i]? = some (.val (tr ad v)) := h.2.2.2 i v hv hn
/-- what the kit asks of the locals, out of zLs: those that are known -/
def zLv (ad : Nat → Nat) (L : List Value) : List (Nat × Value) := (List.range L.length).filterMap (fun i => match L[i]? with | some Value.null => none | some v => some (i, tr ad v) | none => none)
theorem zLv_mem {ad : Nat → Nat} {L : List Value} {i : Nat} {v : Value} (h : L[i]? = some v) (hn : v ≠ .null) : (i, tr ad v) ∈ zLv ad L := by
  refine List.mem_filterMap.mpr ⟨i, List.mem_range.mpr (List.getElem?_eq_some_iff.mp h).1, ?_⟩
  rw [h]
  cases v <;> first | rfl | exact absurd rfl hn
theorem zLv_of {ad : Nat → Nat} {L : List Value} {q : Nat × Value} (h : q ∈ zLv ad L) : ∃ v, L[q.1]? = some v ∧ v ≠ .null ∧ q.2 = tr ad v := by
  obtain ⟨i, -, hi⟩ := List.mem_filterMap.mp h
  cases hv : L[i]? with
  | none => rw [hv] at hi; cases hi
  | some v =>
    rw [hv] at hi
    cases v <;> first | (cases hi; done) | (cases hi; exact ⟨_, hv, (fun e => by cases e), rfl⟩)
theorem zLv_has {ad : Nat → Nat} {ls : Array Slot} {nL : Nat} {L : List Value} (h : zLs ad ls nL L) : lv_has ls nL (zLv ad L) := by
  refine ⟨h.1, h.2.1, fun q hq => ?_⟩
  obtain ⟨v, h1, h2, h3⟩ := zLv_of hq
  rw [h3]
  exact h.2.2.2 _ v h1 h2
theorem zLs_store {ad : Nat → Nat} {ls' : Array Slot} {nL : Nat} {L : List Value} {i : Nat} {v : Value} (hlen : L.length ≤ nL) (hv : v ≠ .null) (hp : ∀ w, 0 < i → L[i - 1]? = some w → w.category ≠ 2) (h : lv_has ls' nL ((i, tr ad v) :: (zLv ad L).filter (fun q => !(q.1 == i) && !(q.1 + 1 == i && q.2.category == 2)))) : zLs ad ls' nL (L.set i v) := by
  refine ⟨h.1, h.2.1, by rw [List.length_set]; exact hlen, fun j w h1 h2 => ?_⟩
  rw [List.getElem?_set] at h1
  by_cases hj : i = j
  · subst hj
    rw [if_pos rfl] at h1
    split at h1
    · cases h1
      exact h.2.2 (i, tr ad v) List.mem_cons_self
    · cases h1
  · rw [if_neg hj] at h1
    refine h.2.2 (j, tr ad w) (List.mem_cons_of_mem _ (List.mem_filter.mpr ⟨zLv_mem h1 h2, ?_⟩))
    have e1 : ¬ j = i := fun e => hj e.symm
    by_cases e2 : j + 1 = i
    · have e3 := hp w (by omega) (by rw [show i - 1 = j by omega]; exact h1)
      have e4 : ¬ (tr ad w).category = 2 := by rw [tr_cat]; exact e3
      simp [e1, e4]
    · simp [e1, e2]
theorem zLs_store2 {ad : Nat → Nat} {ls' : Array Slot} {nL : Nat} {L : List Value} {i : Nat} {v : Value} (hlen : L.length ≤ nL) (hv : v ≠ .null) (hp : ∀ w, 0 < i → L[i - 1]? = some w → w.category ≠ 2) (h : lv_has ls' nL ((i, tr ad v) :: (zLv ad L).filter (fun q => !(q.1 == i) && (!(q.1 == i + 1) && !(q.1 + 1 == i && q.2.category == 2))))) : zLs ad ls' nL ((L.set i v).set (i + 1) .null) := by
  refine ⟨h.1, h.2.1, by rw [List.length_set, List.length_set]; exact hlen, fun j w h1 h2 => ?_⟩
  rw [List.getElem?_set] at h1
  by_cases hj2 : i + 1 = j
  · rw [if_pos hj2] at h1
    split at h1
    · cases h1; exact absurd rfl h2
    · cases h1
  · rw [if_neg hj2, List.getElem?_set] at h1
    by_cases hj : i = j
    · subst hj
      rw [if_pos rfl] at h1
      split at h1
      · cases h1
        exact h.2.2 (i, tr ad v) List.mem_cons_self
      · cases h1
    · rw [if_neg hj] at h1
      refine h.2.2 (j, tr ad w) (List.mem_cons_of_mem _ (List.mem_filter.mpr ⟨zLv_mem h1 h2, ?_⟩))
      have e1 : ¬ j = i := fun e => hj e.symm
      have e5 : ¬ j = i + 1 := fun e => hj2 e.symm
      by_cases e2 : j + 1 = i
      · have e3 := hp w (by omega) (by rw [show i - 1 = j by omega]; exact h1)
        have e4 : ¬ (tr ad w).category = 2 := by rw [tr_cat]; exact e3
        simp [e1, e5, e4]
      · simp [e1, e5, e2]
def zsub : List Value → List Value → Prop
  | [], _ => True
  | a :: l, b :: r => (a = .null ∨ a = b) ∧ zsub l r
  | a :: l, [] => a = .null ∧ zsub l []
theorem zsub_get : ∀ (L' L : List Value), zsub L' L → ∀ (i : Nat) (v : Value), L'[i]? = some v → v ≠ .null → L[i]? = some v
  | [], _, _, i, v, h, _ => by simp at h
  | a :: l, b :: r, h, 0, v, h1, h2 => by
    simp only [List.getElem?_cons_zero, Option.some.injEq] at h1 ⊢
    subst h1
    rcases h.1 with e | e
    · exact absurd e h2
    · exact e.symm
  | a :: l, b :: r, h, i + 1, v, h1, h2 => by
    rw [List.getElem?_cons_succ] at h1 ⊢
    exact zsub_get l r h.2 i v h1 h2
  | a :: l, [], h, 0, v, h1, h2 => by
    simp only [List.getElem?_cons_zero, Option.some.injEq] at h1
    subst h1
    exact absurd h.1 h2
  | a :: l, [], h, i + 1, v, h1, h2 => by
    rw [List.getElem?_cons_succ] at h1
    have := zsub_get l [] h.2 i v h1 h2
    simp at this
theorem Zw_drop {L' : List Value} (hs : zsub L' L) (hlen : L'.length ≤ L.length) (h : Zw d own cc nL rt Q pc L' st μ τ) : Zw d own cc nL rt Q pc L st μ τ := by
  intro p l e R s m args below meth c D ad ac X K cells slots H locs ls hC hH hL hK
  exact h p l e R s m args below meth c D ad ac X K cells slots H locs ls hC hH ⟨hL.1, hL.2.1, Nat.le_trans hlen hL.2.2.1, fun i v h1 h2 => hL.2.2.2 i v (zsub_get L' L hs i v h1 h2) h2⟩ hK
theorem Zw_iload_0 {x : Int32} {L0 : List Value} (hd : decode cc pc = .ok (.iload_n 0, 1)) (h : Zw d own cc nL rt Q (pc + 1) (.int x :: L0) (.int x :: st) μ τ) : Zw d own cc nL rt Q pc (.int x :: L0) st μ τ := by
  intro p l e R s m args below meth c D ad ac X K cells slots H locs ls hC hH hL hK
  exact lv_iload_n hC.1 hC.2.1 hd rfl (zLs_get hL 0 rfl (by intro e; cases e)) (h p l e R s m args below meth c D ad ac X K cells slots H locs ls hC hH hL hK)
theorem Zw_aload_0 {x : Nat} {L0 : List Value} (hd : decode cc pc = .ok (.aload_n 0, 1)) (h : Zw d own cc nL rt Q (pc + 1) (.ref x :: L0) (.ref x :: st) μ τ) : Zw d own cc nL rt Q pc (.ref x :: L0) st μ τ := by
  intro p l e R s m args below meth c D ad ac X K cells slots H locs ls hC hH hL hK
  exact lv_aload_n hC.1 hC.2.1 hd rfl (zLs_get hL 0 rfl (by intro e; cases e)) (h p l e R s m args below meth c D ad ac X K cells slots H locs ls hC hH hL hK)
theorem Zw_lload_0 {x : Int64} {L0 : List Value} (hd : decode cc pc = .ok (.lload_n 0, 1)) (h : Zw d own cc nL rt Q (pc + 1) (.long x :: L0) (.long x :: st) μ τ) : Zw d own cc nL rt Q pc (.long x :: L0) st μ τ := by
  intro p l e R s m args below meth c D ad ac X K cells slots H locs ls hC hH hL hK
  exact lv_lload_n hC.1 hC.2.1 hd rfl (zLs_get hL 0 rfl (by intro e; cases e)) (h p l e R s m args below meth c D ad ac X K cells slots H locs ls hC hH hL hK)
theorem Zw_istore_0 {u : Value} {x : Int32} {L0 : List Value} (hd : decode cc pc = .ok (.istore_n 0, 1)) (h : Zw d own cc nL rt Q (pc + 1) (.int x :: L0) st μ τ) : Zw d own cc nL rt Q pc (u :: L0) (.int x :: st) μ τ := by
  intro p l e R s m args below meth c D ad ac X K cells slots H locs ls hC hH hL hK
  have hlen := hL.2.2.1
  exact lv_istore_n hC.1 hC.2.1 hd rfl (zLv_has hL) (Nat.lt_of_lt_of_le (by simp only [List.length_cons]; omega) hlen) rfl (fun ls1 hl1 => h p l e R s m args below meth c D ad ac X K cells slots H locs ls1 hC hH (zLs_store (v := .int x) (L := u :: L0) hlen (by intro e; cases e) (fun w h0 hw => absurd h0 (Nat.lt_irrefl 0)) hl1) hK)
theorem Zw_astore_0 {u : Value} {x : Nat} {L0 : List Value} (hd : decode cc pc = .ok (.astore_n 0, 1)) (h : Zw d own cc nL rt Q (pc + 1) (.ref x :: L0) st μ τ) : Zw d own cc nL rt Q pc (u :: L0) (.ref x :: st) μ τ := by
  intro p l e R s m args below meth c D ad ac X K cells slots H locs ls hC hH hL hK
  have hlen := hL.2.2.1
  exact lv_astore_n hC.1 hC.2.1 hd rfl (zLv_has hL) (Nat.lt_of_lt_of_le (by simp only [List.length_cons]; omega) hlen) rfl (fun ls1 hl1 => h p l e R s m args below meth c D ad ac X K cells slots H locs ls1 hC hH (zLs_store (v := .ref x) (L := u :: L0) hlen (by intro e; cases e) (fun w h0 hw => absurd h0 (Nat.lt_irrefl 0)) hl1) hK)
theorem Zw_lstore_0 {u u2 : Value} {x : Int64} {L0 : List Value} (hd : decode cc pc = .ok (.lstore_n 0, 1)) (h : Zw d own cc nL rt Q (pc + 1) (.long x :: .null :: L0) st μ τ) : Zw d own cc nL rt Q pc (u :: u2 :: L0) (.long x :: st) μ τ := by
  intro p l e R s m args below meth c D ad ac X K cells slots H locs ls hC hH hL hK
  have hlen := hL.2.2.1
  exact lv_lstore_n hC.1 hC.2.1 hd rfl (zLv_has hL) (Nat.lt_of_lt_of_le (by simp only [List.length_cons]; omega) hlen) rfl (fun ls1 hl1 => h p l e R s m args below meth c D ad ac X K cells slots H locs ls1 hC hH (zLs_store2 (v := .long x) (L := u :: u2 :: L0) hlen (by intro e; cases e) (fun w h0 hw => absurd h0 (Nat.lt_irrefl 0)) hl1) hK)
theorem Zw_iinc_0 {x y : Int32} {n : Int} {L0 : List Value} (hd : decode cc pc = .ok (.iinc 0 n, 3)) (hy : x + Int32.ofInt n = y) (h : Zw d own cc nL rt Q (pc + 3) (.int y :: L0) st μ τ) : Zw d own cc nL rt Q pc (.int x :: L0) st μ τ := by
  intro p l e R s m args below meth c D ad ac X K cells slots H locs ls hC hH hL hK
  have hlen := hL.2.2.1
  obtain ⟨k1, hk1⟩ := List.getElem?_of_mem (zLv_mem (ad := ad) (L := .int x :: L0) (i := 0) (v := .int x) rfl (by intro e; cases e))
  exact lv_iinc hC.1 hC.2.1 hd (zLv_has hL) hk1 hy (Nat.lt_of_lt_of_le (by simp only [List.length_cons]; omega) hlen) rfl (fun ls1 hl1 => h p l e R s m args below meth c D ad ac X K cells slots H locs ls1 hC hH (zLs_store (v := .int y) (L := .int x :: L0) hlen (by intro e; cases e) (fun w h0 hw => absurd h0 (Nat.lt_irrefl 0)) hl1) hK)
theorem Zw_iload_1 {v0 : Value} {x : Int32} {L0 : List Value} (hd : decode cc pc = .ok (.iload_n 1, 1)) (h : Zw d own cc nL rt Q (pc + 1) (v0 :: .int x :: L0) (.int x :: st) μ τ) : Zw d own cc nL rt Q pc (v0 :: .int x :: L0) st μ τ := by
  intro p l e R s m args below meth c D ad ac X K cells slots H locs ls hC hH hL hK
  exact lv_iload_n hC.1 hC.2.1 hd rfl (zLs_get hL 1 rfl (by intro e; cases e)) (h p l e R s m args below meth c D ad ac X K cells slots H locs ls hC hH hL hK)
theorem Zw_aload_1 {v0 : Value} {x : Nat} {L0 : List Value} (hd : decode cc pc = .ok (.aload_n 1, 1)) (h : Zw d own cc nL rt Q (pc + 1) (v0 :: .ref x :: L0) (.ref x :: st) μ τ) : Zw d own cc nL rt Q pc (v0 :: .ref x :: L0) st μ τ := by
  intro p l e R s m args below meth c D ad ac X K cells slots H locs ls hC hH hL hK
  exact lv_aload_n hC.1 hC.2.1 hd rfl (zLs_get hL 1 rfl (by intro e; cases e)) (h p l e R s m args below meth c D ad ac X K cells slots H locs ls hC hH hL hK)
theorem Zw_lload_1 {v0 : Value} {x : Int64} {L0 : List Value} (hd : decode cc pc = .ok (.lload_n 1, 1)) (h : Zw d own cc nL rt Q (pc + 1) (v0 :: .long x :: L0) (.long x :: st) μ τ) : Zw d own cc nL rt Q pc (v0 :: .long x :: L0) st μ τ := by
  intro p l e R s m args below meth c D ad ac X K cells slots H locs ls hC hH hL hK
  exact lv_lload_n hC.1 hC.2.1 hd rfl (zLs_get hL 1 rfl (by intro e; cases e)) (h p l e R s m args below meth c D ad ac X K cells slots H locs ls hC hH hL hK)
theorem Zw_istore_1 {v0 : Value} {u : Value} {x : Int32} {L0 : List Value} (hd : decode cc pc = .ok (.istore_n 1, 1)) (hc : v0.category = 1) (h : Zw d own cc nL rt Q (pc + 1) (v0 :: .int x :: L0) st μ τ) : Zw d own cc nL rt Q pc (v0 :: u :: L0) (.int x :: st) μ τ := by
  intro p l e R s m args below meth c D ad ac X K cells slots H locs ls hC hH hL hK
  have hlen := hL.2.2.1
  exact lv_istore_n hC.1 hC.2.1 hd rfl (zLv_has hL) (Nat.lt_of_lt_of_le (by simp only [List.length_cons]; omega) hlen) rfl (fun ls1 hl1 => h p l e R s m args below meth c D ad ac X K cells slots H locs ls1 hC hH (zLs_store (v := .int x) (L := v0 :: u :: L0) hlen (by intro e; cases e) (fun w h0 hw => by cases hw; rw [hc]; decide) hl1) hK)
theorem Zw_astore_1 {v0 : Value} {u : Value} {x : Nat} {L0 : List Value} (hd : decode cc pc = .ok (.astore_n 1, 1)) (hc : v0.category = 1) (h : Zw d own cc nL rt Q (pc + 1) (v0 :: .ref x :: L0) st μ τ) : Zw d own cc nL rt Q pc (v0 :: u :: L0) (.ref x :: st) μ τ := by
  intro p l e R s m args below meth c D ad ac X K cells slots H locs ls hC hH hL hK
  have hlen := hL.2.2.1
  exact lv_astore_n hC.1 hC.2.1 hd rfl (zLv_has hL) (Nat.lt_of_lt_of_le (by simp only [List.length_cons]; omega) hlen) rfl (fun ls1 hl1 => h p l e R s m args below meth c D ad ac X K cells slots H locs ls1 hC hH (zLs_store (v := .ref x) (L := v0 :: u :: L0) hlen (by intro e; cases e) (fun w h0 hw => by cases hw; rw [hc]; decide) hl1) hK)
theorem Zw_lstore_1 {v0 : Value} {u u2 : Value} {x : Int64} {L0 : List Value} (hd : decode cc pc = .ok (.lstore_n 1, 1)) (hc : v0.category = 1) (h : Zw d own cc nL rt Q (pc + 1) (v0 :: .long x :: .null :: L0) st μ τ) : Zw d own cc nL rt Q pc (v0 :: u :: u2 :: L0) (.long x :: st) μ τ := by
  intro p l e R s m args below meth c D ad ac X K cells slots H locs ls hC hH hL hK
  have hlen := hL.2.2.1
  exact lv_lstore_n hC.1 hC.2.1 hd rfl (zLv_has hL) (Nat.lt_of_lt_of_le (by simp only [List.length_cons]; omega) hlen) rfl (fun ls1 hl1 => h p l e R s m args below meth c D ad ac X K cells slots H locs ls1 hC hH (zLs_store2 (v := .long x) (L := v0 :: u :: u2 :: L0) hlen (by intro e; cases e) (fun w h0 hw => by cases hw; rw [hc]; decide) hl1) hK)
theorem Zw_iinc_1 {v0 : Value} {x y : Int32} {n : Int} {L0 : List Value} (hd : decode cc pc = .ok (.iinc 1 n, 3)) (hc : v0.category = 1) (hy : x + Int32.ofInt n = y) (h : Zw d own cc nL rt Q (pc + 3) (v0 :: .int y :: L0) st μ τ) : Zw d own cc nL rt Q pc (v0 :: .int x :: L0) st μ τ := by
  intro p l e R s m args below meth c D ad ac X K cells slots H locs ls hC hH hL hK
  have hlen := hL.2.2.1
  obtain ⟨k1, hk1⟩ := List.getElem?_of_mem (zLv_mem (ad := ad) (L := v0 :: .int x :: L0) (i := 1) (v := .int x) rfl (by intro e; cases e))
  exact lv_iinc hC.1 hC.2.1 hd (zLv_has hL) hk1 hy (Nat.lt_of_lt_of_le (by simp only [List.length_cons]; omega) hlen) rfl (fun ls1 hl1 => h p l e R s m args below meth c D ad ac X K cells slots H locs ls1 hC hH (zLs_store (v := .int y) (L := v0 :: .int x :: L0) hlen (by intro e; cases e) (fun w h0 hw => by cases hw; rw [hc]; decide) hl1) hK)
theorem Zw_iload_2 {v0 v1 : Value} {x : Int32} {L0 : List Value} (hd : decode cc pc = .ok (.iload_n 2, 1)) (h : Zw d own cc nL rt Q (pc + 1) (v0 :: v1 :: .int x :: L0) (.int x :: st) μ τ) : Zw d own cc nL rt Q pc (v0 :: v1 :: .int x :: L0) st μ τ := by
  intro p l e R s m args below meth c D ad ac X K cells slots H locs ls hC hH hL hK
  exact lv_iload_n hC.1 hC.2.1 hd rfl (zLs_get hL 2 rfl (by intro e; cases e)) (h p l e R s m args below meth c D ad ac X K cells slots H locs ls hC hH hL hK)
theorem Zw_aload_2 {v0 v1 : Value} {x : Nat} {L0 : List Value} (hd : decode cc pc = .ok (.aload_n 2, 1)) (h : Zw d own cc nL rt Q (pc + 1) (v0 :: v1 :: .ref x :: L0) (.ref x :: st) μ τ) : Zw d own cc nL rt Q pc (v0 :: v1 :: .ref x :: L0) st μ τ := by
  intro p l e R s m args below meth c D ad ac X K cells slots H locs ls hC hH hL hK
  exact lv_aload_n hC.1 hC.2.1 hd rfl (zLs_get hL 2 rfl (by intro e; cases e)) (h p l e R s m args below meth c D ad ac X K cells slots H locs ls hC hH hL hK)
theorem Zw_lload_2 {v0 v1 : Value} {x : Int64} {L0 : List Value} (hd : decode cc pc = .ok (.lload_n 2, 1)) (h : Zw d own cc nL rt Q (pc + 1) (v0 :: v1 :: .long x :: L0) (.long x :: st) μ τ) : Zw d own cc nL rt Q pc (v0 :: v1 :: .long x :: L0) st μ τ := by
  intro p l e R s m args below meth c D ad ac X K cells slots H locs ls hC hH hL hK
  exact lv_lload_n hC.1 hC.2.1 hd rfl (zLs_get hL 2 rfl (by intro e; cases e)) (h p l e R s m args below meth c D ad ac X K cells slots H locs ls hC hH hL hK)
theorem Zw_istore_2 {v0 v1 : Value} {u : Value} {x : Int32} {L0 : List Value} (hd : decode cc pc = .ok (.istore_n 2, 1)) (hc : v1.category = 1) (h : Zw d own cc nL rt Q (pc + 1) (v0 :: v1 :: .int x :: L0) st μ τ) : Zw d own cc nL rt Q pc (v0 :: v1 :: u :: L0) (.int x :: st) μ τ := by
  intro p l e R s m args below meth c D ad ac X K cells slots H locs ls hC hH hL hK
  have hlen := hL.2.2.1
  exact lv_istore_n hC.1 hC.2.1 hd rfl (zLv_has hL) (Nat.lt_of_lt_of_le (by simp only [List.length_cons]; omega) hlen) rfl (fun ls1 hl1 => h p l e R s m args below meth c D ad ac X K cells slots H locs ls1 hC hH (zLs_store (v := .int x) (L := v0 :: v1 :: u :: L0) hlen (by intro e; cases e) (fun w h0 hw => by cases hw; rw [hc]; decide) hl1) hK)
theorem Zw_astore_2 {v0 v1 : Value} {u : Value} {x : Nat} {L0 : List Value} (hd : decode cc pc = .ok (.astore_n 2, 1)) (hc : v1.category = 1) (h : Zw d own cc nL rt Q (pc + 1) (v0 :: v1 :: .ref x :: L0) st μ τ) : Zw d own cc nL rt Q pc (v0 :: v1 :: u :: L0) (.ref x :: st) μ τ := by
  intro p l e R s m args below meth c D ad ac X K cells slots H locs ls hC hH hL hK
  have hlen := hL.2.2.1
  exact lv_astore_n hC.1 hC.2.1 hd rfl (zLv_has hL) (Nat.lt_of_lt_of_le (by simp only [List.length_cons]; omega) hlen) rfl (fun ls1 hl1 => h p l e R s m args below meth c D ad ac X K cells slots H locs ls1 hC hH (zLs_store (v := .ref x) (L := v0 :: v1 :: u :: L0) hlen (by intro e; cases e) (fun w h0 hw => by cases hw; rw [hc]; decide) hl1) hK)
theorem Zw_lstore_2 {v0 v1 : Value} {u u2 : Value} {x : Int64} {L0 : List Value} (hd : decode cc pc = .ok (.lstore_n 2, 1)) (hc : v1.category = 1) (h : Zw d own cc nL rt Q (pc + 1) (v0 :: v1 :: .long x :: .null :: L0) st μ τ) : Zw d own cc nL rt Q pc (v0 :: v1 :: u :: u2 :: L0) (.long x :: st) μ τ := by
  intro p l e R s m args below meth c D ad ac X K cells slots H locs ls hC hH hL hK
  have hlen := hL.2.2.1
  exact lv_lstore_n hC.1 hC.2.1 hd rfl (zLv_has hL) (Nat.lt_of_lt_of_le (by simp only [List.length_cons]; omega) hlen) rfl (fun ls1 hl1 => h p l e R s m args below meth c D ad ac X K cells slots H locs ls1 hC hH (zLs_store2 (v := .long x) (L := v0 :: v1 :: u :: u2 :: L0) hlen (by intro e; cases e) (fun w h0 hw => by cases hw; rw [hc]; decide) hl1) hK)
theorem Zw_iinc_2 {v0 v1 : Value} {x y : Int32} {n : Int} {L0 : List Value} (hd : decode cc pc = .ok (.iinc 2 n, 3)) (hc : v1.category = 1) (hy : x + Int32.ofInt n = y) (h : Zw d own cc nL rt Q (pc + 3) (v0 :: v1 :: .int y :: L0) st μ τ) : Zw d own cc nL rt Q pc (v0 :: v1 :: .int x :: L0) st μ τ := by
  intro p l e R s m args below meth c D ad ac X K cells slots H locs ls hC hH hL hK
  have hlen := hL.2.2.1
  obtain ⟨k1, hk1⟩ := List.getElem?_of_mem (zLv_mem (ad := ad) (L := v0 :: v1 :: .int x :: L0) (i := 2) (v := .int x) rfl (by intro e; cases e))
  exact lv_iinc hC.1 hC.2.1 hd (zLv_has hL) hk1 hy (Nat.lt_of_lt_of_le (by simp only [List.length_cons]; omega) hlen) rfl (fun ls1 hl1 => h p l e R s m args below meth c D ad ac X K cells slots H locs ls1 hC hH (zLs_store (v := .int y) (L := v0 :: v1 :: .int x :: L0) hlen (by intro e; cases e) (fun w h0 hw => by cases hw; rw [hc]; decide) hl1) hK)
theorem Zw_iload_3 {v0 v1 v2 : Value} {x : Int32} {L0 : List Value} (hd : decode cc pc = .ok (.iload_n 3, 1)) (h : Zw d own cc nL rt Q (pc + 1) (v0 :: v1 :: v2 :: .int x :: L0) (.int x :: st) μ τ) : Zw d own cc nL rt Q pc (v0 :: v1 :: v2 :: .int x :: L0) st μ τ := by
  intro p l e R s m args below meth c D ad ac X K cells slots H locs ls hC hH hL hK
  exact lv_iload_n hC.1 hC.2.1 hd rfl (zLs_get hL 3 rfl (by intro e; cases e)) (h p l e R s m args below meth c D ad ac X K cells slots H locs ls hC hH hL hK)
theorem Zw_aload_3 {v0 v1 v2 : Value} {x : Nat} {L0 : List Value} (hd : decode cc pc = .ok (.aload_n 3, 1)) (h : Zw d own cc nL rt Q (pc + 1) (v0 :: v1 :: v2 :: .ref x :: L0) (.ref x :: st) μ τ) : Zw d own cc nL rt Q pc (v0 :: v1 :: v2 :: .ref x :: L0) st μ τ := by
  intro p l e R s m args below meth c D ad ac X K cells slots H locs ls hC hH hL hK
  exact lv_aload_n hC.1 hC.2.1 hd rfl (zLs_get hL 3 rfl (by intro e; cases e)) (h p l e R s m args below meth c D ad ac X K cells slots H locs ls hC hH hL hK)
theorem Zw_lload_3 {v0 v1 v2 : Value} {x : Int64} {L0 : List Value} (hd : decode cc pc = .ok (.lload_n 3, 1)) (h : Zw d own cc nL rt Q (pc + 1) (v0 :: v1 :: v2 :: .long x :: L0) (.long x :: st) μ τ) : Zw d own cc nL rt Q pc (v0 :: v1 :: v2 :: .long x :: L0) st μ τ := by
  intro p l e R s m args below meth c D ad ac X K cells slots H locs ls hC hH hL hK
  exact lv_lload_n hC.1 hC.2.1 hd rfl (zLs_get hL 3 rfl (by intro e; cases e)) (h p l e R s m args below meth c D ad ac X K cells slots H locs ls hC hH hL hK)
theorem Zw_istore_3 {v0 v1 v2 : Value} {u : Value} {x : Int32} {L0 : List Value} (hd : decode cc pc = .ok (.istore_n 3, 1)) (hc : v2.category = 1) (h : Zw d own cc nL rt Q (pc + 1) (v0 :: v1 :: v2 :: .int x :: L0) st μ τ) : Zw d own cc nL rt Q pc (v0 :: v1 :: v2 :: u :: L0) (.int x :: st) μ τ := by
  intro p l e R s m args below meth c D ad ac X K cells slots H locs ls hC hH hL hK
  have hlen := hL.2.2.1
  exact lv_istore_n hC.1 hC.2.1 hd rfl (zLv_has hL) (Nat.lt_of_lt_of_le (by simp only [List.length_cons]; omega) hlen) rfl (fun ls1 hl1 => h p l e R s m args below meth c D ad ac X K cells slots H locs ls1 hC hH (zLs_store (v := .int x) (L := v0 :: v1 :: v2 :: u :: L0) hlen (by intro e; cases e) (fun w h0 hw => by cases hw; rw [hc]; decide) hl1) hK)
theorem Zw_astore_3 {v0 v1 v2 : Value} {u : Value} {x : Nat} {L0 : List Value} (hd : decode cc pc = .ok (.astore_n 3, 1)) (hc : v2.category = 1) (h : Zw d own cc nL rt Q (pc + 1) (v0 :: v1 :: v2 :: .ref x :: L0) st μ τ) : Zw d own cc nL rt Q pc (v0 :: v1 :: v2 :: u :: L0) (.ref x :: st) μ τ := by
  intro p l e R s m args below meth c D ad ac X K cells slots H locs ls hC hH hL hK
  have hlen := hL.2.2.1
  exact lv_astore_n hC.1 hC.2.1 hd rfl (zLv_has hL) (Nat.lt_of_lt_of_le (by simp only [List.length_cons]; omega) hlen) rfl (fun ls1 hl1 => h p l e R s m args below meth c D ad ac X K cells slots H locs ls1 hC hH (zLs_store (v := .ref x) (L := v0 :: v1 :: v2 :: u :: L0) hlen (by intro e; cases e) (fun w h0 hw => by cases hw; rw [hc]; decide) hl1) hK)
theorem Zw_lstore_3 {v0 v1 v2 : Value} {u u2 : Value} {x : Int64} {L0 : List Value} (hd : decode cc pc = .ok (.lstore_n 3, 1)) (hc : v2.category = 1) (h : Zw d own cc nL rt Q (pc + 1) (v0 :: v1 :: v2 :: .long x :: .null :: L0) st μ τ) : Zw d own cc nL rt Q pc (v0 :: v1 :: v2 :: u :: u2 :: L0) (.long x :: st) μ τ := by
  intro p l e R s m args below meth c D ad ac X K cells slots H locs ls hC hH hL hK
  have hlen := hL.2.2.1
  exact lv_lstore_n hC.1 hC.2.1 hd rfl (zLv_has hL) (Nat.lt_of_lt_of_le (by simp only [List.length_cons]; omega) hlen) rfl (fun ls1 hl1 => h p l e R s m args below meth c D ad ac X K cells slots H locs ls1 hC hH (zLs_store2 (v := .long x) (L := v0 :: v1 :: v2 :: u :: u2 :: L0) hlen (by intro e; cases e) (fun w h0 hw => by cases hw; rw [hc]; decide) hl1) hK)
theorem Zw_iinc_3 {v0 v1 v2 : Value} {x y : Int32} {n : Int} {L0 : List Value} (hd : decode cc pc = .ok (.iinc 3 n, 3)) (hc : v2.category = 1) (hy : x + Int32.ofInt n = y) (h : Zw d own cc nL rt Q (pc + 3) (v0 :: v1 :: v2 :: .int y :: L0) st μ τ) : Zw d own cc nL rt Q pc (v0 :: v1 :: v2 :: .int x :: L0) st μ τ := by
  intro p l e R s m args below meth c D ad ac X K cells slots H locs ls hC hH hL hK
  have hlen := hL.2.2.1
  obtain ⟨k1, hk1⟩ := List.getElem?_of_mem (zLv_mem (ad := ad) (L := v0 :: v1 :: v2 :: .int x :: L0) (i := 3) (v := .int x) rfl (by intro e; cases e))
  exact lv_iinc hC.1 hC.2.1 hd (zLv_has hL) hk1 hy (Nat.lt_of_lt_of_le (by simp only [List.length_cons]; omega) hlen) rfl (fun ls1 hl1 => h p l e R s m args below meth c D ad ac X K cells slots H locs ls1 hC hH (zLs_store (v := .int y) (L := v0 :: v1 :: v2 :: .int x :: L0) hlen (by intro e; cases e) (fun w h0 hw => by cases hw; rw [hc]; decide) hl1) hK)
theorem Zw_iload_4 {v0 v1 v2 v3 : Value} {x : Int32} {L0 : List Value} (hd : decode cc pc = .ok (.iload 4, 2)) (h : Zw d own cc nL rt Q (pc + 2) (v0 :: v1 :: v2 :: v3 :: .int x :: L0) (.int x :: st) μ τ) : Zw d own cc nL rt Q pc (v0 :: v1 :: v2 :: v3 :: .int x :: L0) st μ τ := by
  intro p l e R s m args below meth c D ad ac X K cells slots H locs ls hC hH hL hK
  exact lv_iload hC.1 hC.2.1 hd (zLs_get hL 4 rfl (by intro e; cases e)) (h p l e R s m args below meth c D ad ac X K cells slots H locs ls hC hH hL hK)
theorem Zw_aload_4 {v0 v1 v2 v3 : Value} {x : Nat} {L0 : List Value} (hd : decode cc pc = .ok (.aload 4, 2)) (h : Zw d own cc nL rt Q (pc + 2) (v0 :: v1 :: v2 :: v3 :: .ref x :: L0) (.ref x :: st) μ τ) : Zw d own cc nL rt Q pc (v0 :: v1 :: v2 :: v3 :: .ref x :: L0) st μ τ := by
  intro p l e R s m args below meth c D ad ac X K cells slots H locs ls hC hH hL hK
  exact lv_aload hC.1 hC.2.1 hd (zLs_get hL 4 rfl (by intro e; cases e)) (h p l e R s m args below meth c D ad ac X K cells slots H locs ls hC hH hL hK)
theorem Zw_lload_4 {v0 v1 v2 v3 : Value} {x : Int64} {L0 : List Value} (hd : decode cc pc = .ok (.lload 4, 2)) (h : Zw d own cc nL rt Q (pc + 2) (v0 :: v1 :: v2 :: v3 :: .long x :: L0) (.long x :: st) μ τ) : Zw d own cc nL rt Q pc (v0 :: v1 :: v2 :: v3 :: .long x :: L0) st μ τ := by
  intro p l e R s m args below meth c D ad ac X K cells slots H locs ls hC hH hL hK
  exact lv_lload hC.1 hC.2.1 hd (zLs_get hL 4 rfl (by intro e; cases e)) (h p l e R s m args below meth c D ad ac X K cells slots H locs ls hC hH hL hK)
theorem Zw_istore_4 {v0 v1 v2 v3 : Value} {u : Value} {x : Int32} {L0 : List Value} (hd : decode cc pc = .ok (.istore 4, 2)) (hc : v3.category = 1) (h : Zw d own cc nL rt Q (pc + 2) (v0 :: v1 :: v2 :: v3 :: .int x :: L0) st μ τ) : Zw d own cc nL rt Q pc (v0 :: v1 :: v2 :: v3 :: u :: L0) (.int x :: st) μ τ := by
  intro p l e R s m args below meth c D ad ac X K cells slots H locs ls hC hH hL hK
  have hlen := hL.2.2.1
  exact lv_istore hC.1 hC.2.1 hd (zLv_has hL) (Nat.lt_of_lt_of_le (by simp only [List.length_cons]; omega) hlen) rfl (fun ls1 hl1 => h p l e R s m args below meth c D ad ac X K cells slots H locs ls1 hC hH (zLs_store (v := .int x) (L := v0 :: v1 :: v2 :: v3 :: u :: L0) hlen (by intro e; cases e) (fun w h0 hw => by cases hw; rw [hc]; decide) hl1) hK)
theorem Zw_astore_4 {v0 v1 v2 v3 : Value} {u : Value} {x : Nat} {L0 : List Value} (hd : decode cc pc = .ok (.astore 4, 2)) (hc : v3.category = 1) (h : Zw d own cc nL rt Q (pc + 2) (v0 :: v1 :: v2 :: v3 :: .ref x :: L0) st μ τ) : Zw d own cc nL rt Q pc (v0 :: v1 :: v2 :: v3 :: u :: L0) (.ref x :: st) μ τ := by
  intro p l e R s m args below meth c D ad ac X K cells slots H locs ls hC hH hL hK
  have hlen := hL.2.2.1
  exact lv_astore hC.1 hC.2.1 hd (zLv_has hL) (Nat.lt_of_lt_of_le (by simp only [List.length_cons]; omega) hlen) rfl (fun ls1 hl1 => h p l e R s m args below meth c D ad ac X K cells slots H locs ls1 hC hH (zLs_store (v := .ref x) (L := v0 :: v1 :: v2 :: v3 :: u :: L0) hlen (by intro e; cases e) (fun w h0 hw => by cases hw; rw [hc]; decide) hl1) hK)
theorem Zw_lstore_4 {v0 v1 v2 v3 : Value} {u u2 : Value} {x : Int64} {L0 : List Value} (hd : decode cc pc = .ok (.lstore 4, 2)) (hc : v3.category = 1) (h : Zw d own cc nL rt Q (pc + 2) (v0 :: v1 :: v2 :: v3 :: .long x :: .null :: L0) st μ τ) : Zw d own cc nL rt Q pc (v0 :: v1 :: v2 :: v3 :: u :: u2 :: L0) (.long x :: st) μ τ := by
  intro p l e R s m args below meth c D ad ac X K cells slots H locs ls hC hH hL hK
  have hlen := hL.2.2.1
  exact lv_lstore hC.1 hC.2.1 hd (zLv_has hL) (Nat.lt_of_lt_of_le (by simp only [List.length_cons]; omega) hlen) rfl (fun ls1 hl1 => h p l e R s m args below meth c D ad ac X K cells slots H locs ls1 hC hH (zLs_store2 (v := .long x) (L := v0 :: v1 :: v2 :: v3 :: u :: u2 :: L0) hlen (by intro e; cases e) (fun w h0 hw => by cases hw; rw [hc]; decide) hl1) hK)
theorem Zw_iinc_4 {v0 v1 v2 v3 : Value} {x y : Int32} {n : Int} {L0 : List Value} (hd : decode cc pc = .ok (.iinc 4 n, 3)) (hc : v3.category = 1) (hy : x + Int32.ofInt n = y) (h : Zw d own cc nL rt Q (pc + 3) (v0 :: v1 :: v2 :: v3 :: .int y :: L0) st μ τ) : Zw d own cc nL rt Q pc (v0 :: v1 :: v2 :: v3 :: .int x :: L0) st μ τ := by
  intro p l e R s m args below meth c D ad ac X K cells slots H locs ls hC hH hL hK
  have hlen := hL.2.2.1
  obtain ⟨k1, hk1⟩ := List.getElem?_of_mem (zLv_mem (ad := ad) (L := v0 :: v1 :: v2 :: v3 :: .int x :: L0) (i := 4) (v := .int x) rfl (by intro e; cases e))
  exact lv_iinc hC.1 hC.2.1 hd (zLv_has hL) hk1 hy (Nat.lt_of_lt_of_le (by simp only [List.length_cons]; omega) hlen) rfl (fun ls1 hl1 => h p l e R s m args below meth c D ad ac X K cells slots H locs ls1 hC hH (zLs_store (v := .int y) (L := v0 :: v1 :: v2 :: v3 :: .int x :: L0) hlen (by intro e; cases e) (fun w h0 hw => by cases hw; rw [hc]; decide) hl1) hK)
theorem Zw_iload_5 {v0 v1 v2 v3 v4 : Value} {x : Int32} {L0 : List Value} (hd : decode cc pc = .ok (.iload 5, 2)) (h : Zw d own cc nL rt Q (pc + 2) (v0 :: v1 :: v2 :: v3 :: v4 :: .int x :: L0) (.int x :: st) μ τ) : Zw d own cc nL rt Q pc (v0 :: v1 :: v2 :: v3 :: v4 :: .int x :: L0) st μ τ := by
  intro p l e R s m args below meth c D ad ac X K cells slots H locs ls hC hH hL hK
  exact lv_iload hC.1 hC.2.1 hd (zLs_get hL 5 rfl (by intro e; cases e)) (h p l e R s m args below meth c D ad ac X K cells slots H locs ls hC hH hL hK)
theorem Zw_aload_5 {v0 v1 v2 v3 v4 : Value} {x : Nat} {L0 : List Value} (hd : decode cc pc = .ok (.aload 5, 2)) (h : Zw d own cc nL rt Q (pc + 2) (v0 :: v1 :: v2 :: v3 :: v4 :: .ref x :: L0) (.ref x :: st) μ τ) : Zw d own cc nL rt Q pc (v0 :: v1 :: v2 :: v3 :: v4 :: .ref x :: L0) st μ τ := by
  intro p l e R s m args below meth c D ad ac X K cells slots H locs ls hC hH hL hK
  exact lv_aload hC.1 hC.2.1 hd (zLs_get hL 5 rfl (by intro e; cases e)) (h p l e R s m args below meth c D ad ac X K cells slots H locs ls hC hH hL hK)
theorem Zw_lload_5 {v0 v1 v2 v3 v4 : Value} {x : Int64} {L0 : List Value} (hd : decode cc pc = .ok (.lload 5, 2)) (h : Zw d own cc nL rt Q (pc + 2) (v0 :: v1 :: v2 :: v3 :: v4 :: .long x :: L0) (.long x :: st) μ τ) : Zw d own cc nL rt Q pc (v0 :: v1 :: v2 :: v3 :: v4 :: .long x :: L0) st μ τ := by
  intro p l e R s m args below meth c D ad ac X K cells slots H locs ls hC hH hL hK
  exact lv_lload hC.1 hC.2.1 hd (zLs_get hL 5 rfl (by intro e; cases e)) (h p l e R s m args below meth c D ad ac X K cells slots H locs ls hC hH hL hK)
theorem Zw_istore_5 {v0 v1 v2 v3 v4 : Value} {u : Value} {x : Int32} {L0 : List Value} (hd : decode cc pc = .ok (.istore 5, 2)) (hc : v4.category = 1) (h : Zw d own cc nL rt Q (pc + 2) (v0 :: v1 :: v2 :: v3 :: v4 :: .int x :: L0) st μ τ) : Zw d own cc nL rt Q pc (v0 :: v1 :: v2 :: v3 :: v4 :: u :: L0) (.int x :: st) μ τ := by
  intro p l e R s m args below meth c D ad ac X K cells slots H locs ls hC hH hL hK
  have hlen := hL.2.2.1
  exact lv_istore hC.1 hC.2.1 hd (zLv_has hL) (Nat.lt_of_lt_of_le (by simp only [List.length_cons]; omega) hlen) rfl (fun ls1 hl1 => h p l e R s m args below meth c D ad ac X K cells slots H locs ls1 hC hH (zLs_store (v := .int x) (L := v0 :: v1 :: v2 :: v3 :: v4 :: u :: L0) hlen (by intro e; cases e) (fun w h0 hw => by cases hw; rw [hc]; decide) hl1) hK)
theorem Zw_astore_5 {v0 v1 v2 v3 v4 : Value} {u : Value} {x : Nat} {L0 : List Value} (hd : decode cc pc = .ok (.astore 5, 2)) (hc : v4.category = 1) (h : Zw d own cc nL rt Q (pc + 2) (v0 :: v1 :: v2 :: v3 :: v4 :: .ref x :: L0) st μ τ) : Zw d own cc nL rt Q pc (v0 :: v1 :: v2 :: v3 :: v4 :: u :: L0) (.ref x :: st) μ τ := by
  intro p l e R s m args below meth c D ad ac X K cells slots H locs ls hC hH hL hK
  have hlen := hL.2.2.1
  exact lv_astore hC.1 hC.2.1 hd (zLv_has hL) (Nat.lt_of_lt_of_le (by simp only [List.length_cons]; omega) hlen) rfl (fun ls1 hl1 => h p l e R s m args below meth c D ad ac X K cells slots H locs ls1 hC hH (zLs_store (v := .ref x) (L := v0 :: v1 :: v2 :: v3 :: v4 :: u :: L0) hlen (by intro e; cases e) (fun w h0 hw => by cases hw; rw [hc]; decide) hl1) hK)
theorem Zw_lstore_5 {v0 v1 v2 v3 v4 : Value} {u u2 : Value} {x : Int64} {L0 : List Value} (hd : decode cc pc = .ok (.lstore 5, 2)) (hc : v4.category = 1) (h : Zw d own cc nL rt Q (pc + 2) (v0 :: v1 :: v2 :: v3 :: v4 :: .long x :: .null :: L0) st μ τ) : Zw d own cc nL rt Q pc (v0 :: v1 :: v2 :: v3 :: v4 :: u :: u2 :: L0) (.long x :: st) μ τ := by
  intro p l e R s m args below meth c D ad ac X K cells slots H locs ls hC hH hL hK
  have hlen := hL.2.2.1
  exact lv_lstore hC.1 hC.2.1 hd (zLv_has hL) (Nat.lt_of_lt_of_le (by simp only [List.length_cons]; omega) hlen) rfl (fun ls1 hl1 => h p l e R s m args below meth c D ad ac X K cells slots H locs ls1 hC hH (zLs_store2 (v := .long x) (L := v0 :: v1 :: v2 :: v3 :: v4 :: u :: u2 :: L0) hlen (by intro e; cases e) (fun w h0 hw => by cases hw; rw [hc]; decide) hl1) hK)
theorem Zw_iinc_5 {v0 v1 v2 v3 v4 : Value} {x y : Int32} {n : Int} {L0 : List Value} (hd : decode cc pc = .ok (.iinc 5 n, 3)) (hc : v4.category = 1) (hy : x + Int32.ofInt n = y) (h : Zw d own cc nL rt Q (pc + 3) (v0 :: v1 :: v2 :: v3 :: v4 :: .int y :: L0) st μ τ) : Zw d own cc nL rt Q pc (v0 :: v1 :: v2 :: v3 :: v4 :: .int x :: L0) st μ τ := by
  intro p l e R s m args below meth c D ad ac X K cells slots H locs ls hC hH hL hK
  have hlen := hL.2.2.1
  obtain ⟨k1, hk1⟩ := List.getElem?_of_mem (zLv_mem (ad := ad) (L := v0 :: v1 :: v2 :: v3 :: v4 :: .int x :: L0) (i := 5) (v := .int x) rfl (by intro e; cases e))
  exact lv_iinc hC.1 hC.2.1 hd (zLv_has hL) hk1 hy (Nat.lt_of_lt_of_le (by simp only [List.length_cons]; omega) hlen) rfl (fun ls1 hl1 => h p l e R s m args below meth c D ad ac X K cells slots H locs ls1 hC hH (zLs_store (v := .int y) (L := v0 :: v1 :: v2 :: v3 :: v4 :: .int x :: L0) hlen (by intro e; cases e) (fun w h0 hw => by cases hw; rw [hc]; decide) hl1) hK)
theorem Zw_iload_6 {v0 v1 v2 v3 v4 v5 : Value} {x : Int32} {L0 : List Value} (hd : decode cc pc = .ok (.iload 6, 2)) (h : Zw d own cc nL rt Q (pc + 2) (v0 :: v1 :: v2 :: v3 :: v4 :: v5 :: .int x :: L0) (.int x :: st) μ τ) : Zw d own cc nL rt Q pc (v0 :: v1 :: v2 :: v3 :: v4 :: v5 :: .int x :: L0) st μ τ := by
  intro p l e R s m args below meth c D ad ac X K cells slots H locs ls hC hH hL hK
  exact lv_iload hC.1 hC.2.1 hd (zLs_get hL 6 rfl (by intro e; cases e)) (h p l e R s m args below meth c D ad ac X K cells slots H locs ls hC hH hL hK)
theorem Zw_aload_6 {v0 v1 v2 v3 v4 v5 : Value} {x : Nat} {L0 : List Value} (hd : decode cc pc = .ok (.aload 6, 2)) (h : Zw d own cc nL rt Q (pc + 2) (v0 :: v1 :: v2 :: v3 :: v4 :: v5 :: .ref x :: L0) (.ref x :: st) μ τ) : Zw d own cc nL rt Q pc (v0 :: v1 :: v2 :: v3 :: v4 :: v5 :: .ref x :: L0) st μ τ := by
  intro p l e R s m args below meth c D ad ac X K cells slots H locs ls hC hH hL hK
  exact lv_aload hC.1 hC.2.1 hd (zLs_get hL 6 rfl (by intro e; cases e)) (h p l e R s m args below meth c D ad ac X K cells slots H locs ls hC hH hL hK)
theorem Zw_lload_6 {v0 v1 v2 v3 v4 v5 : Value} {x : Int64} {L0 : List Value} (hd : decode cc pc = .ok (.lload 6, 2)) (h : Zw d own cc nL rt Q (pc + 2) (v0 :: v1 :: v2 :: v3 :: v4 :: v5 :: .long x :: L0) (.long x :: st) μ τ) : Zw d own cc nL rt Q pc (v0 :: v1 :: v2 :: v3 :: v4 :: v5 :: .long x :: L0) st μ τ := by
  intro p l e R s m args below meth c D ad ac X K cells slots H locs ls hC hH hL hK
  exact lv_lload hC.1 hC.2.1 hd (zLs_get hL 6 rfl (by intro e; cases e)) (h p l e R s m args below meth c D ad ac X K cells slots H locs ls hC hH hL hK)
theorem Zw_istore_6 {v0 v1 v2 v3 v4 v5 : Value} {u : Value} {x : Int32} {L0 : List Value} (hd : decode cc pc = .ok (.istore 6, 2)) (hc : v5.category = 1) (h : Zw d own cc nL rt Q (pc + 2) (v0 :: v1 :: v2 :: v3 :: v4 :: v5 :: .int x :: L0) st μ τ) : Zw d own cc nL rt Q pc (v0 :: v1 :: v2 :: v3 :: v4 :: v5 :: u :: L0) (.int x :: st) μ τ := by
  intro p l e R s m args below meth c D ad ac X K cells slots H locs ls hC hH hL hK
  have hlen := hL.2.2.1
  exact lv_istore hC.1 hC.2.1 hd (zLv_has hL) (Nat.lt_of_lt_of_le (by simp only [List.length_cons]; omega) hlen) rfl (fun ls1 hl1 => h p l e R s m args below meth c D ad ac X K cells slots H locs ls1 hC hH (zLs_store (v := .int x) (L := v0 :: v1 :: v2 :: v3 :: v4 :: v5 :: u :: L0) hlen (by intro e; cases e) (fun w h0 hw => by cases hw; rw [hc]; decide) hl1) hK)
theorem Zw_astore_6 {v0 v1 v2 v3 v4 v5 : Value} {u : Value} {x : Nat} {L0 : List Value} (hd : decode cc pc = .ok (.astore 6, 2)) (hc : v5.category = 1) (h : Zw d own cc nL rt Q (pc + 2) (v0 :: v1 :: v2 :: v3 :: v4 :: v5 :: .ref x :: L0) st μ τ) : Zw d own cc nL rt Q pc (v0 :: v1 :: v2 :: v3 :: v4 :: v5 :: u :: L0) (.ref x :: st) μ τ := by
  intro p l e R s m args below meth c D ad ac X K cells slots H locs ls hC hH hL hK
  have hlen := hL.2.2.1
  exact lv_astore hC.1 hC.2.1 hd (zLv_has hL) (Nat.lt_of_lt_of_le (by simp only [List.length_cons]; omega) hlen) rfl (fun ls1 hl1 => h p l e R s m args below meth c D ad ac X K cells slots H locs ls1 hC hH (zLs_store (v := .ref x) (L := v0 :: v1 :: v2 :: v3 :: v4 :: v5 :: u :: L0) hlen (by intro e; cases e) (fun w h0 hw => by cases hw; rw [hc]; decide) hl1) hK)
theorem Zw_lstore_6 {v0 v1 v2 v3 v4 v5 : Value} {u u2 : Value} {x : Int64} {L0 : List Value} (hd : decode cc pc = .ok (.lstore 6, 2)) (hc : v5.category = 1) (h : Zw d own cc nL rt Q (pc + 2) (v0 :: v1 :: v2 :: v3 :: v4 :: v5 :: .long x :: .null :: L0) st μ τ) : Zw d own cc nL rt Q pc (v0 :: v1 :: v2 :: v3 :: v4 :: v5 :: u :: u2 :: L0) (.long x :: st) μ τ := by
  intro p l e R s m args below meth c D ad ac X K cells slots H locs ls hC hH hL hK
  have hlen := hL.2.2.1
  exact lv_lstore hC.1 hC.2.1 hd (zLv_has hL) (Nat.lt_of_lt_of_le (by simp only [List.length_cons]; omega) hlen) rfl (fun ls1 hl1 => h p l e R s m args below meth c D ad ac X K cells slots H locs ls1 hC hH (zLs_store2 (v := .long x) (L := v0 :: v1 :: v2 :: v3 :: v4 :: v5 :: u :: u2 :: L0) hlen (by intro e; cases e) (fun w h0 hw => by cases hw; rw [hc]; decide) hl1) hK)
theorem Zw_iinc_6 {v0 v1 v2 v3 v4 v5 : Value} {x y : Int32} {n : Int} {L0 : List Value} (hd : decode cc pc = .ok (.iinc 6 n, 3)) (hc : v5.category = 1) (hy : x + Int32.ofInt n = y) (h : Zw d own cc nL rt Q (pc + 3) (v0 :: v1 :: v2 :: v3 :: v4 :: v5 :: .int y :: L0) st μ τ) : Zw d own cc nL rt Q pc (v0 :: v1 :: v2 :: v3 :: v4 :: v5 :: .int x :: L0) st μ τ := by
  intro p l e R s m args below meth c D ad ac X K cells slots H locs ls hC hH hL hK
  have hlen := hL.2.2.1
  obtain ⟨k1, hk1⟩ := List.getElem?_of_mem (zLv_mem (ad := ad) (L := v0 :: v1 :: v2 :: v3 :: v4 :: v5 :: .int x :: L0) (i := 6) (v := .int x) rfl (by intro e; cases e))
  exact lv_iinc hC.1 hC.2.1 hd (zLv_has hL) hk1 hy (Nat.lt_of_lt_of_le (by simp only [List.length_cons]; omega) hlen) rfl (fun ls1 hl1 => h p l e R s m args below meth c D ad ac X K cells slots H locs ls1 hC hH (zLs_store (v := .int y) (L := v0 :: v1 :: v2 :: v3 :: v4 :: v5 :: .int x :: L0) hlen (by intro e; cases e) (fun w h0 hw => by cases hw; rw [hc]; decide) hl1) hK)
theorem Zw_iload_7 {v0 v1 v2 v3 v4 v5 v6 : Value} {x : Int32} {L0 : List Value} (hd : decode cc pc = .ok (.iload 7, 2)) (h : Zw d own cc nL rt Q (pc + 2) (v0 :: v1 :: v2 :: v3 :: v4 :: v5 :: v6 :: .int x :: L0) (.int x :: st) μ τ) : Zw d own cc nL rt Q pc (v0 :: v1 :: v2 :: v3 :: v4 :: v5 :: v6 :: .int x :: L0) st μ τ := by
  intro p l e R s m args below meth c D ad ac X K cells slots H locs ls hC hH hL hK
  exact lv_iload hC.1 hC.2.1 hd (zLs_get hL 7 rfl (by intro e; cases e)) (h p l e R s m args below meth c D ad ac X K cells slots H locs ls hC hH hL hK)
theorem Zw_aload_7 {v0 v1 v2 v3 v4 v5 v6 : Value} {x : Nat} {L0 : List Value} (hd : decode cc pc = .ok (.aload 7, 2)) (h : Zw d own cc nL rt Q (pc + 2) (v0 :: v1 :: v2 :: v3 :: v4 :: v5 :: v6 :: .ref x :: L0) (.ref x :: st) μ τ) : Zw d own cc nL rt Q pc (v0 :: v1 :: v2 :: v3 :: v4 :: v5 :: v6 :: .ref x :: L0) st μ τ := by
  intro p l e R s m args below meth c D ad ac X K cells slots H locs ls hC hH hL hK
  exact lv_aload hC.1 hC.2.1 hd (zLs_get hL 7 rfl (by intro e; cases e)) (h p l e R s m args below meth c D ad ac X K cells slots H locs ls hC hH hL hK)
theorem Zw_lload_7 {v0 v1 v2 v3 v4 v5 v6 : Value} {x : Int64} {L0 : List Value} (hd : decode cc pc = .ok (.lload 7, 2)) (h : Zw d own cc nL rt Q (pc + 2) (v0 :: v1 :: v2 :: v3 :: v4 :: v5 :: v6 :: .long x :: L0) (.long x :: st) μ τ) : Zw d own cc nL rt Q pc (v0 :: v1 :: v2 :: v3 :: v4 :: v5 :: v6 :: .long x :: L0) st μ τ := by
  intro p l e R s m args below meth c D ad ac X K cells slots H locs ls hC hH hL hK
  exact lv_lload hC.1 hC.2.1 hd (zLs_get hL 7 rfl (by intro e; cases e)) (h p l e R s m args below meth c D ad ac X K cells slots H locs ls hC hH hL hK)
theorem Zw_istore_7 {v0 v1 v2 v3 v4 v5 v6 : Value} {u : Value} {x : Int32} {L0 : List Value} (hd : decode cc pc = .ok (.istore 7, 2)) (hc : v6.category = 1) (h : Zw d own cc nL rt Q (pc + 2) (v0 :: v1 :: v2 :: v3 :: v4 :: v5 :: v6 :: .int x :: L0) st μ τ) : Zw d own cc nL rt Q pc (v0 :: v1 :: v2 :: v3 :: v4 :: v5 :: v6 :: u :: L0) (.int x :: st) μ τ := by
  intro p l e R s m args below meth c D ad ac X K cells slots H locs ls hC hH hL hK
  have hlen := hL.2.2.1
  exact lv_istore hC.1 hC.2.1 hd (zLv_has hL) (Nat.lt_of_lt_of_le (by simp only [List.length_cons]; omega) hlen) rfl (fun ls1 hl1 => h p l e R s m args below meth c D ad ac X K cells slots H locs ls1 hC hH (zLs_store (v := .int x) (L := v0 :: v1 :: v2 :: v3 :: v4 :: v5 :: v6 :: u :: L0) hlen (by intro e; cases e) (fun w h0 hw => by cases hw; rw [hc]; decide) hl1) hK)
theorem Zw_astore_7 {v0 v1 v2 v3 v4 v5 v6 : Value} {u : Value} {x : Nat} {L0 : List Value} (hd : decode cc pc = .ok (.astore 7, 2)) (hc : v6.category = 1) (h : Zw d own cc nL rt Q (pc + 2) (v0 :: v1 :: v2 :: v3 :: v4 :: v5 :: v6 :: .ref x :: L0) st μ τ) : Zw d own cc nL rt Q pc (v0 :: v1 :: v2 :: v3 :: v4 :: v5 :: v6 :: u :: L0) (.ref x :: st) μ τ := by
  intro p l e R s m args below meth c D ad ac X K cells slots H locs ls hC hH hL hK
  have hlen := hL.2.2.1
  exact lv_astore hC.1 hC.2.1 hd (zLv_has hL) (Nat.lt_of_lt_of_le (by simp only [List.length_cons]; omega) hlen) rfl (fun ls1 hl1 => h p l e R s m args below meth c D ad ac X K cells slots H locs ls1 hC hH (zLs_store (v := .ref x) (L := v0 :: v1 :: v2 :: v3 :: v4 :: v5 :: v6 :: u :: L0) hlen (by intro e; cases e) (fun w h0 hw => by cases hw; rw [hc]; decide) hl1) hK)
theorem Zw_lstore_7 {v0 v1 v2 v3 v4 v5 v6 : Value} {u u2 : Value} {x : Int64} {L0 : List Value} (hd : decode cc pc = .ok (.lstore 7, 2)) (hc : v6.category = 1) (h : Zw d own cc nL rt Q (pc + 2) (v0 :: v1 :: v2 :: v3 :: v4 :: v5 :: v6 :: .long x :: .null :: L0) st μ τ) : Zw d own cc nL rt Q pc (v0 :: v1 :: v2 :: v3 :: v4 :: v5 :: v6 :: u :: u2 :: L0) (.long x :: st) μ τ := by
  intro p l e R s m args below meth c D ad ac X K cells slots H locs ls hC hH hL hK
  have hlen := hL.2.2.1
  exact lv_lstore hC.1 hC.2.1 hd (zLv_has hL) (Nat.lt_of_lt_of_le (by simp only [List.length_cons]; omega) hlen) rfl (fun ls1 hl1 => h p l e R s m args below meth c D ad ac X K cells slots H locs ls1 hC hH (zLs_store2 (v := .long x) (L := v0 :: v1 :: v2 :: v3 :: v4 :: v5 :: v6 :: u :: u2 :: L0) hlen (by intro e; cases e) (fun w h0 hw => by cases hw; rw [hc]; decide) hl1) hK)
theorem Zw_iinc_7 {v0 v1 v2 v3 v4 v5 v6 : Value} {x y : Int32} {n : Int} {L0 : List Value} (hd : decode cc pc = .ok (.iinc 7 n, 3)) (hc : v6.category = 1) (hy : x + Int32.ofInt n = y) (h : Zw d own cc nL rt Q (pc + 3) (v0 :: v1 :: v2 :: v3 :: v4 :: v5 :: v6 :: .int y :: L0) st μ τ) : Zw d own cc nL rt Q pc (v0 :: v1 :: v2 :: v3 :: v4 :: v5 :: v6 :: .int x :: L0) st μ τ := by
  intro p l e R s m args below meth c D ad ac X K cells slots H locs ls hC hH hL hK
  have hlen := hL.2.2.1
  obtain ⟨k1, hk1⟩ := List.getElem?_of_mem (zLv_mem (ad := ad) (L := v0 :: v1 :: v2 :: v3 :: v4 :: v5 :: v6 :: .int x :: L0) (i := 7) (v := .int x) rfl (by intro e; cases e))
  exact lv_iinc hC.1 hC.2.1 hd (zLv_has hL) hk1 hy (Nat.lt_of_lt_of_le (by simp only [List.length_cons]; omega) hlen) rfl (fun ls1 hl1 => h p l e R s m args below meth c D ad ac X K cells slots H locs ls1 hC hH (zLs_store (v := .int y) (L := v0 :: v1 :: v2 :: v3 :: v4 :: v5 :: v6 :: .int x :: L0) hlen (by intro e; cases e) (fun w h0 hw => by cases hw; rw [hc]; decide) hl1) hK)
theorem Zw_iload_8 {v0 v1 v2 v3 v4 v5 v6 v7 : Value} {x : Int32} {L0 : List Value} (hd : decode cc pc = .ok (.iload 8, 2)) (h : Zw d own cc nL rt Q (pc + 2) (v0 :: v1 :: v2 :: v3 :: v4 :: v5 :: v6 :: v7 :: .int x :: L0) (.int x :: st) μ τ) : Zw d own cc nL rt Q pc (v0 :: v1 :: v2 :: v3 :: v4 :: v5 :: v6 :: v7 :: .int x :: L0) st μ τ := by
  intro p l e R s m args below meth c D ad ac X K cells slots H locs ls hC hH hL hK
  exact lv_iload hC.1 hC.2.1 hd (zLs_get hL 8 rfl (by intro e; cases e)) (h p l e R s m args below meth c D ad ac X K cells slots H locs ls hC hH hL hK)
theorem Zw_aload_8 {v0 v1 v2 v3 v4 v5 v6 v7 : Value} {x : Nat} {L0 : List Value} (hd : decode cc pc = .ok (.aload 8, 2)) (h : Zw d own cc nL rt Q (pc + 2) (v0 :: v1 :: v2 :: v3 :: v4 :: v5 :: v6 :: v7 :: .ref x :: L0) (.ref x :: st) μ τ) : Zw d own cc nL rt Q pc (v0 :: v1 :: v2 :: v3 :: v4 :: v5 :: v6 :: v7 :: .ref x :: L0) st μ τ := by
  intro p l e R s m args below meth c D ad ac X K cells slots H locs ls hC hH hL hK
  exact lv_aload hC.1 hC.2.1 hd (zLs_get hL 8 rfl (by intro e; cases e)) (h p l e R s m args below meth c D ad ac X K cells slots H locs ls hC hH hL hK)
theorem Zw_lload_8 {v0 v1 v2 v3 v4 v5 v6 v7 : Value} {x : Int64} {L0 : List Value} (hd : decode cc pc = .ok (.lload 8, 2)) (h : Zw d own cc nL rt Q (pc + 2) (v0 :: v1 :: v2 :: v3 :: v4 :: v5 :: v6 :: v7 :: .long x :: L0) (.long x :: st) μ τ) : Zw d own cc nL rt Q pc (v0 :: v1 :: v2 :: v3 :: v4 :: v5 :: v6 :: v7 :: .long x :: L0) st μ τ := by
  intro p l e R s m args below meth c D ad ac X K cells slots H locs ls hC hH hL hK
  exact lv_lload hC.1 hC.2.1 hd (zLs_get hL 8 rfl (by intro e; cases e)) (h p l e R s m args below meth c D ad ac X K cells slots H locs ls hC hH hL hK)
theorem Zw_istore_8 {v0 v1 v2 v3 v4 v5 v6 v7 : Value} {u : Value} {x : Int32} {L0 : List Value} (hd : decode cc pc = .ok (.istore 8, 2)) (hc : v7.category = 1) (h : Zw d own cc nL rt Q (pc + 2) (v0 :: v1 :: v2 :: v3 :: v4 :: v5 :: v6 :: v7 :: .int x :: L0) st μ τ) : Zw d own cc nL rt Q pc (v0 :: v1 :: v2 :: v3 :: v4 :: v5 :: v6 :: v7 :: u :: L0) (.int x :: st) μ τ := by
  intro p l e R s m args below meth c D ad ac X K cells slots H locs ls hC hH hL hK
  have hlen := hL.2.2.1
  exact lv_istore hC.1 hC.2.1 hd (zLv_has hL) (Nat.lt_of_lt_of_le (by simp only [List.length_cons]; omega) hlen) rfl (fun ls1 hl1 => h p l e R s m args below meth c D ad ac X K cells slots H locs ls1 hC hH (zLs_store (v := .int x) (L := v0 :: v1 :: v2 :: v3 :: v4 :: v5 :: v6 :: v7 :: u :: L0) hlen (by intro e; cases e) (fun w h0 hw => by cases hw; rw [hc]; decide) hl1) hK)
theorem Zw_astore_8 {v0 v1 v2 v3 v4 v5 v6 v7 : Value} {u : Value} {x : Nat} {L0 : List Value} (hd : decode cc pc = .ok (.astore 8, 2)) (hc : v7.category = 1) (h : Zw d own cc nL rt Q (pc + 2) (v0 :: v1 :: v2 :: v3 :: v4 :: v5 :: v6 :: v7 :: .ref x :: L0) st μ τ) : Zw d own cc nL rt Q pc (v0 :: v1 :: v2 :: v3 :: v4 :: v5 :: v6 :: v7 :: u :: L0) (.ref x :: st) μ τ := by
  intro p l e R s m args below meth c D ad ac X K cells slots H locs ls hC hH hL hK
  have hlen := hL.2.2.1
  exact lv_astore hC.1 hC.2.1 hd (zLv_has hL) (Nat.lt_of_lt_of_le (by simp only [List.length_cons]; omega) hlen) rfl (fun ls1 hl1 => h p l e R s m args below meth c D ad ac X K cells slots H locs ls1 hC hH (zLs_store (v := .ref x) (L := v0 :: v1 :: v2 :: v3 :: v4 :: v5 :: v6 :: v7 :: u :: L0) hlen (by intro e; cases e) (fun w h0 hw => by cases hw; rw [hc]; decide) hl1) hK)
theorem Zw_lstore_8 {v0 v1 v2 v3 v4 v5 v6 v7 : Value} {u u2 : Value} {x : Int64} {L0 : List Value} (hd : decode cc pc = .ok (.lstore 8, 2)) (hc : v7.category = 1) (h : Zw d own cc nL rt Q (pc + 2) (v0 :: v1 :: v2 :: v3 :: v4 :: v5 :: v6 :: v7 :: .long x :: .null :: L0) st μ τ) : Zw d own cc nL rt Q pc (v0 :: v1 :: v2 :: v3 :: v4 :: v5 :: v6 :: v7 :: u :: u2 :: L0) (.long x :: st) μ τ := by
  intro p l e R s m args below meth c D ad ac X K cells slots H locs ls hC hH hL hK
  have hlen := hL.2.2.1
  exact lv_lstore hC.1 hC.2.1 hd (zLv_has hL) (Nat.lt_of_lt_of_le (by simp only [List.length_cons]; omega) hlen) rfl (fun ls1 hl1 => h p l e R s m args below meth c D ad ac X K cells slots H locs ls1 hC hH (zLs_store2 (v := .long x) (L := v0 :: v1 :: v2 :: v3 :: v4 :: v5 :: v6 :: v7 :: u :: u2 :: L0) hlen (by intro e; cases e) (fun w h0 hw => by cases hw; rw [hc]; decide) hl1) hK)
theorem Zw_iinc_8 {v0 v1 v2 v3 v4 v5 v6 v7 : Value} {x y : Int32} {n : Int} {L0 : List Value} (hd : decode cc pc = .ok (.iinc 8 n, 3)) (hc : v7.category = 1) (hy : x + Int32.ofInt n = y) (h : Zw d own cc nL rt Q (pc + 3) (v0 :: v1 :: v2 :: v3 :: v4 :: v5 :: v6 :: v7 :: .int y :: L0) st μ τ) : Zw d own cc nL rt Q pc (v0 :: v1 :: v2 :: v3 :: v4 :: v5 :: v6 :: v7 :: .int x :: L0) st μ τ := by
  intro p l e R s m args below meth c D ad ac X K cells slots H locs ls hC hH hL hK
  have hlen := hL.2.2.1
  obtain ⟨k1, hk1⟩ := List.getElem?_of_mem (zLv_mem (ad := ad) (L := v0 :: v1 :: v2 :: v3 :: v4 :: v5 :: v6 :: v7 :: .int x :: L0) (i := 8) (v := .int x) rfl (by intro e; cases e))
  exact lv_iinc hC.1 hC.2.1 hd (zLv_has hL) hk1 hy (Nat.lt_of_lt_of_le (by simp only [List.length_cons]; omega) hlen) rfl (fun ls1 hl1 => h p l e R s m args below meth c D ad ac X K cells slots H locs ls1 hC hH (zLs_store (v := .int y) (L := v0 :: v1 :: v2 :: v3 :: v4 :: v5 :: v6 :: v7 :: .int x :: L0) hlen (by intro e; cases e) (fun w h0 hw => by cases hw; rw [hc]; decide) hl1) hK)
theorem Zw_iload_9 {v0 v1 v2 v3 v4 v5 v6 v7 v8 : Value} {x : Int32} {L0 : List Value} (hd : decode cc pc = .ok (.iload 9, 2)) (h : Zw d own cc nL rt Q (pc + 2) (v0 :: v1 :: v2 :: v3 :: v4 :: v5 :: v6 :: v7 :: v8 :: .int x :: L0) (.int x :: st) μ τ) : Zw d own cc nL rt Q pc (v0 :: v1 :: v2 :: v3 :: v4 :: v5 :: v6 :: v7 :: v8 :: .int x :: L0) st μ τ := by
  intro p l e R s m args below meth c D ad ac X K cells slots H locs ls hC hH hL hK
  exact lv_iload hC.1 hC.2.1 hd (zLs_get hL 9 rfl (by intro e; cases e)) (h p l e R s m args below meth c D ad ac X K cells slots H locs ls hC hH hL hK)
theorem Zw_aload_9 {v0 v1 v2 v3 v4 v5 v6 v7 v8 : Value} {x : Nat} {L0 : List Value} (hd : decode cc pc = .ok (.aload 9, 2)) (h : Zw d own cc nL rt Q (pc + 2) (v0 :: v1 :: v2 :: v3 :: v4 :: v5 :: v6 :: v7 :: v8 :: .ref x :: L0) (.ref x :: st) μ τ) : Zw d own cc nL rt Q pc (v0 :: v1 :: v2 :: v3 :: v4 :: v5 :: v6 :: v7 :: v8 :: .ref x :: L0) st μ τ := by
  intro p l e R s m args below meth c D ad ac X K cells slots H locs ls hC hH hL hK
  exact lv_aload hC.1 hC.2.1 hd (zLs_get hL 9 rfl (by intro e; cases e)) (h p l e R s m args below meth c D ad ac X K cells slots H locs ls hC hH hL hK)
theorem Zw_lload_9 {v0 v1 v2 v3 v4 v5 v6 v7 v8 : Value} {x : Int64} {L0 : List Value} (hd : decode cc pc = .ok (.lload 9, 2)) (h : Zw d own cc nL rt Q (pc + 2) (v0 :: v1 :: v2 :: v3 :: v4 :: v5 :: v6 :: v7 :: v8 :: .long x :: L0) (.long x :: st) μ τ) : Zw d own cc nL rt Q pc (v0 :: v1 :: v2 :: v3 :: v4 :: v5 :: v6 :: v7 :: v8 :: .long x :: L0) st μ τ := by
  intro p l e R s m args below meth c D ad ac X K cells slots H locs ls hC hH hL hK
  exact lv_lload hC.1 hC.2.1 hd (zLs_get hL 9 rfl (by intro e; cases e)) (h p l e R s m args below meth c D ad ac X K cells slots H locs ls hC hH hL hK)
theorem Zw_istore_9 {v0 v1 v2 v3 v4 v5 v6 v7 v8 : Value} {u : Value} {x : Int32} {L0 : List Value} (hd : decode cc pc = .ok (.istore 9, 2)) (hc : v8.category = 1) (h : Zw d own cc nL rt Q (pc + 2) (v0 :: v1 :: v2 :: v3 :: v4 :: v5 :: v6 :: v7 :: v8 :: .int x :: L0) st μ τ) : Zw d own cc nL rt Q pc (v0 :: v1 :: v2 :: v3 :: v4 :: v5 :: v6 :: v7 :: v8 :: u :: L0) (.int x :: st) μ τ := by
  intro p l e R s m args below meth c D ad ac X K cells slots H locs ls hC hH hL hK
  have hlen := hL.2.2.1
  exact lv_istore hC.1 hC.2.1 hd (zLv_has hL) (Nat.lt_of_lt_of_le (by simp only [List.length_cons]; omega) hlen) rfl (fun ls1 hl1 => h p l e R s m args below meth c D ad ac X K cells slots H locs ls1 hC hH (zLs_store (v := .int x) (L := v0 :: v1 :: v2 :: v3 :: v4 :: v5 :: v6 :: v7 :: v8 :: u :: L0) hlen (by intro e; cases e) (fun w h0 hw => by cases hw; rw [hc]; decide) hl1) hK)
theorem Zw_astore_9 {v0 v1 v2 v3 v4 v5 v6 v7 v8 : Value} {u : Value} {x : Nat} {L0 : List Value} (hd : decode cc pc = .ok (.astore 9, 2)) (hc : v8.category = 1) (h : Zw d own cc nL rt Q (pc + 2) (v0 :: v1 :: v2 :: v3 :: v4 :: v5 :: v6 :: v7 :: v8 :: .ref x :: L0) st μ τ) : Zw d own cc nL rt Q pc (v0 :: v1 :: v2 :: v3 :: v4 :: v5 :: v6 :: v7 :: v8 :: u :: L0) (.ref x :: st) μ τ := by
  intro p l e R s m args below meth c D ad ac X K cells slots H locs ls hC hH hL hK
  have hlen := hL.2.2.1
  exact lv_astore hC.1 hC.2.1 hd (zLv_has hL) (Nat.lt_of_lt_of_le (by simp only [List.length_cons]; omega) hlen) rfl (fun ls1 hl1 => h p l e R s m args below meth c D ad ac X K cells slots H locs ls1 hC hH (zLs_store (v := .ref x) (L := v0 :: v1 :: v2 :: v3 :: v4 :: v5 :: v6 :: v7 :: v8 :: u :: L0) hlen (by intro e; cases e) (fun w h0 hw => by cases hw; rw [hc]; decide) hl1) hK)
theorem Zw_lstore_9 {v0 v1 v2 v3 v4 v5 v6 v7 v8 : Value} {u u2 : Value} {x : Int64} {L0 : List Value} (hd : decode cc pc = .ok (.lstore 9, 2)) (hc : v8.category = 1) (h : Zw d own cc nL rt Q (pc + 2) (v0 :: v1 :: v2 :: v3 :: v4 :: v5 :: v6 :: v7 :: v8 :: .long x :: .null :: L0) st μ τ) : Zw d own cc nL rt Q pc (v0 :: v1 :: v2 :: v3 :: v4 :: v5 :: v6 :: v7 :: v8 :: u :: u2 :: L0) (.long x :: st) μ τ := by
  intro p l e R s m args below meth c D ad ac X K cells slots H locs ls hC hH hL hK
  have hlen := hL.2.2.1
  exact lv_lstore hC.1 hC.2.1 hd (zLv_has hL) (Nat.lt_of_lt_of_le (by simp only [List.length_cons]; omega) hlen) rfl (fun ls1 hl1 => h p l e R s m args below meth c D ad ac X K cells slots H locs ls1 hC hH (zLs_store2 (v := .long x) (L := v0 :: v1 :: v2 :: v3 :: v4 :: v5 :: v6 :: v7 :: v8 :: u :: u2 :: L0) hlen (by intro e; cases e) (fun w h0 hw => by cases hw; rw [hc]; decide) hl1) hK)
theorem Zw_iinc_9 {v0 v1 v2 v3 v4 v5 v6 v7 v8 : Value} {x y : Int32} {n : Int} {L0 : List Value} (hd : decode cc pc = .ok (.iinc 9 n, 3)) (hc : v8.category = 1) (hy : x + Int32.ofInt n = y) (h : Zw d own cc nL rt Q (pc + 3) (v0 :: v1 :: v2 :: v3 :: v4 :: v5 :: v6 :: v7 :: v8 :: .int y :: L0) st μ τ) : Zw d own cc nL rt Q pc (v0 :: v1 :: v2 :: v3 :: v4 :: v5 :: v6 :: v7 :: v8 :: .int x :: L0) st μ τ := by
  intro p l e R s m args below meth c D ad ac X K cells slots H locs ls hC hH hL hK
  have hlen := hL.2.2.1
  obtain ⟨k1, hk1⟩ := List.getElem?_of_mem (zLv_mem (ad := ad) (L := v0 :: v1 :: v2 :: v3 :: v4 :: v5 :: v6 :: v7 :: v8 :: .int x :: L0) (i := 9) (v := .int x) rfl (by intro e; cases e))
  exact lv_iinc hC.1 hC.2.1 hd (zLv_has hL) hk1 hy (Nat.lt_of_lt_of_le (by simp only [List.length_cons]; omega) hlen) rfl (fun ls1 hl1 => h p l e R s m args below meth c D ad ac X K cells slots H locs ls1 hC hH (zLs_store (v := .int y) (L := v0 :: v1 :: v2 :: v3 :: v4 :: v5 :: v6 :: v7 :: v8 :: .int x :: L0) hlen (by intro e; cases e) (fun w h0 hw => by cases hw; rw [hc]; decide) hl1) hK)
theorem Zw_iload_10 {v0 v1 v2 v3 v4 v5 v6 v7 v8 v9 : Value} {x : Int32} {L0 : List Value} (hd : decode cc pc = .ok (.iload 10, 2)) (h : Zw d own cc nL rt Q (pc + 2) (v0 :: v1 :: v2 :: v3 :: v4 :: v5 :: v6 :: v7 :: v8 :: v9 :: .int x :: L0) (.int x :: st) μ τ) : Zw d own cc nL rt Q pc (v0 :: v1 :: v2 :: v3 :: v4 :: v5 :: v6 :: v7 :: v8 :: v9 :: .int x :: L0) st μ τ := by
  intro p l e R s m args below meth c D ad ac X K cells slots H locs ls hC hH hL hK
  exact lv_iload hC.1 hC.2.1 hd (zLs_get hL 10 rfl (by intro e; cases e)) (h p l e R s m args below meth c D ad ac X K cells slots H locs ls hC hH hL hK)
theorem Zw_aload_10 {v0 v1 v2 v3 v4 v5 v6 v7 v8 v9 : Value} {x : Nat} {L0 : List Value} (hd : decode cc pc = .ok (.aload 10, 2)) (h : Zw d own cc nL rt Q (pc + 2) (v0 :: v1 :: v2 :: v3 :: v4 :: v5 :: v6 :: v7 :: v8 :: v9 :: .ref x :: L0) (.ref x :: st) μ τ) : Zw d own cc nL rt Q pc (v0 :: v1 :: v2 :: v3 :: v4 :: v5 :: v6 :: v7 :: v8 :: v9 :: .ref x :: L0) st μ τ := by
  intro p l e R s m args below meth c D ad ac X K cells slots H locs ls hC hH hL hK
  exact lv_aload hC.1 hC.2.1 hd (zLs_get hL 10 rfl (by intro e; cases e)) (h p l e R s m args below meth c D ad ac X K cells slots H locs ls hC hH hL hK)
theorem Zw_lload_10 {v0 v1 v2 v3 v4 v5 v6 v7 v8 v9 : Value} {x : Int64} {L0 : List Value} (hd : decode cc pc = .ok (.lload 10, 2)) (h : Zw d own cc nL rt Q (pc + 2) (v0 :: v1 :: v2 :: v3 :: v4 :: v5 :: v6 :: v7 :: v8 :: v9 :: .long x :: L0) (.long x :: st) μ τ) : Zw d own cc nL rt Q pc (v0 :: v1 :: v2 :: v3 :: v4 :: v5 :: v6 :: v7 :: v8 :: v9 :: .long x :: L0) st μ τ := by
  intro p l e R s m args below meth c D ad ac X K cells slots H locs ls hC hH hL hK
  exact lv_lload hC.1 hC.2.1 hd (zLs_get hL 10 rfl (by intro e; cases e)) (h p l e R s m args below meth c D ad ac X K cells slots H locs ls hC hH hL hK)
theorem Zw_istore_10 {v0 v1 v2 v3 v4 v5 v6 v7 v8 v9 : Value} {u : Value} {x : Int32} {L0 : List Value} (hd : decode cc pc = .ok (.istore 10, 2)) (hc : v9.category = 1) (h : Zw d own cc nL rt Q (pc + 2) (v0 :: v1 :: v2 :: v3 :: v4 :: v5 :: v6 :: v7 :: v8 :: v9 :: .int x :: L0) st μ τ) : Zw d own cc nL rt Q pc (v0 :: v1 :: v2 :: v3 :: v4 :: v5 :: v6 :: v7 :: v8 :: v9 :: u :: L0) (.int x :: st) μ τ := by
  intro p l e R s m args below meth c D ad ac X K cells slots H locs ls hC hH hL hK
  have hlen := hL.2.2.1
  exact lv_istore hC.1 hC.2.1 hd (zLv_has hL) (Nat.lt_of_lt_of_le (by simp only [List.length_cons]; omega) hlen) rfl (fun ls1 hl1 => h p l e R s m args below meth c D ad ac X K cells slots H locs ls1 hC hH (zLs_store (v := .int x) (L := v0 :: v1 :: v2 :: v3 :: v4 :: v5 :: v6 :: v7 :: v8 :: v9 :: u :: L0) hlen (by intro e; cases e) (fun w h0 hw => by cases hw; rw [hc]; decide) hl1) hK)
theorem Zw_astore_10 {v0 v1 v2 v3 v4 v5 v6 v7 v8 v9 : Value} {u : Value} {x : Nat} {L0 : List Value} (hd : decode cc pc = .ok (.astore 10, 2)) (hc : v9.category = 1) (h : Zw d own cc nL rt Q (pc + 2) (v0 :: v1 :: v2 :: v3 :: v4 :: v5 :: v6 :: v7 :: v8 :: v9 :: .ref x :: L0) st μ τ) : Zw d own cc nL rt Q pc (v0 :: v1 :: v2 :: v3 :: v4 :: v5 :: v6 :: v7 :: v8 :: v9 :: u :: L0) (.ref x :: st) μ τ := by
  intro p l e R s m args below meth c D ad ac X K cells slots H locs ls hC hH hL hK
  have hlen := hL.2.2.1
  exact lv_astore hC.1 hC.2.1 hd (zLv_has hL) (Nat.lt_of_lt_of_le (by simp only [List.length_cons]; omega) hlen) rfl (fun ls1 hl1 => h p l e R s m args below meth c D ad ac X K cells slots H locs ls1 hC hH (zLs_store (v := .ref x) (L := v0 :: v1 :: v2 :: v3 :: v4 :: v5 :: v6 :: v7 :: v8 :: v9 :: u :: L0) hlen (by intro e; cases e) (fun w h0 hw => by cases hw; rw [hc]; decide) hl1) hK)
theorem Zw_lstore_10 {v0 v1 v2 v3 v4 v5 v6 v7 v8 v9 : Value} {u u2 : Value} {x : Int64} {L0 : List Value} (hd : decode cc pc = .ok (.lstore 10, 2)) (hc : v9.category = 1) (h : Zw d own cc nL rt Q (pc + 2) (v0 :: v1 :: v2 :: v3 :: v4 :: v5 :: v6 :: v7 :: v8 :: v9 :: .long x :: .null :: L0) st μ τ) : Zw d own cc nL rt Q pc (v0 :: v1 :: v2 :: v3 :: v4 :: v5 :: v6 :: v7 :: v8 :: v9 :: u :: u2 :: L0) (.long x :: st) μ τ := by
  intro p l e R s m args below meth c D ad ac X K cells slots H locs ls hC hH hL hK
  have hlen := hL.2.2.1
  exact lv_lstore hC.1 hC.2.1 hd (zLv_has hL) (Nat.lt_of_lt_of_le (by simp only [List.length_cons]; omega) hlen) rfl (fun ls1 hl1 => h p l e R s m args below meth c D ad ac X K cells slots H locs ls1 hC hH (zLs_store2 (v := .long x) (L := v0 :: v1 :: v2 :: v3 :: v4 :: v5 :: v6 :: v7 :: v8 :: v9 :: u :: u2 :: L0) hlen (by intro e; cases e) (fun w h0 hw => by cases hw; rw [hc]; decide) hl1) hK)
theorem Zw_iinc_10 {v0 v1 v2 v3 v4 v5 v6 v7 v8 v9 : Value} {x y : Int32} {n : Int} {L0 : List Value} (hd : decode cc pc = .ok (.iinc 10 n, 3)) (hc : v9.category = 1) (hy : x + Int32.ofInt n = y) (h : Zw d own cc nL rt Q (pc + 3) (v0 :: v1 :: v2 :: v3 :: v4 :: v5 :: v6 :: v7 :: v8 :: v9 :: .int y :: L0) st μ τ) : Zw d own cc nL rt Q pc (v0 :: v1 :: v2 :: v3 :: v4 :: v5 :: v6 :: v7 :: v8 :: v9 :: .int x :: L0) st μ τ := by
  intro p l e R s m args below meth c D ad ac X K cells slots H locs ls hC hH hL hK
  have hlen := hL.2.2.1
  obtain ⟨k1, hk1⟩ := List.getElem?_of_mem (zLv_mem (ad := ad) (L := v0 :: v1 :: v2 :: v3 :: v4 :: v5 :: v6 :: v7 :: v8 :: v9 :: .int x :: L0) (i := 10) (v := .int x) rfl (by intro e; cases e))
  exact lv_iinc hC.1 hC.2.1 hd (zLv_has hL) hk1 hy (Nat.lt_of_lt_of_le (by simp only [List.length_cons]; omega) hlen) rfl (fun ls1 hl1 => h p l e R s m args below meth c D ad ac X K cells slots H locs ls1 hC hH (zLs_store (v := .int y) (L := v0 :: v1 :: v2 :: v3 :: v4 :: v5 :: v6 :: v7 :: v8 :: v9 :: .int x :: L0) hlen (by intro e; cases e) (fun w h0 hw => by cases hw; rw [hc]; decide) hl1) hK)
theorem Zw_iload_11 {v0 v1 v2 v3 v4 v5 v6 v7 v8 v9 v10 : Value} {x : Int32} {L0 : List Value} (hd : decode cc pc = .ok (.iload 11, 2)) (h : Zw d own cc nL rt Q (pc + 2) (v0 :: v1 :: v2 :: v3 :: v4 :: v5 :: v6 :: v7 :: v8 :: v9 :: v10 :: .int x :: L0) (.int x :: st) μ τ) : Zw d own cc nL rt Q pc (v0 :: v1 :: v2 :: v3 :: v4 :: v5 :: v6 :: v7 :: v8 :: v9 :: v10 :: .int x :: L0) st μ τ := by
  intro p l e R s m args below meth c D ad ac X K cells slots H locs ls hC hH hL hK
  exact lv_iload hC.1 hC.2.1 hd (zLs_get hL 11 rfl (by intro e; cases e)) (h p l e R s m args below meth c D ad ac X K cells slots H locs ls hC hH hL hK)
theorem Zw_aload_11 {v0 v1 v2 v3 v4 v5 v6 v7 v8 v9 v10 : Value} {x : Nat} {L0 : List Value} (hd : decode cc pc = .ok (.aload 11, 2)) (h : Zw d own cc nL rt Q (pc + 2) (v0 :: v1 :: v2 :: v3 :: v4 :: v5 :: v6 :: v7 :: v8 :: v9 :: v10 :: .ref x :: L0) (.ref x :: st) μ τ) : Zw d own cc nL rt Q pc (v0 :: v1 :: v2 :: v3 :: v4 :: v5 :: v6 :: v7 :: v8 :: v9 :: v10 :: .ref x :: L0) st μ τ := by
  intro p l e R s m args below meth c D ad ac X K cells slots H locs ls hC hH hL hK
  exact lv_aload hC.1 hC.2.1 hd (zLs_get hL 11 rfl (by intro e; cases e)) (h p l e R s m args below meth c D ad ac X K cells slots H locs ls hC hH hL hK)
theorem Zw_lload_11 {v0 v1 v2 v3 v4 v5 v6 v7 v8 v9 v10 : Value} {x : Int64} {L0 : List Value} (hd : decode cc pc = .ok (.lload 11, 2)) (h : Zw d own cc nL rt Q (pc + 2) (v0 :: v1 :: v2 :: v3 :: v4 :: v5 :: v6 :: v7 :: v8 :: v9 :: v10 :: .long x :: L0) (.long x :: st) μ τ) : Zw d own cc nL rt Q pc (v0 :: v1 :: v2 :: v3 :: v4 :: v5 :: v6 :: v7 :: v8 :: v9 :: v10 :: .long x :: L0) st μ τ := by
  intro p l e R s m args below meth c D ad ac X K cells slots H locs ls hC hH hL hK
  exact lv_lload hC.1 hC.2.1 hd (zLs_get hL 11 rfl (by intro e; cases e)) (h p l e R s m args below meth c D ad ac X K cells slots H locs ls hC hH hL hK)
theorem Zw_istore_11 {v0 v1 v2 v3 v4 v5 v6 v7 v8 v9 v10 : Value} {u : Value} {x : Int32} {L0 : List Value} (hd : decode cc pc = .ok (.istore 11, 2)) (hc : v10.category = 1) (h : Zw d own cc nL rt Q (pc + 2) (v0 :: v1 :: v2 :: v3 :: v4 :: v5 :: v6 :: v7 :: v8 :: v9 :: v10 :: .int x :: L0) st μ τ) : Zw d own cc nL rt Q pc (v0 :: v1 :: v2 :: v3 :: v4 :: v5 :: v6 :: v7 :: v8 :: v9 :: v10 :: u :: L0) (.int x :: st) μ τ := by
  intro p l e R s m args below meth c D ad ac X K cells slots H locs ls hC hH hL hK
  have hlen := hL.2.2.1
  exact lv_istore hC.1 hC.2.1 hd (zLv_has hL) (Nat.lt_of_lt_of_le (by simp only [List.length_cons]; omega) hlen) rfl (fun ls1 hl1 => h p l e R s m args below meth c D ad ac X K cells slots H locs ls1 hC hH (zLs_store (v := .int x) (L := v0 :: v1 :: v2 :: v3 :: v4 :: v5 :: v6 :: v7 :: v8 :: v9 :: v10 :: u :: L0) hlen (by intro e; cases e) (fun w h0 hw => by cases hw; rw [hc]; decide) hl1) hK)
theorem Zw_astore_11 {v0 v1 v2 v3 v4 v5 v6 v7 v8 v9 v10 : Value} {u : Value} {x : Nat} {L0 : List Value} (hd : decode cc pc = .ok (.astore 11, 2)) (hc : v10.category = 1) (h : Zw d own cc nL rt Q (pc + 2) (v0 :: v1 :: v2 :: v3 :: v4 :: v5 :: v6 :: v7 :: v8 :: v9 :: v10 :: .ref x :: L0) st μ τ) : Zw d own cc nL rt Q pc (v0 :: v1 :: v2 :: v3 :: v4 :: v5 :: v6 :: v7 :: v8 :: v9 :: v10 :: u :: L0) (.ref x :: st) μ τ := by
  intro p l e R s m args below meth c D ad ac X K cells slots H locs ls hC hH hL hK
  have hlen := hL.2.2.1
  exact lv_astore hC.1 hC.2.1 hd (zLv_has hL) (Nat.lt_of_lt_of_le (by simp only [List.length_cons]; omega) hlen) rfl (fun ls1 hl1 => h p l e R s m args below meth c D ad ac X K cells slots H locs ls1 hC hH (zLs_store (v := .ref x) (L := v0 :: v1 :: v2 :: v3 :: v4 :: v5 :: v6 :: v7 :: v8 :: v9 :: v10 :: u :: L0) hlen (by intro e; cases e) (fun w h0 hw => by cases hw; rw [hc]; decide) hl1) hK)
theorem Zw_iinc_11 {v0 v1 v2 v3 v4 v5 v6 v7 v8 v9 v10 : Value} {x y : Int32} {n : Int} {L0 : List Value} (hd : decode cc pc = .ok (.iinc 11 n, 3)) (hc : v10.category = 1) (hy : x + Int32.ofInt n = y) (h : Zw d own cc nL rt Q (pc + 3) (v0 :: v1 :: v2 :: v3 :: v4 :: v5 :: v6 :: v7 :: v8 :: v9 :: v10 :: .int y :: L0) st μ τ) : Zw d own cc nL rt Q pc (v0 :: v1 :: v2 :: v3 :: v4 :: v5 :: v6 :: v7 :: v8 :: v9 :: v10 :: .int x :: L0) st μ τ := by
  intro p l e R s m args below meth c D ad ac X K cells slots H locs ls hC hH hL hK
  have hlen := hL.2.2.1
  obtain ⟨k1, hk1⟩ := List.getElem?_of_mem (zLv_mem (ad := ad) (L := v0 :: v1 :: v2 :: v3 :: v4 :: v5 :: v6 :: v7 :: v8 :: v9 :: v10 :: .int x :: L0) (i := 11) (v := .int x) rfl (by intro e; cases e))
  exact lv_iinc hC.1 hC.2.1 hd (zLv_has hL) hk1 hy (Nat.lt_of_lt_of_le (by simp only [List.length_cons]; omega) hlen) rfl (fun ls1 hl1 => h p l e R s m args below meth c D ad ac X K cells slots H locs ls1 hC hH (zLs_store (v := .int y) (L := v0 :: v1 :: v2 :: v3 :: v4 :: v5 :: v6 :: v7 :: v8 :: v9 :: v10 :: .int x :: L0) hlen (by intro e; cases e) (fun w h0 hw => by cases hw; rw [hc]; decide) hl1) hK)
end ZR
