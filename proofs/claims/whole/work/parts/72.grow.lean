/-! CODE THAT MAKES CELLS: the world is all cells from the address h on, in the order of making; suf says what they hold. -/
def yW (h : Nat) (suf : List va_E) : va_W := suf.mapIdx (fun j e => (h + j, e))
theorem yW_at (h : Nat) (suf : List va_E) (j : Nat) : (yW h suf)[j]? = (suf[j]?).map (fun e => (h + j, e)) := by simp [yW]
theorem yW_get {h : Nat} {suf : List va_E} {j : Nat} {e : va_E} (hj : suf[j]? = some e) : (yW h suf)[j]? = some (h + j, e) := by rw [yW_at, hj]; rfl
theorem yW_some {h : Nat} {suf : List va_E} {j : Nat} {q : Nat × va_E} (hq : (yW h suf)[j]? = some q) : q.1 = h + j ∧ j < suf.length ∧ suf[j]? = some q.2 := by
  rw [yW_at] at hq
  cases hs : suf[j]? with
  | none => rw [hs] at hq; cases hq
  | some e =>
    rw [hs] at hq
    cases hq
    exact ⟨rfl, (List.getElem?_eq_some_iff.mp hs).1, rfl⟩
theorem yW_D {h : Nat} {suf : List va_E} : va_D (fun q => h ≤ q) (yW h suf) := by
  refine ⟨fun i j p q hi hj e => ?_, fun k q hk => ?_⟩
  · have a1 := (yW_some hi).1
    have a2 := (yW_some hj).1
    omega
  · have a1 := (yW_some hk).1
    show h ≤ q.1
    omega
theorem yW_set {h : Nat} {suf : List va_E} {j : Nat} {e : va_E} : (yW h suf).set j (h + j, e) = yW h (suf.set j e) := by
  apply List.ext_getElem?
  intro i
  rw [List.getElem?_set, yW_at, yW_at, List.getElem?_set]
  by_cases hi : j = i
  · subst hi
    simp only [if_true, yW, List.length_mapIdx]
    by_cases hl : j < suf.length
    · simp [hl]
    · simp [hl]
  · simp [hi]
theorem yW_app {h : Nat} {s1 s2 : List va_E} : yW h (s1 ++ s2) = yW h s1 ++ yW (h + s1.length) s2 := by
  apply List.ext_getElem?
  intro i
  have hl : (yW h s1).length = s1.length := by simp [yW]
  by_cases hi : i < s1.length
  · rw [List.getElem?_append_left (by rw [hl]; exact hi), yW_at, yW_at, List.getElem?_append_left hi]
  · rw [List.getElem?_append_right (by rw [hl]; omega), yW_at, yW_at, List.getElem?_append_right (by omega), hl, show h + s1.length + (i - s1.length) = h + i by omega]
def yKs (κ : Nat → ClassId) : List (ClassId × FieldType) := [(κ 0, .int), (κ 1, .boolean), (κ 2, .object RX3), (κ 3, .object RX8), (κ 4, .object RX5)]
def yN (U : State) : Prop := (∀ w ∈ zNw, va_Nw w U) ∧ va_AO RX3 U ∧ va_AO RX8 U ∧ va_AO RX5 U
theorem yN.warm {s U : State} (hW : s.WarmedH U.vm) (h : yN s) : yN U := ⟨zNw_warm hW h.1, h.2.1.moved hW.alike, h.2.2.1.moved hW.alike, h.2.2.2.moved hW.alike⟩
theorem yN.same {s U : State} (hv : s.vm = U.vm) (h : yN s) : yN U := ⟨zNw_same hv h.1, h.2.1.moved (by rw [hv]; exact Vm.Alike.refl _), h.2.2.1.moved (by rw [hv]; exact Vm.Alike.refl _), h.2.2.2.moved (by rw [hv]; exact Vm.Alike.refl _)⟩
def yCx (p : Program) (R : Room) (s : State) (m : MethodId) (args : Array Value) (meth : Method) (c : Code) (y : MethodName) (cc : ByteArray) (nL : Nat) (rt : Option FieldType) (d : Nat) (D : va_G) (κ : Nat → ClassId) : Prop :=
  p.tables.exec = Jvm.exec ∧ c.code = cc ∧ c.maxLocals = nL ∧ meth.sig.returnType = rt ∧ meth.locks = false ∧ s.vm.findClass y.cls = some m.cls ∧ (∀ w ∈ zT, w.before args s = true) ∧ (d ≤ R.frames ∧ 44 * d ≤ R.locals) ∧ (y.name = "<init>" → meth.name = y.name) ∧ va_K D vwCl (yKs κ) s ∧ yN s
def yHp (s : State) (D : va_G) (h : Nat) (suf : List va_E) (H : Heap) (locs : List Loc) : Prop := H.size = h + suf.length ∧ va_P D vwCl (yW h suf) H ∧ va_S (fun q => h ≤ q) s.heap H locs ∧ h ≤ s.heap.size
abbrev yQ : Type := Option Value → List va_E → Prop
abbrev yEt : Type := Program → Launch → Env → Room → State → MethodId → Array Value → List Frame → Method → Code → va_G → (State → Prop) → Nat → Nat → Prop
/-- an ordinary end: by return, with Q -/
def yEx (cc : ByteArray) (rt : Option FieldType) (h : Nat) (Q : yQ) : yEt := fun p l e R s m args below meth c D K ce sl => ∀ (r : Option Value) (suf' : List va_E) (H' : Heap) (locs' : List Loc) (pc' : Nat) (ls' : Array Slot), Q r suf' → yHp s D h suf' H' locs' → zRet cc rt pc' r → W p l e R s m args below meth c H' locs' ce sl K (F0 m pc' ls' r.toList)
def Yw (d : Nat) (y : MethodName) (cc : ByteArray) (nL : Nat) (rt : Option FieldType) (κ : Nat → ClassId) (h : Nat) (E : yEt) (B pc : Nat) (L st : List Value) (suf : List va_E) : Prop :=
  ∀ (p : Program) (l : Launch) (e : Env) (R : Room) (s : State) (m : MethodId) (args : Array Value) (below : List Frame) (meth : Method) (c : Code) (D : va_G) (K : State → Prop) (cells slots : Nat) (H : Heap) (locs : List Loc) (ls : Array Slot),
    yCx p R s m args meth c y cc nL rt d D κ → yHp s D h suf H locs → zLs id ls nL L → (cells + B ≤ R.cells ∧ slots + 3000 * B ≤ R.slots) → E p l e R s m args below meth c D K (cells + B) (slots + 3000 * B) →
    W p l e R s m args below meth c H locs cells slots K (F0 m pc ls st)
def yRm (d B : Nat) : Room := { frames := d, cells := B, slots := 3000 * B, locals := 44 * d }
def yHq (D : va_G) (κ : Nat → ClassId) (h : Nat) (suf : List va_E) (U : State) : Prop := U.heap.size = h + suf.length ∧ va_P D vwCl (yW h suf) U.heap ∧ va_K D vwCl (yKs κ) U ∧ yN U
def yQc (D : va_G) (h : Nat) (Q : yQ) : Array Value → State → Outcome → State → Prop := fun _ st oc t => (∃ (r : Option Value) (suf' : List va_E), oc = .returned r ∧ Q r suf' ∧ t.heap.size = h + suf'.length ∧ va_P D vwCl (yW h suf') t.heap) ∧ va_F (fun q => h ≤ q) st t
def Yc (d : Nat) (y : MethodName) (cc : ByteArray) (nL : Nat) (rt : Option FieldType) (as : List Value) (κ : Nat → ClassId) (h : Nat) (suf : List va_E) (B : Nat) (Q : yQ) : Prop :=
  ∀ (l : Launch) (D : va_G), Met l y (.code y cc nL rt :: zT) (yRm d B) (va_Pc as (yHq D κ h suf)) (yQc D h Q) B (3000 * B) (fun q => h ≤ q)
theorem tr_id (v : Value) : tr id v = v := by cases v <;> rfl
theorem Yc.of {d : Nat} {y : MethodName} {cc : ByteArray} {nL : Nat} {rt : Option FieldType} {as : List Value} {κ : Nat → ClassId} {h : Nat} {suf : List va_E} {B : Nat} {Q : yQ} (L : List Value) (hy : plainName y.cls = true) (hn : (lg_sl as).length ≤ nL) (hLn : L.length ≤ nL) (hL : zEnt as L) (hh : Yw d y cc nL rt κ h (yEx cc rt h Q) B 0 L [] suf) : Yc d y cc nL rt as κ h suf B Q := by
  intro l D
  refine Met.ofW (cc := cc) (maxL := nL) (ret := rt) hy rfl ?_
  intro p e s m args below meth c s₁ B0 hml hv
  obtain ⟨rfl, hsz, hP, hK, hNn⟩ := hv
  have hx := B0.exec
  have hb := B0.bytes
  have hr := B0.returns
  have hts := atoms_spec (ws := .code y cc nL rt :: zT) B0.pre
  have hown : s.vm.findClass y.cls = some m.cls := findClass_of_methodNamed B0.named
  have hnm : meth.name = y.name := (name_of_methodNamed B0.named B0.method).1
  have hlocks := B0.notSynchronized
  have hl := lv_entry as (n := nL) hn
  rw [lg_entry_eq]
  generalize (lg_sl as ++ List.replicate (nL - (lg_sl as).length) Slot.unset).toArray = ls at hl ⊢
  refine hh p l e _ s m _ below meth c D _ 0 0 s.heap [] ls ⟨hx, hb, hml, hr, hlocks, hown, fun w hw => hts w (List.mem_cons_of_mem _ hw), ⟨Nat.le_refl d, Nat.le_refl _⟩, fun _ => hnm, hK, hNn⟩ ⟨hsz, hP, va_S.rf, by omega⟩ ⟨hl.1, hl.2.1, hLn, ?_⟩ ⟨show 0 + B ≤ B by omega, show 0 + 3000 * B ≤ 3000 * B by omega⟩ ?_
  · intro i v h1 h2
    rw [tr_id]
    exact hl.2.2 (i, v) (hL i v h1 h2)
  · intro r suf' H' locs' pc' ls' hq hH' hret
    obtain ⟨hz', hP', hS', -⟩ := hH'
    rw [Nat.zero_add, Nat.zero_add]
    rcases hret with ⟨x, ty, rfl, hty, hnw, hdg⟩ | ⟨x, rfl, hty, hdg⟩ | ⟨rfl, hty, hdg⟩
    · subst hty
      exact W.zret hx hb hr hnw (fun t ht hw => ⟨⟨some (.int x), suf', rfl, hq, by rw [ht]; exact hz', by rw [ht]; exact hP'⟩, hS'.F ht⟩) (fun q hq => hS'.2.2 q hq) hdg hlocks
    · subst hty
      exact W.lret hx hb hr (fun t ht hw => ⟨⟨some (.long x), suf', rfl, hq, by rw [ht]; exact hz', by rw [ht]; exact hP'⟩, hS'.F ht⟩) (fun q hq => hS'.2.2 q hq) hdg hlocks
    · subst hty
      exact W.vret hx hb hr (fun t ht hw => ⟨⟨none, suf', rfl, hq, by rw [ht]; exact hz', by rw [ht]; exact hP'⟩, hS'.F ht⟩) (fun q hq => hS'.2.2 q hq) hdg hlocks
theorem Yc.imp {d : Nat} {y : MethodName} {cc : ByteArray} {nL : Nat} {rt : Option FieldType} {as : List Value} {κ : Nat → ClassId} {h : Nat} {suf : List va_E} {B : Nat} {Q Q' : yQ} (hq : ∀ r suf', Q r suf' → Q' r suf') (hh : Yc d y cc nL rt as κ h suf B Q) : Yc d y cc nL rt as κ h suf B Q' := by
  intro l D p e h1 h2 h3 s m args below hf ha hp hk
  obtain ⟨n, o, a1, a2, a3, ⟨⟨r, suf', e1, e2, e3⟩, hF⟩, hL⟩ := hh l D p e h1 h2 h3 s m args below hf ha hp hk
  exact ⟨n, o, a1, a2, a3, ⟨⟨r, suf', e1, hq _ _ e2, e3⟩, hF⟩, hL⟩

