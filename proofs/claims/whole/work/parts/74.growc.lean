theorem y_blind {D : va_G} {κ : Nat → ClassId} {h : Nat} {suf : List va_E} {as : List Value} : FrameBlind (va_Pc as (yHq D κ h suf)) := fun a U g mk q => by
  obtain ⟨q0, qz, qP, qK, qN⟩ := q
  exact ⟨q0, qz, qP, va_K.moved (u := U) (U := U.calling g mk a) (Vm.Alike.refl U.vm) qK, yN.same (s := U) (U := U.calling g mk a) rfl qN⟩
theorem y_pre {D : va_G} {κ : Nat → ClassId} {h : Nat} {s1 s2 : List va_E} {s U : State} {H : Heap} {locs : List Loc} (hH : yHp s D h (s1 ++ s2) H locs) (hKK : va_K D vwCl (yKs κ) s) (hN : yN s) (hU : U.heap = H) (hW : s.WarmedH U.vm) : yHq D κ (h + s1.length) s2 U := by
  refine ⟨by rw [hU, hH.1, List.length_append]; omega, ?_, va_K.moved hW.alike hKK, hN.warm hW⟩
  rw [hU]
  intro k q hk
  have h1 := hH.2.1
  rw [yW_app] at h1
  refine h1 ((yW h s1).length + k) q ?_
  rw [List.getElem?_append_right (Nat.le_add_right _ _), Nat.add_sub_cancel_left]
  exact hk
theorem y_run {p : Program} {l : Launch} {e : Env} {R : Room} {s : State} {m : MethodId} {args : Array Value} {below : List Frame} {meth : Method} {c : Code} {D : va_G} {K : State → Prop} {cells slots B1 h : Nat} {H : Heap} {locs : List Loc} {ls : Array Slot} {pc : Nat} {st0 rest : List Value} {a : Array Value} {s1 s2 : List va_E} {Q : yQ}
    (hr : va_Run p l e R s m args below meth c H locs cells slots B1 (3000 * B1) (F0 m pc ls st0) rest (yQc D (h + s1.length) Q a) (fun q => h + s1.length ≤ q)) (hH : yHp s D h (s1 ++ s2) H locs)
    (kk : ∀ (r : Option Value) (s2' : List va_E) (H' : Heap) (locs' : List Loc), Q r s2' → yHp s D h (s1 ++ s2') H' locs' → W p l e R s m args below meth c H' locs' (cells + B1) (slots + 3000 * B1) K (F0 m (pc + 3) ls (r.toList ++ rest))) : W p l e R s m args below meth c H locs cells slots K (F0 m pc ls st0) := by
  intro T hT XX
  obtain ⟨v, st₀, t, T', Lc, h0, X', hLc, e1, e2, ⟨⟨r, s2', hv, hq, hsz, hP⟩, hz, hk⟩, st⟩ := hr T hT XX
  have hv' : v = r := by cases hv; rfl
  subst hv'
  rw [h0] at hz hk
  obtain ⟨g1, g2, g3, g4⟩ := hH
  have hH2 : yHp s D h (s1 ++ s2') T'.heap (locs ++ Lc) := by
    refine ⟨by rw [e1, hsz, List.length_append]; omega, ?_, ⟨Nat.le_trans g3.1 (by rw [e1]; exact hz), fun q h1 h2 => ?_, fun q hq => ?_⟩, g4⟩
    · rw [e1, yW_app]
      refine va_P.app (fun k x hx => ?_) hP
      obtain ⟨x1, x2, x3⟩ := yW_some hx
      have hx2 : (yW h (s1 ++ s2))[k]? = some x := by
        rw [yW_app, List.getElem?_append_left (by simpa [yW] using x2)]
        exact hx
      exact (g2 k x hx2).kept (hk x.1 (g2 k x hx2).lt (by show ¬ (h + s1.length ≤ x.1); omega))
    · rw [e1, hk q (Nat.lt_of_lt_of_le h1 g3.1) (fun z => h2 (Nat.le_trans (Nat.le_add_right h _) z))]
      exact g3.2.1 q h1 h2
    · rcases List.mem_append.mp hq with h1 | h1
      · exact g3.2.2 q h1
      · exact Nat.le_trans (Nat.le_add_right h _) (hLc q h1)
  obtain ⟨t2, a1, b1⟩ := kk v s2' T'.heap (locs ++ Lc) hq hH2 T' rfl X'
  exact ⟨t2, st t2 a1, b1⟩
/-- the words of a constructor's call: of its own link, and of a nest mate's private one -/
def yCI (own : String) (idx : Nat) (y : MethodName) (cc : ByteArray) (nL n : Nat) : Prop :=
  Cond.methodLink own idx y ∈ zT ∧ Cond.instanceMethod y ∈ zT ∧ y.name = "<init>" ∧ Cond.initialized y.cls ∈ zT ∧ Cond.code y cc nL none ∈ zT ∧ (y.cls ≠ "java/lang/invoke/MethodHandle" ∧ y.cls ≠ "java/lang/invoke/VarHandle" ∧ (parseMethodDescriptor y.desc).map (fun d => d.parameters.length) = some n) ∧ nL ≤ 25
def yCIN (own : String) (idx : Nat) (y : MethodName) (cc : ByteArray) (nL n : Nat) : Prop :=
  Cond.methodLinkNest own idx y RX10 ∈ zNw ∧ Cond.instanceMethod y ∈ zT ∧ y.name = "<init>" ∧ Cond.initialized y.cls ∈ zT ∧ Cond.code y cc nL none ∈ zT ∧ (y.cls ≠ "java/lang/invoke/MethodHandle" ∧ y.cls ≠ "java/lang/invoke/VarHandle" ∧ (parseMethodDescriptor y.desc).map (fun d => d.parameters.length) = some n) ∧ nL ≤ 25
section YC
variable {d : Nat} {y : MethodName} {cc : ByteArray} {nL : Nat} {rt : Option FieldType} {κ : Nat → ClassId} {h : Nat} {E : yEt} {B pc : Nat} {L st : List Value} {suf : List va_E}
theorem Yw_I {idx n k B1 B2 n1 : Nat} {y' : MethodName} {cc' : ByteArray} {nL' : Nat} (s1 s2 : List va_E) (as rest : List Value) (hM : yCI y.cls idx y' cc' nL' n) (hd : decode cc pc = .ok (.invokespecial idx, 3)) (hk : k + 1 ≤ d) (hsuf : suf = s1 ++ s2) (hn1 : s1.length = n1) (hn : as.length = n) (hBB : B1 + B2 = B) (hW : (rest.map fun v => v.category).sum ≤ 8)
    (hZ : Yc k y' cc' nL' none (.ref (h + n1) :: as) κ (h + n1) s2 B1 (fun r s2' => Yw d y cc nL rt κ h E B2 (pc + 3) L (r.toList ++ rest) (s1 ++ s2'))) : Yw d y cc nL rt κ h E B pc L (as.reverse ++ .ref (h + n1) :: rest) suf := by
  intro p l e R s m args below meth c D K cells slots H locs ls hC hH hL hB hE
  subst hsuf
  subst hn1
  subst hBB
  obtain ⟨m1, m2, m3, m4, m5, m6, m7⟩ := hM
  obtain ⟨hx, hcc, hml, hr, hlocks, hown, hts, ⟨r1, r2⟩, hnm, hKK, hNn⟩ := id hC
  obtain ⟨b1, b2⟩ := hB
  have hfix : CallFix p m c cc nL s args zT y.cls := ⟨hx, hcc, hml, hown, hts⟩
  refine y_run (s1 := s1) (s2 := s2) (va_runI (As := as) (rest := rest) hfix (hZ l D) ⟨callB_of n hts (zGood m5) rfl rfl rfl (hts _ m4) (hts _ m1) m6 ⟨show k + 1 ≤ R.frames by omega, show 8 + (nL' + 11) + 44 * k ≤ R.locals by omega⟩, m3, hts _ m2⟩ ⟨y_blind, fun U hU hW1 => ⟨rfl, y_pre hH hKK hNn hU hW1⟩⟩ rfl hn hL.1 rfl (lv_room hW) hd ⟨by omega, by omega⟩) hH (fun r s2' H' locs' hq hH' => ?_)
  exact hq p l e R s m args below meth c D K (cells + B1) (slots + 3000 * B1) H' locs' ls hC hH' hL ⟨by omega, by omega⟩ (y_add (P := fun a b => E p l e R s m args below meth c D K a b) hE)
theorem Yw_IN {idx n k B1 B2 n1 : Nat} {y' : MethodName} {cc' : ByteArray} {nL' : Nat} (s1 s2 : List va_E) (as rest : List Value) (hM : yCIN y.cls idx y' cc' nL' n) (hd : decode cc pc = .ok (.invokespecial idx, 3)) (hk : k + 1 ≤ d) (hsuf : suf = s1 ++ s2) (hn1 : s1.length = n1) (hn : as.length = n) (hBB : B1 + B2 = B) (hW : (rest.map fun v => v.category).sum ≤ 8)
    (hZ : Yc k y' cc' nL' none (.ref (h + n1) :: as) κ (h + n1) s2 B1 (fun r s2' => Yw d y cc nL rt κ h E B2 (pc + 3) L (r.toList ++ rest) (s1 ++ s2'))) : Yw d y cc nL rt κ h E B pc L (as.reverse ++ .ref (h + n1) :: rest) suf := by
  intro p l e R s m args below meth c D K cells slots H locs ls hC hH hL hB hE
  subst hsuf
  subst hn1
  subst hBB
  obtain ⟨m1, m2, m3, m4, m5, m6, m7⟩ := hM
  obtain ⟨hx, hcc, hml, hr, hlocks, hown, hts, ⟨r1, r2⟩, hnm, hKK, hNn⟩ := id hC
  obtain ⟨b1, b2⟩ := hB
  have hfix : CallFix p m c cc nL s args zT y.cls := ⟨hx, hcc, hml, hown, hts⟩
  refine y_run (s1 := s1) (s2 := s2) (va_runIN (As := as) (rest := rest) hfix (hZ l D) ⟨va_cnB n hts (zGood m5) rfl rfl rfl (hNn.1 _ m1) (hts _ m4) m6 ⟨show k + 1 ≤ R.frames by omega, show 8 + (nL' + 11) + 44 * k ≤ R.locals by omega⟩, m3, hts _ m2⟩ ⟨y_blind, fun U hU hW1 => ⟨rfl, y_pre hH hKK hNn hU hW1⟩⟩ rfl hn hL.1 rfl (lv_room hW) hd ⟨by omega, by omega⟩) hH (fun r s2' H' locs' hq hH' => ?_)
  exact hq p l e R s m args below meth c D K (cells + B1) (slots + 3000 * B1) H' locs' ls hC hH' hL ⟨by omega, by omega⟩ (y_add (P := fun a b => E p l e R s m args below meth c D K a b) hE)
theorem Yw_V {idx n k B1 B2 n1 : Nat} {y' : MethodName} {cc' : ByteArray} {nL' : Nat} {rt' : Option FieldType} {ci : Nat} {T : u_T} {N : Nat} {fs : List Value} (s1 s2 : List va_E) (as rest : List Value) (hM : zCV y.cls idx y' cc' nL' rt' n) (hd : decode cc pc = .ok (.invokevirtual idx, 3)) (hci : vwCl[ci]? = some (y'.cls, T, N)) (ho : s2[0]? = some (.inr (ci, fs))) (hk : k + 1 ≤ d) (hsuf : suf = s1 ++ s2) (hn1 : s1.length = n1) (hn : as.length = n) (hBB : B1 + B2 = B) (hW : (rest.map fun v => v.category).sum ≤ 8)
    (hZ : Yc k y' cc' nL' rt' (.ref (h + n1) :: as) κ (h + n1) s2 B1 (fun r s2' => Yw d y cc nL rt κ h E B2 (pc + 3) L (r.toList ++ rest) (s1 ++ s2'))) : Yw d y cc nL rt κ h E B pc L (as.reverse ++ .ref (h + n1) :: rest) suf := by
  intro p l e R s m args below meth c D K cells slots H locs ls hC hH hL hB hE
  subst hsuf
  subst hn1
  subst hBB
  obtain ⟨m1, m2, m3, m4, m5, m6, m7⟩ := hM
  obtain ⟨hx, hcc, hml, hr, hlocks, hown, hts, ⟨r1, r2⟩, hnm, hKK, hNn⟩ := id hC
  obtain ⟨b1, b2⟩ := hB
  have hfix : CallFix p m c cc nL s args zT y.cls := ⟨hx, hcc, hml, hown, hts⟩
  have ho2 : (yW h (s1 ++ s2))[s1.length]? = some (h + s1.length, .inr (ci, fs)) := yW_get (by rw [List.getElem?_append_right (Nat.le_refl _), Nat.sub_self]; exact ho)
  refine y_run (s1 := s1) (s2 := s2) (va_runV (C := y'.cls) (As := as) (rest := rest) hfix (hZ l D) ⟨callB_of n hts (zGood m5) rfl rfl rfl (hts _ m4) (hts _ m1) m6 ⟨show k + 1 ≤ R.frames by omega, show 8 + (nL' + 11) + 44 * k ≤ R.locals by omega⟩, hts _ m2, hts _ m3⟩ ⟨y_blind, va_recv hKK hH.2.1 hci ho2, fun U hU hW1 => ⟨rfl, y_pre hH hKK hNn hU hW1⟩⟩ rfl hn hL.1 rfl (lv_room hW) hd ⟨by omega, by omega⟩) hH (fun r s2' H' locs' hq hH' => ?_)
  exact hq p l e R s m args below meth c D K (cells + B1) (slots + 3000 * B1) H' locs' ls hC hH' hL ⟨by omega, by omega⟩ (y_add (P := fun a b => E p l e R s m args below meth c D K a b) hE)
theorem Yw_S {idx n k B1 B2 n1 : Nat} {y' : MethodName} {cc' : ByteArray} {nL' : Nat} {rt' : Option FieldType} (s1 s2 : List va_E) (as rest : List Value) (hM : zCS y.cls idx y' cc' nL' rt' n) (hd : decode cc pc = .ok (.invokestatic idx, 3)) (hk : k + 1 ≤ d) (hsuf : suf = s1 ++ s2) (hn1 : s1.length = n1) (hn : as.length = n) (hBB : B1 + B2 = B) (hW : (rest.map fun v => v.category).sum ≤ 8)
    (hZ : Yc k y' cc' nL' rt' as κ (h + n1) s2 B1 (fun r s2' => Yw d y cc nL rt κ h E B2 (pc + 3) L (r.toList ++ rest) (s1 ++ s2'))) : Yw d y cc nL rt κ h E B pc L (as.reverse ++ rest) suf := by
  intro p l e R s m args below meth c D K cells slots H locs ls hC hH hL hB hE
  subst hsuf
  subst hn1
  subst hBB
  obtain ⟨m1, m2, m4, m5, m6, m7⟩ := hM
  obtain ⟨hx, hcc, hml, hr, hlocks, hown, hts, ⟨r1, r2⟩, hnm, hKK, hNn⟩ := id hC
  obtain ⟨b1, b2⟩ := hB
  have hfix : CallFix p m c cc nL s args zT y.cls := ⟨hx, hcc, hml, hown, hts⟩
  refine y_run (s1 := s1) (s2 := s2) (va_runS (As := as) (rest := rest) hfix (hZ l D) ⟨callB_of n hts (zGood m5) rfl rfl rfl (hts _ m4) (hts _ m1) m6 ⟨show k + 1 ≤ R.frames by omega, show 8 + (nL' + 11) + 44 * k ≤ R.locals by omega⟩, hts _ m2⟩ ⟨y_blind, fun U hU hW1 => ⟨rfl, y_pre hH hKK hNn hU hW1⟩⟩ rfl hn hL.1 rfl (lv_room hW) hd ⟨by omega, by omega⟩) hH (fun r s2' H' locs' hq hH' => ?_)
  exact hq p l e R s m args below meth c D K (cells + B1) (slots + 3000 * B1) H' locs' ls hC hH' hL ⟨by omega, by omega⟩ (y_add (P := fun a b => E p l e R s m args below meth c D K a b) hE)
theorem Yw_SN {idx n k B1 B2 n1 : Nat} {y' : MethodName} {cc' : ByteArray} {nL' : Nat} {rt' : Option FieldType} (s1 s2 : List va_E) (as rest : List Value) (hM : zCN y.cls idx y' cc' nL' rt' n) (hd : decode cc pc = .ok (.invokestatic idx, 3)) (hk : k + 1 ≤ d) (hsuf : suf = s1 ++ s2) (hn1 : s1.length = n1) (hn : as.length = n) (hBB : B1 + B2 = B) (hW : (rest.map fun v => v.category).sum ≤ 8)
    (hZ : Yc k y' cc' nL' rt' as κ (h + n1) s2 B1 (fun r s2' => Yw d y cc nL rt κ h E B2 (pc + 3) L (r.toList ++ rest) (s1 ++ s2'))) : Yw d y cc nL rt κ h E B pc L (as.reverse ++ rest) suf := by
  intro p l e R s m args below meth c D K cells slots H locs ls hC hH hL hB hE
  subst hsuf
  subst hn1
  subst hBB
  obtain ⟨m1, m2, m4, m5, m6, m7⟩ := hM
  obtain ⟨hx, hcc, hml, hr, hlocks, hown, hts, ⟨r1, r2⟩, hnm, hKK, hNn⟩ := id hC
  obtain ⟨b1, b2⟩ := hB
  have hfix : CallFix p m c cc nL s args zT y.cls := ⟨hx, hcc, hml, hown, hts⟩
  refine y_run (s1 := s1) (s2 := s2) (va_runSN (As := as) (rest := rest) hfix (hZ l D) ⟨va_cnB n hts (zGood m5) rfl rfl rfl (hNn.1 _ m1) (hts _ m4) m6 ⟨show k + 1 ≤ R.frames by omega, show 8 + (nL' + 11) + 44 * k ≤ R.locals by omega⟩, hts _ m2, trivial⟩ ⟨y_blind, fun U hU hW1 => ⟨rfl, y_pre hH hKK hNn hU hW1⟩⟩ rfl hn hL.1 rfl (lv_room hW) hd ⟨by omega, by omega⟩) hH (fun r s2' H' locs' hq hH' => ?_)
  exact hq p l e R s m args below meth c D K (cells + B1) (slots + 3000 * B1) H' locs' ls hC hH' hL ⟨by omega, by omega⟩ (y_add (P := fun a b => E p l e R s m args below meth c D K a b) hE)
end YC
