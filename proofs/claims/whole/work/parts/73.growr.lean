section YR
variable {d : Nat} {y : MethodName} {cc : ByteArray} {nL : Nat} {rt : Option FieldType} {κ : Nat → ClassId} {h : Nat} {E : yEt} {B pc : Nat} {L st : List Value} {suf : List va_E}
theorem Yw_iconst {n : Int} {v : Int32} (hd : decode cc pc = .ok (.iconst n, 1)) (hv : Int32.ofInt n = v) (hh : Yw d y cc nL rt κ h E B (pc + 1) L (.int v :: st) suf) : Yw d y cc nL rt κ h E B pc L st suf := by
  intro p l e R s m args below meth c D K cells slots H locs ls hC hH hL hB hE
  exact lv_iconst hC.1 hC.2.1 hd hv (hh p l e R s m args below meth c D K cells slots H locs ls hC hH hL hB hE)
theorem Yw_bipush {n : Int} {v : Int32} (hd : decode cc pc = .ok (.bipush n, 2)) (hv : (Int8.ofInt n).toInt32 = v) (hh : Yw d y cc nL rt κ h E B (pc + 2) L (.int v :: st) suf) : Yw d y cc nL rt κ h E B pc L st suf := by
  intro p l e R s m args below meth c D K cells slots H locs ls hC hH hL hB hE
  exact lv_bipush hC.1 hC.2.1 hd hv (hh p l e R s m args below meth c D K cells slots H locs ls hC hH hL hB hE)
theorem Yw_sipush {n : Int} {v : Int32} (hd : decode cc pc = .ok (.sipush n, 3)) (hv : (Int16.ofInt n).toInt32 = v) (hh : Yw d y cc nL rt κ h E B (pc + 3) L (.int v :: st) suf) : Yw d y cc nL rt κ h E B pc L st suf := by
  intro p l e R s m args below meth c D K cells slots H locs ls hC hH hL hB hE
  exact lv_sipush hC.1 hC.2.1 hd hv (hh p l e R s m args below meth c D K cells slots H locs ls hC hH hL hB hE)
theorem Yw_iadd {a b x : Int32} (hd : decode cc pc = .ok (.iadd, 1)) (hx : a + b = x) (hh : Yw d y cc nL rt κ h E B (pc + 1) L (.int x :: st) suf) : Yw d y cc nL rt κ h E B pc L (.int b :: .int a :: st) suf := by
  intro p l e R s m args below meth c D K cells slots H locs ls hC hH hL hB hE
  subst hx
  exact lv_iadd hC.1 hC.2.1 hd (hh p l e R s m args below meth c D K cells slots H locs ls hC hH hL hB hE)
theorem Yw_dup {v : Value} (hd : decode cc pc = .ok (.dup, 1)) (hv : v.category = 1) (hh : Yw d y cc nL rt κ h E B (pc + 1) L (v :: v :: st) suf) : Yw d y cc nL rt κ h E B pc L (v :: st) suf := by
  intro p l e R s m args below meth c D K cells slots H locs ls hC hH hL hB hE
  exact lv_dup hC.1 hC.2.1 hd hv (hh p l e R s m args below meth c D K cells slots H locs ls hC hH hL hB hE)
theorem Yw_goto {off : Int} (tgt : Nat) (hd : decode cc pc = .ok (.goto off, 3)) (ht : (pc : Int) + off = (tgt : Int)) (hh : Yw d y cc nL rt κ h E B tgt L st suf) : Yw d y cc nL rt κ h E B pc L st suf := by
  intro p l e R s m args below meth c D K cells slots H locs ls hC hH hL hB hE
  exact lv_goto hC.1 hC.2.1 hd ht (hh p l e R s m args below meth c D K cells slots H locs ls hC hH hL hB hE)
theorem Yw_if_eq_t {x : Int32} {off : Int} (tgt : Nat) (hd : decode cc pc = .ok (.ifCond .eq off, 3)) (ht : (pc : Int) + off = (tgt : Int)) (hx : x = 0) (hh : Yw d y cc nL rt κ h E B tgt L st suf) : Yw d y cc nL rt κ h E B pc L (.int x :: st) suf := by
  intro p l e R s m args below meth c D K cells slots H locs ls hC hH hL hB hE
  exact lv_if_eq hC.1 hC.2.1 hd ht (fun _ => (hh p l e R s m args below meth c D K cells slots H locs ls hC hH hL hB hE)) (fun c1 => absurd hx (by simpa using c1))
theorem Yw_if_eq_f {x : Int32} {off : Int} (tgt : Nat) (hd : decode cc pc = .ok (.ifCond .eq off, 3)) (ht : (pc : Int) + off = (tgt : Int)) (hx : ¬ (x = 0)) (hh : Yw d y cc nL rt κ h E B (pc + 3) L st suf) : Yw d y cc nL rt κ h E B pc L (.int x :: st) suf := by
  intro p l e R s m args below meth c D K cells slots H locs ls hC hH hL hB hE
  exact lv_if_eq hC.1 hC.2.1 hd ht (fun c1 => absurd c1 hx) (fun _ => (hh p l e R s m args below meth c D K cells slots H locs ls hC hH hL hB hE))
theorem Yw_if_ne_t {x : Int32} {off : Int} (tgt : Nat) (hd : decode cc pc = .ok (.ifCond .ne off, 3)) (ht : (pc : Int) + off = (tgt : Int)) (hx : ¬ x = 0) (hh : Yw d y cc nL rt κ h E B tgt L st suf) : Yw d y cc nL rt κ h E B pc L (.int x :: st) suf := by
  intro p l e R s m args below meth c D K cells slots H locs ls hC hH hL hB hE
  exact lv_if_ne hC.1 hC.2.1 hd ht (fun _ => (hh p l e R s m args below meth c D K cells slots H locs ls hC hH hL hB hE)) (fun c1 => absurd hx (by simpa using c1))
theorem Yw_if_ne_f {x : Int32} {off : Int} (tgt : Nat) (hd : decode cc pc = .ok (.ifCond .ne off, 3)) (ht : (pc : Int) + off = (tgt : Int)) (hx : ¬ (¬ x = 0)) (hh : Yw d y cc nL rt κ h E B (pc + 3) L st suf) : Yw d y cc nL rt κ h E B pc L (.int x :: st) suf := by
  intro p l e R s m args below meth c D K cells slots H locs ls hC hH hL hB hE
  exact lv_if_ne hC.1 hC.2.1 hd ht (fun c1 => absurd c1 hx) (fun _ => (hh p l e R s m args below meth c D K cells slots H locs ls hC hH hL hB hE))
theorem Yw_if_lt_t {x : Int32} {off : Int} (tgt : Nat) (hd : decode cc pc = .ok (.ifCond .lt off, 3)) (ht : (pc : Int) + off = (tgt : Int)) (hx : x < 0) (hh : Yw d y cc nL rt κ h E B tgt L st suf) : Yw d y cc nL rt κ h E B pc L (.int x :: st) suf := by
  intro p l e R s m args below meth c D K cells slots H locs ls hC hH hL hB hE
  exact lv_if_lt hC.1 hC.2.1 hd ht (fun _ => (hh p l e R s m args below meth c D K cells slots H locs ls hC hH hL hB hE)) (fun c1 => absurd hx (by simpa using c1))
theorem Yw_if_lt_f {x : Int32} {off : Int} (tgt : Nat) (hd : decode cc pc = .ok (.ifCond .lt off, 3)) (ht : (pc : Int) + off = (tgt : Int)) (hx : ¬ (x < 0)) (hh : Yw d y cc nL rt κ h E B (pc + 3) L st suf) : Yw d y cc nL rt κ h E B pc L (.int x :: st) suf := by
  intro p l e R s m args below meth c D K cells slots H locs ls hC hH hL hB hE
  exact lv_if_lt hC.1 hC.2.1 hd ht (fun c1 => absurd c1 hx) (fun _ => (hh p l e R s m args below meth c D K cells slots H locs ls hC hH hL hB hE))
theorem Yw_icmp_ne_t {a b : Int32} {off : Int} (tgt : Nat) (hd : decode cc pc = .ok (.if_icmp .ne off, 3)) (ht : (pc : Int) + off = (tgt : Int)) (hx : ¬ a = b) (hh : Yw d y cc nL rt κ h E B tgt L st suf) : Yw d y cc nL rt κ h E B pc L (.int b :: .int a :: st) suf := by
  intro p l e R s m args below meth c D K cells slots H locs ls hC hH hL hB hE
  exact lv_icmp_ne hC.1 hC.2.1 hd ht (fun _ => (hh p l e R s m args below meth c D K cells slots H locs ls hC hH hL hB hE)) (fun c1 => absurd hx (by simpa using c1))
theorem Yw_icmp_ne_f {a b : Int32} {off : Int} (tgt : Nat) (hd : decode cc pc = .ok (.if_icmp .ne off, 3)) (ht : (pc : Int) + off = (tgt : Int)) (hx : ¬ (¬ a = b)) (hh : Yw d y cc nL rt κ h E B (pc + 3) L st suf) : Yw d y cc nL rt κ h E B pc L (.int b :: .int a :: st) suf := by
  intro p l e R s m args below meth c D K cells slots H locs ls hC hH hL hB hE
  exact lv_icmp_ne hC.1 hC.2.1 hd ht (fun c1 => absurd c1 hx) (fun _ => (hh p l e R s m args below meth c D K cells slots H locs ls hC hH hL hB hE))
theorem Yw_icmp_ge_t {a b : Int32} {off : Int} (tgt : Nat) (hd : decode cc pc = .ok (.if_icmp .ge off, 3)) (ht : (pc : Int) + off = (tgt : Int)) (hx : b ≤ a) (hh : Yw d y cc nL rt κ h E B tgt L st suf) : Yw d y cc nL rt κ h E B pc L (.int b :: .int a :: st) suf := by
  intro p l e R s m args below meth c D K cells slots H locs ls hC hH hL hB hE
  exact lv_icmp_ge hC.1 hC.2.1 hd ht (fun _ => (hh p l e R s m args below meth c D K cells slots H locs ls hC hH hL hB hE)) (fun c1 => absurd hx (by simpa using c1))
theorem Yw_icmp_ge_f {a b : Int32} {off : Int} (tgt : Nat) (hd : decode cc pc = .ok (.if_icmp .ge off, 3)) (ht : (pc : Int) + off = (tgt : Int)) (hx : ¬ (b ≤ a)) (hh : Yw d y cc nL rt κ h E B (pc + 3) L st suf) : Yw d y cc nL rt κ h E B pc L (.int b :: .int a :: st) suf := by
  intro p l e R s m args below meth c D K cells slots H locs ls hC hH hL hB hE
  exact lv_icmp_ge hC.1 hC.2.1 hd ht (fun c1 => absurd c1 hx) (fun _ => (hh p l e R s m args below meth c D K cells slots H locs ls hC hH hL hB hE))
theorem Yw_aload {k : Fin 4} {i a : Nat} (hd : decode cc pc = .ok (.aload_n k, 1)) (hi : (k : Nat) = i) (hv : L[i]? = some (.ref a)) (hh : Yw d y cc nL rt κ h E B (pc + 1) L (.ref a :: st) suf) : Yw d y cc nL rt κ h E B pc L st suf := by
  intro p l e R s m args below meth c D K cells slots H locs ls hC hH hL hB hE
  exact lv_aload_n (x := a) hC.1 hC.2.1 hd hi (zLs_get hL i hv (by intro e; cases e)) (hh p l e R s m args below meth c D K cells slots H locs ls hC hH hL hB hE)
theorem Yw_iload {k : Fin 4} {i : Nat} {x : Int32} (hd : decode cc pc = .ok (.iload_n k, 1)) (hi : (k : Nat) = i) (hv : L[i]? = some (.int x)) (hh : Yw d y cc nL rt κ h E B (pc + 1) L (.int x :: st) suf) : Yw d y cc nL rt κ h E B pc L st suf := by
  intro p l e R s m args below meth c D K cells slots H locs ls hC hH hL hB hE
  exact lv_iload_n (x := x) hC.1 hC.2.1 hd hi (zLs_get hL i hv (by intro e; cases e)) (hh p l e R s m args below meth c D K cells slots H locs ls hC hH hL hB hE)
theorem Yw_iloadw {i : Nat} {x : Int32} (hd : decode cc pc = .ok (.iload i, 2)) (hv : L[i]? = some (.int x)) (hh : Yw d y cc nL rt κ h E B (pc + 2) L (.int x :: st) suf) : Yw d y cc nL rt κ h E B pc L st suf := by
  intro p l e R s m args below meth c D K cells slots H locs ls hC hH hL hB hE
  exact lv_iload (x := x) hC.1 hC.2.1 hd (zLs_get hL i hv (by intro e; cases e)) (hh p l e R s m args below meth c D K cells slots H locs ls hC hH hL hB hE)
theorem Yw_istore {k : Fin 4} {i : Nat} {x : Int32} {L' : List Value} (hd : decode cc pc = .ok (.istore_n k, 1)) (hi : (k : Nat) = i) (hn : i < nL) (hp : ∀ w, 0 < i → L[i - 1]? = some w → w.category ≠ 2) (hL' : L.set i (.int x) = L') (hh : Yw d y cc nL rt κ h E B (pc + 1) L' st suf) : Yw d y cc nL rt κ h E B pc L (.int x :: st) suf := by
  intro p l e R s m args below meth c D K cells slots H locs ls hC hH hL hB hE
  subst hL'
  exact lv_istore_n hC.1 hC.2.1 hd hi (zLv_has hL) hn rfl (fun ls1 hl1 => (hh p l e R s m args below meth c D K cells slots H locs ls1 hC hH (zLs_store (v := .int x) (L := L) hL.2.2.1 (by intro e; cases e) hp hl1) hB hE))
theorem Yw_astore {k : Fin 4} {i : Nat} {x : Nat} {L' : List Value} (hd : decode cc pc = .ok (.astore_n k, 1)) (hi : (k : Nat) = i) (hn : i < nL) (hp : ∀ w, 0 < i → L[i - 1]? = some w → w.category ≠ 2) (hL' : L.set i (.ref x) = L') (hh : Yw d y cc nL rt κ h E B (pc + 1) L' st suf) : Yw d y cc nL rt κ h E B pc L (.ref x :: st) suf := by
  intro p l e R s m args below meth c D K cells slots H locs ls hC hH hL hB hE
  subst hL'
  exact lv_astore_n hC.1 hC.2.1 hd hi (zLv_has hL) hn rfl (fun ls1 hl1 => (hh p l e R s m args below meth c D K cells slots H locs ls1 hC hH (zLs_store (v := .ref x) (L := L) hL.2.2.1 (by intro e; cases e) hp hl1) hB hE))
theorem Yw_iinc {i : Nat} {x z : Int32} {n : Int} {L' : List Value} (hd : decode cc pc = .ok (.iinc i n, 3)) (hv : L[i]? = some (.int x)) (hz : x + Int32.ofInt n = z) (hn : i < nL) (hp : ∀ w, 0 < i → L[i - 1]? = some w → w.category ≠ 2) (hL' : L.set i (.int z) = L') (hh : Yw d y cc nL rt κ h E B (pc + 3) L' st suf) : Yw d y cc nL rt κ h E B pc L st suf := by
  intro p l e R s m args below meth c D K cells slots H locs ls hC hH hL hB hE
  subst hL'
  obtain ⟨k1, hk1⟩ := List.getElem?_of_mem (zLv_mem (ad := id) (L := L) (i := i) (v := .int x) hv (by intro e; cases e))
  exact lv_iinc hC.1 hC.2.1 hd (zLv_has hL) hk1 hz hn rfl (fun ls1 hl1 => (hh p l e R s m args below meth c D K cells slots H locs ls1 hC hH (zLs_store (v := .int z) (L := L) hL.2.2.1 (by intro e; cases e) hp hl1) hB hE))
theorem Yw_get {idx ci j q : Nat} {fs : List Value} {v : Value} (hF : zF y.cls idx ci j) (hd : decode cc pc = .ok (.getfield idx, 3)) (he : suf[q]? = some (.inr (ci, fs))) (hv : fs[j]? = some v) (hh : Yw d y cc nL rt κ h E B (pc + 3) L (v :: st) suf) : Yw d y cc nL rt κ h E B pc L (.ref (h + q) :: st) suf := by
  intro p l e R s m args below meth c D K cells slots H locs ls hC hH hL hB hE
  obtain ⟨C, T, N, f1, f2, f3, f4⟩ := hF
  exact va_get hC.1 hC.2.1 hC.2.2.2.2.2.2.1 (zCl f1).1 hC.2.2.2.2.2.1 hC.2.2.2.2.2.2.2.2.2.1 hH.2.1 q (yW_get he) f1 j f2 (hC.2.2.2.2.2.2.1 _ f3) (fun x hx => by rw [← f4]; exact hx) hv hd (hh p l e R s m args below meth c D K cells slots H locs ls hC hH hL hB hE)
/-- a final field's link -/
def zPF (own : String) (idx ci j : Nat) (ty : FieldType) : Prop := ∃ (T : u_T) (N : Nat), vwCl[ci]? = some (own, T, N) ∧ j < N ∧ Cond.fieldLink own idx own (T j).2.1 (T j).2.2.1 ∈ zT ∧ (T j).1 = own ∧ (T j).2.2.2 = true ∧ parseFieldDescriptor (T j).2.2.1 = some ty
theorem yHp.put {s : State} {D : va_G} {suf : List va_E} {h q k : Nat} {e0 e : va_E} {H H1 : Heap} {locs : List Loc} (hH : yHp s D h suf H locs) (he : suf[q]? = some e0) (h1 : va_at D vwCl (h + q, e) H1) (z : H1.size = H.size) (oq : ∀ x : Nat, x ≠ h + q → H1[x]? = H[x]?) : yHp s D h (suf.set q e) H1 (locs ++ [⟨h + q, k⟩]) := by
  refine ⟨by rw [z, List.length_set]; exact hH.1, ?_, hH.2.2.1.put z oq (Nat.le_add_right h q), hH.2.2.2⟩
  rw [← yW_set]
  exact hH.2.1.set yW_D (yW_get he) h1 oq
theorem Yw_put {idx ci j q : Nat} {fs : List Value} {v : Value} {ty : FieldType} (hF : zP y.cls idx ci j ty) (hd : decode cc pc = .ok (.putfield idx, 3)) (he : suf[q]? = some (.inr (ci, fs))) (hl : j < fs.length) (hn : narrow ty v = v) (hf : fits ty v = true) (hh : Yw d y cc nL rt κ h E B (pc + 3) L st (suf.set q (.inr (ci, fs.set j v)))) : Yw d y cc nL rt κ h E B pc L (v :: .ref (h + q) :: st) suf := by
  intro p l e R s m args below meth c D K cells slots H locs ls hC hH hL hB hE
  obtain ⟨C, T, N, f1, f2, f3, f4, f5, f6⟩ := hF
  obtain ⟨hx, hcc, hml, hrt, hlocks, hown, hts, hfr, hnm, hKK, hNn⟩ := id hC
  have hap := va_apart (own := y.cls) hts (zCl f1).1 (zTy ci) (zCl f1).2.1 (zCl f1).2.2 hKK f1
  obtain ⟨r, g1, cell, q1, q2, q3, q4⟩ := hH.2.1 q _ (yW_get he)
  have hr : r = (C, T, N) := Option.some.inj (g1.symm.trans f1)
  subst hr
  obtain ⟨hSl, hfc, kC, hkC, hkind⟩ := hKK.1 ci _ f1
  obtain ⟨cf, kf, fi, f, hi, hsl⟩ := hSl j f2
  have hlay := hts _ ((zCl f1).1 _ (u_in_lay f2))
  unfold u_lay at hlay
  have hst := (u_facts hfc hkC (u_lays hts (zCl f1).1 f2) hi).1
  have hi2 := hi
  rw [f4] at hi2
  rw [if_neg (by rw [f5]; decide)] at hlay
  have h6 := u_store hfc hkC hkind hlay hi f6 hn hf
  refine W.putK hx hcc (f := f) ⟨hown, hts _ f3, ⟨_, _, _, hi2⟩, hst⟩ (by rw [q2]; exact h6) q1 q3 (by rw [hsl]; exact k2_hasslot (q4 j f2)) rfl rfl hd fun H1 e1 e2 e3 => ?_
  rw [hsl] at e1 ⊢
  exact hh p l e R s m args below meth c D K cells slots H1 _ ls hC (hH.put he ⟨_, f1, t_OB.to (V := updV (vp_V fs) j v) ⟨_, e1, q2, q3, t_set q4 hap f2 v⟩ (fun x _ => vp_updV_set hl v x)⟩ e2 e3) hL hB hE
theorem Yw_putF {idx ci j q : Nat} {fs : List Value} {v : Value} {ty : FieldType} (hF : zPF y.cls idx ci j ty) (hin : y.name = "<init>") (hd : decode cc pc = .ok (.putfield idx, 3)) (he : suf[q]? = some (.inr (ci, fs))) (hl : j < fs.length) (hn : narrow ty v = v) (hf : fits ty v = true) (hh : Yw d y cc nL rt κ h E B (pc + 3) L st (suf.set q (.inr (ci, fs.set j v)))) : Yw d y cc nL rt κ h E B pc L (v :: .ref (h + q) :: st) suf := by
  intro p l e R s m args below meth c D K cells slots H locs ls hC hH hL hB hE
  obtain ⟨T, N, f1, f2, f3, f4, f5, f6⟩ := hF
  obtain ⟨hx, hcc, hml, hrt, hlocks, hown, hts, hfr, hnm, hKK, hNn⟩ := id hC
  have hap := va_apart (own := y.cls) hts (zCl f1).1 (zTy ci) (zCl f1).2.1 (zCl f1).2.2 hKK f1
  obtain ⟨r, g1, cell, q1, q2, q3, q4⟩ := hH.2.1 q _ (yW_get he)
  have hr : r = (y.cls, T, N) := Option.some.inj (g1.symm.trans f1)
  subst hr
  obtain ⟨hSl, hfc, kC, hkC, hkind⟩ := hKK.1 ci _ f1
  obtain ⟨cf, kf, fi, f, hi, hsl⟩ := hSl j f2
  have hlay := hts _ ((zCl f1).1 _ (u_in_lay f2))
  unfold u_lay at hlay
  have hst := (u_facts hfc hkC (u_lays hts (zCl f1).1 f2) hi).1
  have hi2 := hi
  rw [f4] at hi2
  rw [if_pos f5] at hlay
  have hcf : m.cls = cf := by
    obtain ⟨_, _, c', _, _, _, -, -, hf', -, -, -, hown2, -⟩ := Cond.laysFinal_spec hlay
    have e1 : c' = cf := by have := hi.symm.trans hf'; simp at this; exact this.1.symm
    rw [f4] at hown2
    rw [← e1]; exact Option.some.inj (hown.symm.trans hown2)
  have h6 := u_fits hfc hkC hkind (Or.inr hlay) hi f6 hn hf
  refine W.putFinK hx hcc hown (hts _ f3) hi2 hst hcf ((hnm hin).trans hin) (by rw [q2]; exact h6) q1 q3 (by rw [hsl]; exact k2_hasslot (q4 j f2)) rfl rfl hd fun H1 e1 e2 e3 => ?_
  rw [hsl] at e1 ⊢
  exact hh p l e R s m args below meth c D K cells slots H1 _ ls hC (hH.put he ⟨_, f1, t_OB.to (V := updV (vp_V fs) j v) ⟨_, e1, q2, q3, t_set q4 hap f2 v⟩ (fun x _ => vp_updV_set hl v x)⟩ e2 e3) hL hB hE
theorem Yw_iast {q n : Nat} {f : Nat → Int32} {i x : Int32} (hd : decode cc pc = .ok (.iastore, 1)) (he : suf[q]? = some (.inl (κ 0, n, .inl f))) (hin : vp_in i n) (hh : Yw d y cc nL rt κ h E B (pc + 1) L st (suf.set q (.inl (κ 0, n, .inl (upd f i.toNatClampNeg x))))) : Yw d y cc nL rt κ h E B pc L (.int x :: .int i :: .ref (h + q) :: st) suf := by
  intro p l e R s m args below meth c D K cells slots H locs ls hC hH hL hB hE
  have hKK := hC.2.2.2.2.2.2.2.2.2.1
  refine W.iast hC.1 hC.2.1 (hH.2.1 q _ (yW_get he)) ((hKK.2 0 _ rfl).1 n (fun j => .int (f j))) (fun q => by cases q) (by show ¬ (i < 0 ∨ (arrV _ _ _).slots.size ≤ _); rw [arrV_size]; exact hin) rfl rfl hd fun H1 e1 z oq => ?_
  refine hh p l e R s m args below meth c D K cells slots H1 _ ls hC (hH.put he ?_ z oq) hL hB hE
  show H1[h + q]? = some (vp_cell _ _)
  rw [e1, vp_cell_i, vp_cell_i, arrV_store]
  congr 2
  funext x
  by_cases hq : x = i.toNatClampNeg
  · subst hq
    simp [updV, upd]
  · simp [updV, upd, hq]
theorem Yw_aast {q qk n ci t : Nat} {f : Nat → Option Nat} {vs : List Value} {r : vw_C} {i : Int32} (hd : decode cc pc = .ok (.aastore, 1)) (he : suf[q]? = some (.inl (κ t, n, .inr (.inr (.inr (.inr f)))))) (ht : (yKs κ)[t]? = some (κ t, .object r.1)) (hk : suf[qk]? = some (.inr (ci, vs))) (hci : vwCl[ci]? = some r) (hin : vp_in i n) (hh : Yw d y cc nL rt κ h E B (pc + 1) L st (suf.set q (.inl (κ t, n, .inr (.inr (.inr (.inr (va_up f i.toNatClampNeg (some (h + qk)))))))))) : Yw d y cc nL rt κ h E B pc L (.ref (h + qk) :: .int i :: .ref (h + q) :: st) suf := by
  intro p l e R s m args below meth c D K cells slots H locs ls hC hH hL hB hE
  have hKK := hC.2.2.2.2.2.2.2.2.2.1
  have hlt : i.toNatClampNeg < n := Nat.not_le.mp fun q => hin (Or.inr q)
  obtain ⟨r', hr', cellV, g1, g2, g3, -⟩ := hH.2.1 qk _ (yW_get hk)
  have hcls := (hKK.1 ci r hci).2
  obtain ⟨kA, comp, k1, k2, k3, -⟩ := (hKK.2 t _ ht).2
  have hcomp : comp = D.1 ci := Option.some.inj (k3.symm.trans hcls.1)
  subst hcomp
  obtain ⟨kC, hkC, -⟩ := hcls.2
  refine W.aast hC.1 hC.2.1 (hH.2.1 q _ (yW_get he)) (fun q h => by cases h) (fun h => by cases h) k1 k2 rfl hkC ⟨fun q => hin (Or.inl q), by show _ < (arrV _ _ _).slots.size; rw [arrV_size]; exact hlt⟩ g1 (fun q h => by rw [g3] at h; cases h) (by rw [g2]; exact hkC) (by rw [g2]; exact va_assign hcls) rfl rfl hd fun H1 e1 z oq => ?_
  refine hh p l e R s m args below meth c D K cells slots H1 _ ls hC (hH.put he ?_ z oq) hL hB hE
  show H1[h + q]? = some (vp_cell _ _)
  rw [e1, vp_cell_q, vp_cell_q, arrV_store]
  congr 2
  funext x
  by_cases hq : x = i.toNatClampNeg
  · subst hq
    simp [updV, va_up, va_rf]
  · simp [updV, va_up, hq]
theorem Yw_aald {q n t a : Nat} {f : Nat → Option Nat} {C : String} {i : Int32} (hd : decode cc pc = .ok (.aaload, 1)) (he : suf[q]? = some (.inl (κ t, n, .inr (.inr (.inr (.inr f)))))) (ht : (yKs κ)[t]? = some (κ t, .object C)) (hin : vp_in i n) (hv : f i.toNatClampNeg = some a) (hh : Yw d y cc nL rt κ h E B (pc + 1) L (.ref a :: st) suf) : Yw d y cc nL rt κ h E B pc L (.int i :: .ref (h + q) :: st) suf := by
  intro p l e R s m args below meth c D K cells slots H locs ls hC hH hL hB hE
  have h1 := (hh p l e R s m args below meth c D K cells slots H locs ls hC hH hL hB hE)
  refine va_aldq hC.1 hC.2.1 hC.2.2.2.2.2.2.2.2.2.1 hH.2.1 q t (C := C) (yW_get he) ht hin hd ?_
  rw [hv]
  exact h1
theorem Yw_alen {q n : Nat} {f : Nat → Int32} (hd : decode cc pc = .ok (.arraylength, 1)) (he : suf[q]? = some (.inl (κ 0, n, .inl f))) (hh : Yw d y cc nL rt κ h E B (pc + 1) L (.int (nI n) :: st) suf) : Yw d y cc nL rt κ h E B pc L (.ref (h + q) :: st) suf := by
  intro p l e R s m args below meth c D K cells slots H locs ls hC hH hL hB hE
  exact va_alen (ty := .int) hC.1 hC.2.1 hC.2.2.2.2.2.2.2.2.2.1 hH.2.1 q 0 (yW_get he) rfl rfl hd (hh p l e R s m args below meth c D K cells slots H locs ls hC hH hL hB hE)
theorem yHp.push {s : State} {D : va_G} {suf : List va_E} {h : Nat} {e : va_E} {H H1 : Heap} {locs : List Loc} (hH : yHp s D h suf H locs) (h1 : va_at D vwCl (H.size, e) H1) (z : H1.size = H.size + 1) (oq : ∀ x : Nat, x < H.size → H1[x]? = H[x]?) : yHp s D h (suf ++ [e]) H1 locs := by
  obtain ⟨g1, g2, g3, g4⟩ := hH
  refine ⟨by rw [z, g1, List.length_append]; rfl, ?_, ⟨Nat.le_trans g3.1 (by omega), fun x h1 h2 => (oq x (Nat.lt_of_lt_of_le h1 g3.1)).trans (g3.2.1 x h1 h2), g3.2.2⟩, g4⟩
  rw [yW_app]
  refine va_P.app (fun k x hx => (g2 k x hx).kept (oq x.1 (g2 k x hx).lt)) (fun k x hx => ?_)
  obtain ⟨a1, a2, a3⟩ := yW_some hx
  have hk : k = 0 := by simp at a2; exact a2
  subst hk
  obtain ⟨x1, x2⟩ := x
  cases a3
  have e1 : x1 = H.size := by rw [g1]; exact a1
  subst e1
  exact h1
theorem y_add {P : Nat → Nat → Prop} {cells slots B1 B2 : Nat} (h : P (cells + (B1 + B2)) (slots + 3000 * (B1 + B2))) : P (cells + B1 + B2) (slots + 3000 * B1 + 3000 * B2) := by
  rw [show cells + B1 + B2 = cells + (B1 + B2) by omega, show slots + 3000 * B1 + 3000 * B2 = slots + 3000 * (B1 + B2) by omega]
  exact h
theorem y_add1 {P : Nat → Nat → Prop} {cells slots B1 : Nat} (h : P (cells + (B1 + 1)) (slots + 3000 * (B1 + 1))) : P (cells + 1 + B1) (slots + 3000 + 3000 * B1) := by
  rw [show cells + 1 + B1 = cells + (B1 + 1) by omega, show slots + 3000 + 3000 * B1 = slots + 3000 * (B1 + 1) by omega]
  exact h
theorem Yw_new {idx ci n N : Nat} {C : String} {T : u_T} {fs : List Value} (hcl : vwCl[ci]? = some (C, T, N)) (w1 : Cond.classLink y.cls idx C ∈ zT) (w2 : Cond.instantiable C N ∈ zT) (w3 : Cond.initialized C ∈ zT) (hfs : ∀ j, j < N → defaultValue (zTy ci j) = vp_V fs j) (hN : N ≤ 3000) (hd : decode cc pc = .ok (.new idx, 3)) (hn : suf.length = n) (hh : Yw d y cc nL rt κ h E B (pc + 3) L (.ref (h + n) :: st) (suf ++ [.inr (ci, fs)])) : Yw d y cc nL rt κ h E (B + 1) pc L st suf := by
  intro p l e R s m args below meth c D K cells slots H locs ls hC hH hL hB hE
  obtain ⟨hx, hcc, hml, hrt, hlocks, hown, hts, hfr, hnm, hKK, hNn⟩ := id hC
  have hKn := hKK.1 ci _ hcl
  obtain ⟨b1, b2⟩ := hB
  have hz : H.size = h + n := by rw [← hn]; exact hH.1
  refine W.newcK hx hcc hown (hts _ w1) (hts _ w2) (hts _ w3) rfl hd (by omega) (by omega) hKn.2.1 rfl fun H1 kC hkC e1 z1 o1 => ?_
  refine W.widen (k := cells + 1) (n := slots + 3000) (Nat.le_refl _) (by omega) ?_
  have h2 := hh p l e R s m args below meth c D K (cells + 1) (slots + 3000) H1 locs ls hC (hH.push ⟨_, hcl, (u_born (zTy ci) hts (zCl hcl).1 hKn hkC e1 (zCl hcl).2.1).to hfs⟩ z1 o1) hL ⟨by omega, by omega⟩ (y_add1 (P := fun a b => E p l e R s m args below meth c D K a b) hE)
  rw [← hz] at h2
  exact h2
theorem Yw_newa_int {n N : Nat} {x : Int32} (hd : decode cc pc = .ok (.newarray .int, 2)) (w1 : Cond.arrayClass .int ∈ zT) (hx0 : ¬ x < 0) (hN : x.toNatClampNeg = N) (hN2 : N ≤ 3000) (hn : suf.length = n) (hh : Yw d y cc nL rt κ h E B (pc + 2) L (.ref (h + n) :: st) (suf ++ [.inl (κ 0, N, .inl (fun _ => 0))])) : Yw d y cc nL rt κ h E (B + 1) pc L (.int x :: st) suf := by
  intro p l e R s m args below meth c D K cells slots H locs ls hC hH hL hB hE
  obtain ⟨hx, hcc, hml, hrt, hlocks, hown, hts, hfr, hnm, hKK, hNn⟩ := id hC
  obtain ⟨b1, b2⟩ := hB
  have hz : H.size = h + n := by rw [← hn]; exact hH.1
  have hcb : componentBytes (newarray.typeOf .int) ≤ 4 := by decide
  refine va_newaK (atype := .int) hx hcc (hts _ w1) rfl hd rfl hx0 hN (by have := Nat.mul_le_mul hN2 hcb; omega) (by omega) (by omega) rfl fun H1 cA e1 z1 o1 hAr hNm => ?_
  have hcA : cA = κ 0 := Option.some.inj (hNm.symm.trans (hKK.2 0 _ rfl).2)
  subst hcA
  refine W.widen (k := cells + 1) (n := slots + 3000) (Nat.le_refl _) (by omega) ?_
  have h2 := hh p l e R s m args below meth c D K (cells + 1) (slots + 3000) H1 locs ls hC (hH.push e1 z1 o1) hL ⟨by omega, by omega⟩ (y_add1 (P := fun a b => E p l e R s m args below meth c D K a b) hE)
  rw [← hz] at h2
  exact h2
theorem Yw_newa_bool {n N : Nat} {x : Int32} (hd : decode cc pc = .ok (.newarray .boolean, 2)) (w1 : Cond.arrayClass .boolean ∈ zT) (hx0 : ¬ x < 0) (hN : x.toNatClampNeg = N) (hN2 : N ≤ 3000) (hn : suf.length = n) (hh : Yw d y cc nL rt κ h E B (pc + 2) L (.ref (h + n) :: st) (suf ++ [.inl (κ 1, N, .inl (fun _ => 0))])) : Yw d y cc nL rt κ h E (B + 1) pc L (.int x :: st) suf := by
  intro p l e R s m args below meth c D K cells slots H locs ls hC hH hL hB hE
  obtain ⟨hx, hcc, hml, hrt, hlocks, hown, hts, hfr, hnm, hKK, hNn⟩ := id hC
  obtain ⟨b1, b2⟩ := hB
  have hz : H.size = h + n := by rw [← hn]; exact hH.1
  have hcb : componentBytes (newarray.typeOf .boolean) ≤ 4 := by decide
  refine va_newaK (atype := .boolean) hx hcc (hts _ w1) rfl hd rfl hx0 hN (by have := Nat.mul_le_mul hN2 hcb; omega) (by omega) (by omega) rfl fun H1 cA e1 z1 o1 hAr hNm => ?_
  have hcA : cA = κ 1 := Option.some.inj (hNm.symm.trans (hKK.2 1 _ rfl).2)
  subst hcA
  refine W.widen (k := cells + 1) (n := slots + 3000) (Nat.le_refl _) (by omega) ?_
  have h2 := hh p l e R s m args below meth c D K (cells + 1) (slots + 3000) H1 locs ls hC (hH.push e1 z1 o1) hL ⟨by omega, by omega⟩ (y_add1 (P := fun a b => E p l e R s m args below meth c D K a b) hE)
  rw [← hz] at h2
  exact h2
theorem Yw_newq {idx n N t : Nat} {C : String} {x : Int32} (hd : decode cc pc = .ok (.anewarray idx, 3)) (w1 : Cond.classLink y.cls idx C ∈ zT) (ht : (yKs κ)[t]? = some (κ t, .object C)) (ho : ∀ U, yN U → va_AO C U) (hx0 : ¬ x < 0) (hN : x.toNatClampNeg = N) (hN2 : N ≤ 3000) (hn : suf.length = n) (hh : Yw d y cc nL rt κ h E B (pc + 3) L (.ref (h + n) :: st) (suf ++ [.inl (κ t, N, .inr (.inr (.inr (.inr (fun _ => none)))))])) : Yw d y cc nL rt κ h E (B + 1) pc L (.int x :: st) suf := by
  intro p l e R s m args below meth c D K cells slots H locs ls hC hH hL hB hE
  obtain ⟨hx, hcc, hml, hrt, hlocks, hown, hts, hfr, hnm, hKK, hNn⟩ := id hC
  obtain ⟨b1, b2⟩ := hB
  subst hN
  have hz : H.size = h + n := by rw [← hn]; exact hH.1
  refine W.anew hx hcc hown (hts _ w1) (va_AO.use (ho _ hNn)) rfl hd rfl hx0 (by omega) (by omega) (by omega) fun cA kA comp f1 f2 f3 f4 => ?_
  obtain ⟨kA2, comp2, k1, k2, k3, k4⟩ := (hKK.2 t _ ht).2
  have hcA : cA = κ t := Option.some.inj (f1.symm.trans k4)
  subst hcA
  refine W.widen (k := cells + 1) (n := slots + 3000) (Nat.le_refl _) (by omega) ?_
  have h2 := hh p l e R s m args below meth c D K (cells + 1) (slots + 3000) (H.push { cls := κ t, slots := Array.replicate x.toNatClampNeg .null, vm := .none }) locs ls hC (hH.push (by
    show (H.push _)[H.size]? = some (vp_cell _ _)
    rw [Array.getElem?_push_size, vp_cell_q, arrV_new]
    rfl) (by rw [Array.size_push]) (fun q hq => by rw [Array.getElem?_push, if_neg (Nat.ne_of_lt hq)])) hL ⟨by omega, by omega⟩ (y_add1 (P := fun a b => E p l e R s m args below meth c D K a b) hE)
  rw [← hz] at h2
  exact h2
theorem Yw_obj {idx a : Nat} (hd : decode cc pc = .ok (.invokespecial idx, 3)) (w1 : Cond.methodLink y.cls idx Lib.objectInit ∈ zT) (w2 : Cond.instanceMethod Lib.objectInit ∈ zT) (w3 : Cond.code Lib.objectInit ⟨#[0xb1]⟩ 1 none ∈ zT) (hk : 1 ≤ d) (hW : (st.map fun v => v.category).sum ≤ 8) (hh : Yw d y cc nL rt κ h E B (pc + 3) L st suf) : Yw d y cc nL rt κ h E B pc L (.ref a :: st) suf := by
  intro p l e R s m args below meth c D K cells slots H locs ls hC hH hL hB hE
  obtain ⟨hx, hcc, hml, hrt, hlocks, hown, hts, hfr, hnm, hKK, hNn⟩ := id hC
  refine W.objInit hx hcc hown (hts _ w1) (hts _ w2) (hts _ w3) rfl (hL.1.trans hml.symm) rfl hd (by omega) ?_ (hh p l e R s m args below meth c D K cells slots H locs ls hC hH hL hB hE)
  show 2 * 0 + _ + 12 ≤ _
  omega
theorem Yw_ret {Q : yQ} (hd : decode cc pc = .ok (.return_, 1)) (hr : rt = none) (hq : Q none suf) : Yw d y cc nL rt κ h (yEx cc rt h Q) 0 pc L [] suf := by
  intro p l e R s m args below meth c D K cells slots H locs ls hC hH hL hB hE
  exact hE none suf H locs pc ls hq hH (Or.inr (Or.inr ⟨rfl, hr, hd⟩))
theorem Yw_ireturn {Q : yQ} {x : Int32} {ty : FieldType} (hd : decode cc pc = .ok (.ireturn, 1)) (hr : rt = some ty) (hn : narrow ty (.int x) = .int x) (hq : Q (some (.int x)) suf) : Yw d y cc nL rt κ h (yEx cc rt h Q) 0 pc L [.int x] suf := by
  intro p l e R s m args below meth c D K cells slots H locs ls hC hH hL hB hE
  exact hE (some (.int x)) suf H locs pc ls hq hH (Or.inl ⟨x, ty, rfl, hr, hn, hd⟩)
end YR
