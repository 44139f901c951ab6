/-! the search: ahead, the queue, the goal -/
abbrev h_S : Type := (Nat → Int32) × List Nat × Int32
def h_enq (s : h_S) (x bh : Nat) : h_S := if s.1 x = -1 ∧ s.2.1.length < 2048 then (upd s.1 x (nI bh), s.2.1 ++ [x], s.2.2) else s
def h_one (wy : Nat → Nat → Bool) (nx : Nat → Nat → Nat) (x p : Nat) (s : h_S) : h_S :=
  if wy (x / 256) p then
    if nx (x % 256) p = 0 then ((h_enq s (p * 256 + nx (x % 256) p) x).1, (h_enq s (p * 256 + nx (x % 256) p) x).2.1, nI (p * 256)) else h_enq s (p * 256 + nx (x % 256) p) x
  else s
def h_exp (wy : Nat → Nat → Bool) (nx : Nat → Nat → Nat) (x : Nat) : Nat → Nat → h_S → h_S
  | 0, _, s => s
  | m + 1, p, s => if s.2.2 = -1 then h_exp wy nx x m (p + 1) (h_one wy nx x p s) else s
theorem h_exp_s (wy : Nat → Nat → Bool) (nx : Nat → Nat → Nat) (x m p : Nat) (s : h_S) : h_exp wy nx x (m + 1) p s = if s.2.2 = -1 then h_exp wy nx x m (p + 1) (h_one wy nx x p s) else s := rfl
theorem h_exp_g (wy : Nat → Nat → Bool) (nx : Nat → Nat → Nat) (x : Nat) : ∀ m p (s : h_S), s.2.2 ≠ -1 → h_exp wy nx x m p s = s
  | 0, _, _, _ => rfl
  | m + 1, p, s, h => by rw [h_exp_s, if_neg h]
def h_lvl (wy : Nat → Nat → Bool) (nx : Nat → Nat → Nat) : Nat → Nat → h_S → h_S
  | 0, _, s => s
  | m + 1, i, s => if (h_exp wy nx (s.2.1.getD i 0) 8 0 s).2.2 = -1 then h_lvl wy nx m (i + 1) (h_exp wy nx (s.2.1.getD i 0) 8 0 s) else h_exp wy nx (s.2.1.getD i 0) 8 0 s
theorem h_lvl_s (wy : Nat → Nat → Bool) (nx : Nat → Nat → Nat) (m i : Nat) (s : h_S) : h_lvl wy nx (m + 1) i s = if (h_exp wy nx (s.2.1.getD i 0) 8 0 s).2.2 = -1 then h_lvl wy nx m (i + 1) (h_exp wy nx (s.2.1.getD i 0) 8 0 s) else h_exp wy nx (s.2.1.getD i 0) 8 0 s := rfl
def h_run (wy : Nat → Nat → Bool) (nx : Nat → Nat → Nat) : Nat → Nat → Nat → h_S → Int32 × h_S
  | 0, _, _, s => (-1, s)
  | m + 1, wk, dn, s => if (h_lvl wy nx (s.2.1.length - dn) dn s).2.2 = -1 then h_run wy nx m (wk + 1) s.2.1.length (h_lvl wy nx (s.2.1.length - dn) dn s) else (nI wk, h_lvl wy nx (s.2.1.length - dn) dn s)
theorem h_run_s (wy : Nat → Nat → Bool) (nx : Nat → Nat → Nat) (m wk dn : Nat) (s : h_S) : h_run wy nx (m + 1) wk dn s = if (h_lvl wy nx (s.2.1.length - dn) dn s).2.2 = -1 then h_run wy nx m (wk + 1) s.2.1.length (h_lvl wy nx (s.2.1.length - dn) dn s) else (nI wk, h_lvl wy nx (s.2.1.length - dn) dn s) := rfl
def x_h (μ : zMu) (e : Nat) (s : h_S) : Prop := (∀ x, x < 2048 → μ 46 x = s.1 x) ∧ (∀ i, i < s.2.1.length → μ 47 i = nI (s.2.1.getD i 0)) ∧ μ 44 5 = nI s.2.1.length ∧ μ 44 7 = s.2.2 ∧ μ 44 6 = nI e ∧ s.2.1.length ≤ 2048 ∧ ∀ x ∈ s.2.1, x < 2048
theorem getD_app {l : List Nat} {x i : Nat} (hi : i ≤ l.length) : (l ++ [x]).getD i 0 = if i = l.length then x else l.getD i 0 := by
  rw [List.getD_eq_getElem?_getD, List.getD_eq_getElem?_getD, List.getElem?_append]
  by_cases h : i = l.length
  · subst h; simp
  · have : i < l.length := by omega
    simp [h, this]
set_option maxRecDepth 20000 in
theorem s_enq {e x bh : Nat} {s : h_S} {Q : zQ} {μ : zMu} {τ : Int64} (hx : x_h μ e s) (hx2 : x < 2048) (h : ∀ μ2, zOff [44, 46, 47] μ μ2 → x_h μ2 e (h_enq s x bh) → Q none μ2 τ) : Zc 0 yX4_enqueue cX4_enqueue 3 none [.ref 44, .int (nI x), .int (nI bh)] μ τ Q := by
  refine Zc.mk 0 [.ref 44, .int (nI x), .int (nI bh)] rfl (by decide) (Nat.le_of_ble_eq_true rfl) ?_
  obtain ⟨g1, g2, g3, g4, g5, g6, g7⟩ := hx
  refine Zw_aload_0 dX4_enqueue_0 ?_
  refine Zw_getr 46 lf_X4_15 dX4_enqueue_1 (by first | decide | assumption | omega) (by first | rfl | assumption) (by rfl) ?_
  refine Zw_iload_1 dX4_enqueue_4 ?_
  refine Zw_ialdnv (x) (s.1 x) dX4_enqueue_5 (by first | decide | assumption | omega) (by first | rfl | assumption) rfl (by omega) (by decide) (g1 x hx2) ?_
  refine Zw_iconst (v := (-1)) dX4_enqueue_6 (by decide) ?_
  refine Zw_icmp_ne 49 dX4_enqueue_7 (by decide) (fun c7 => ?_) (fun c7 => ?_)
  · refine Zw_return dX4_enqueue_49 ?_
    exact h μ zOff.rf (by rw [h_enq, if_neg (fun e => c7 e.1)]; exact ⟨g1, g2, g3, g4, g5, g6, g7⟩)
  · refine Zw_aload_0 dX4_enqueue_10 ?_
    refine Zw_getv (nI s.2.1.length) lf_X4_81 dX4_enqueue_11 (by first | decide | assumption | omega) (by first | rfl | assumption) (by rfl) g3 ?_
    refine Zw_aload_0 dX4_enqueue_14 ?_
    refine Zw_getr 47 lf_X4_18 dX4_enqueue_15 (by first | decide | assumption | omega) (by first | rfl | assumption) (by rfl) ?_
    refine Zw_alen dX4_enqueue_18 (by first | decide | assumption | omega) (by first | rfl | assumption) ?_
    refine Zw_nicmp_ge (s.2.1.length) (2048) 49 dX4_enqueue_19 (by decide) rfl rfl (by omega) (by omega) (fun c19 => ?_) (fun c19 => ?_)
    · refine Zw_return dX4_enqueue_49 ?_
      exact h μ zOff.rf (by rw [h_enq, if_neg (fun e => absurd e.2 (by omega))]; exact ⟨g1, g2, g3, g4, g5, g6, g7⟩)
    · refine Zw_aload_0 dX4_enqueue_22 ?_
      refine Zw_getr 46 lf_X4_15 dX4_enqueue_23 (by first | decide | assumption | omega) (by first | rfl | assumption) (by rfl) ?_
      refine Zw_iload_1 dX4_enqueue_26 ?_
      refine Zw_iload_2 dX4_enqueue_27 ?_
      refine Zw_iastn (x) dX4_enqueue_28 (by first | decide | assumption | omega) (by first | rfl | assumption) rfl (by omega) (by decide) ?_
      refine Zw_aload_0 dX4_enqueue_29 ?_
      refine Zw_getr 47 lf_X4_18 dX4_enqueue_30 (by first | decide | assumption | omega) (by first | rfl | assumption) (by rfl) ?_
      refine Zw_aload_0 dX4_enqueue_33 ?_
      refine Zw_getv (nI s.2.1.length) lf_X4_81 dX4_enqueue_34 (by first | decide | assumption | omega) (by first | rfl | assumption) (by rfl) (by simp [zup_at]; exact g3) ?_
      refine Zw_iload_1 dX4_enqueue_37 ?_
      refine Zw_iastn (s.2.1.length) dX4_enqueue_38 (by first | decide | assumption | omega) (by first | rfl | assumption) rfl (by omega) (by decide) ?_
      refine Zw_aload_0 dX4_enqueue_39 ?_
      refine Zw_dup dX4_enqueue_40 rfl ?_
      refine Zw_getv (nI s.2.1.length) lf_X4_81 dX4_enqueue_41 (by first | decide | assumption | omega) (by first | rfl | assumption) (by rfl) (by simp [zup_at]; exact g3) ?_
      refine Zw_iconst (v := 1) dX4_enqueue_44 (by decide) ?_
      refine Zw_nadd (s.2.1.length) (1) dX4_enqueue_45 rfl rfl ?_
      refine Zw_put lp_X4_81 dX4_enqueue_46 (by first | decide | assumption | omega) (by first | rfl | assumption) (by rfl) (by first | rfl | assumption) (by first | rfl | assumption) ?_
      refine Zw_return dX4_enqueue_49 ?_
      refine h _ (((zOff.rf.up (by simp)).up (by simp)).up (by simp)) ?_
      rw [h_enq, if_pos ⟨c7, c19⟩]
      refine ⟨fun y hy => ?_, fun i hi => ?_, ?_, ?_, ?_, ?_, fun y hy => ?_⟩
      · simp only [zup_at, upd]
        by_cases ey : y = x
        · simp [ey]
        · simp [ey, g1 y hy]
      · simp only [List.length_append, List.length_cons, List.length_nil] at hi
        rw [getD_app (by omega)]
        simp only [zup_at]
        by_cases ei : i = s.2.1.length
        · simp [ei]
        · simp [ei, g2 i (by omega)]
      · simp [zup_at]
      · simp [zup_at, g4]
      · simp [zup_at, g5]
      · simp only [List.length_append, List.length_cons, List.length_nil]; omega
      · rcases List.mem_append.mp hy with hy | hy
        · exact g7 y hy
        · simp at hy; subst hy; exact hx2
def h_left (a e p : Nat) : Nat := if e / 2 ^ p % 2 = 1 then (if a / 2 ^ p % 2 = 1 then a - 2 ^ p else a) else a
theorem h_and1 : ∀ p, p < 8 → ∀ e, e < 256 → (nI e &&& (1 <<< (nI p &&& 31))) = if e / 2 ^ p % 2 = 1 then (1 : Int32) <<< (nI p &&& 31) else 0 := by decide +kernel
theorem h_and2 : ∀ p, p < 8 → ∀ a, a < 256 → (nI a &&& (((1 : Int32) <<< (nI p &&& 31)) ^^^ (-1))) = nI (if a / 2 ^ p % 2 = 1 then a - 2 ^ p else a) := by decide +kernel
theorem h_and3 : ∀ a, a < 256 → (nI a &&& ((0 : Int32) ^^^ (-1))) = nI a := by decide +kernel
theorem h_left_eq {a e p : Nat} (ha : a < 256) (he : e < 256) (hp : p < 8) : (nI a &&& ((nI e &&& (1 <<< (nI p &&& 31))) ^^^ (-1))) = nI (h_left a e p) := by
  rw [h_and1 p hp e he, h_left]
  by_cases h : e / 2 ^ p % 2 = 1
  · rw [if_pos h, if_pos h]; exact h_and2 p hp a ha
  · rw [if_neg h, if_neg h]; exact h_and3 a ha
theorem h_left_lt {a e p : Nat} (ha : a < 256) : h_left a e p < 256 := by
  unfold h_left
  split
  · split
    · exact Nat.lt_of_le_of_lt (Nat.sub_le _ _) ha
    · exact ha
  · exact ha
def x_wy (ln : Nat → Int32) (a p : Nat) : Bool := q_has (ln a ||| q_bit a) p
def x_nx (sp : Nat → Nat) (e S p : Nat) : Nat := h_left (sp S) e p
def x_sp (μ : zMu) (sp : Nat → Nat) : Prop := ∀ S, S < 256 → μ 45 S = nI (sp S) ∧ sp S < 256
set_option maxRecDepth 20000 in
theorem l_exp {Q : zQ} {μ0 : zMu} {τ : Int64} {x e : Nat} {sp : Nat → Nat} {R : h_S} (hs : x_sp μ0 sp) (he : e < 256) (h : ∀ μ2, zOff [44, 46, 47] μ0 μ2 → x_h μ2 e R → Q none μ2 τ) : ∀ m i s μ, 8 - i < m → i ≤ 8 → zOff [44, 46, 47] μ0 μ → x_h μ e s → h_exp (x_wy (μ0 2)) (x_nx sp e) x (8 - i) i s = R → Zw 1 RX4 cX4_goOnFrom 7 none Q 35 [.ref 44, .int (nI x), .int (nI (x / 256)), .int (μ0 2 (x / 256) ||| q_bit (x / 256)), .int (nI (sp (x % 256))), .int (nI i), .null] [] μ τ
  | 0, i, _, _, hm, _, _, _, _ => absurd hm (by omega)
  | m + 1, i, s, μ, hm, hi, hO, hx, hV => by
    have hsx := hs (x % 256) (Nat.mod_lt _ (by omega))
    have hll := h_left_lt (a := sp (x % 256)) (e := e) (p := i) hsx.2
    refine Zw_iload_5 dX4_goOnFrom_35 ?_
    refine Zw_bipush (v := 8) dX4_goOnFrom_37 (by decide) ?_
    refine Zw_nicmp_ge (i) (8) 110 dX4_goOnFrom_39 (by decide) rfl rfl (by omega) (by omega) (fun c39 => ?_) (fun c39 => ?_)
    · refine Zw_return dX4_goOnFrom_110 ?_
      rw [show 8 - i = 0 by omega] at hV
      change s = R at hV
      subst hV
      exact h μ hO hx
    · refine Zw_aload_0 dX4_goOnFrom_42 ?_
      refine Zw_geti lf_X4_69 dX4_goOnFrom_43 (by first | decide | assumption | omega) (by first | rfl | assumption) (by rfl) ?_
      refine Zw_iconst (v := (-1)) dX4_goOnFrom_46 (by decide) ?_
      refine Zw_icmp_ne 110 dX4_goOnFrom_47 (by decide) (fun c47 => ?_) (fun c47 => ?_)
      · refine Zw_return dX4_goOnFrom_110 ?_
        rw [h_exp_g _ _ _ _ _ _ (fun e2 => c47 (hx.2.2.2.1.trans e2))] at hV
        subst hV
        exact h μ hO hx
      · refine Zw_iload_3 dX4_goOnFrom_50 ?_
        refine Zw_iload_5 dX4_goOnFrom_51 ?_
        refine Zw_ishr dX4_goOnFrom_53 ?_
        refine Zw_iconst (v := 1) dX4_goOnFrom_54 (by decide) ?_
        refine Zw_iand dX4_goOnFrom_55 ?_
        refine Zw_if_eq 104 dX4_goOnFrom_56 (by decide) (fun c56 => ?_) (fun c56 => ?_)
        · refine Zw_iinc_5 dX4_goOnFrom_104 rfl (zincn _) ?_
          refine Zw_goto 35 dX4_goOnFrom_107 (by decide) ?_
          refine Zw_drop (L' := [.ref 44, .int (nI x), .int (nI (x / 256)), .int (μ0 2 (x / 256) ||| q_bit (x / 256)), .int (nI (sp (x % 256))), .int (nI (i + 1)), .null]) ⟨Or.inr rfl, Or.inr rfl, Or.inr rfl, Or.inr rfl, Or.inr rfl, Or.inr rfl, Or.inl rfl, trivial⟩ (Nat.le_of_ble_eq_true rfl) ?_
          rw [show 8 - i = (8 - (i + 1)) + 1 by omega, h_exp_s, if_pos (hx.2.2.2.1.symm.trans c47)] at hV
          rw [h_one, if_neg (by simp [x_wy, q_has]; exact c56)] at hV
          exact l_exp hs he h m (i + 1) _ _ (by omega) (by omega) hO hx hV
        · refine Zw_iload_4 dX4_goOnFrom_59 ?_
          refine Zw_aload_0 dX4_goOnFrom_61 ?_
          refine Zw_getv (nI e) lf_X4_49 dX4_goOnFrom_62 (by first | decide | assumption | omega) (by first | rfl | assumption) (by rfl) hx.2.2.2.2.1 ?_
          refine Zw_iconst (v := 1) dX4_goOnFrom_65 (by decide) ?_
          refine Zw_iload_5 dX4_goOnFrom_66 ?_
          refine Zw_ishl dX4_goOnFrom_68 ?_
          refine Zw_iand dX4_goOnFrom_69 ?_
          refine Zw_iconst (v := (-1)) dX4_goOnFrom_70 (by decide) ?_
          refine Zw_ixor dX4_goOnFrom_71 ?_
          refine Zw_iand dX4_goOnFrom_72 ?_
          rw [h_left_eq hsx.2 he c39]
          refine Zw_istore_6 dX4_goOnFrom_73 rfl ?_
          refine Zw_aload_0 dX4_goOnFrom_75 ?_
          refine Zw_iload_5 dX4_goOnFrom_76 ?_
          refine Zw_sipush (v := 256) dX4_goOnFrom_78 (by decide) ?_
          refine Zw_nmul (i) (256) dX4_goOnFrom_81 rfl rfl ?_
          refine Zw_iload_6 dX4_goOnFrom_82 ?_
          refine Zw_nadd ((i * 256)) ((h_left (sp (x % 256)) e i)) dX4_goOnFrom_84 rfl rfl ?_
          refine Zw_iload_1 dX4_goOnFrom_85 ?_
          refine Zw_V2 (k := 0) lm_X4_84 dX4_goOnFrom_86 (by decide) (by first | decide | assumption | omega) (by first | rfl | assumption) (by rfl) (Nat.le_of_ble_eq_true rfl) ?_
          refine s_enq hx (by omega) (fun μ1 hO1 hx1 => ?_)
          refine Zw_iload_6 dX4_goOnFrom_89 ?_
          refine Zw_nif_ne ((h_left (sp (x % 256)) e i)) 104 dX4_goOnFrom_91 (by decide) rfl (by omega) (fun c91 => ?_) (fun c91 => ?_)
          · refine Zw_iinc_5 dX4_goOnFrom_104 rfl (zincn _) ?_
            refine Zw_goto 35 dX4_goOnFrom_107 (by decide) ?_
            refine Zw_drop (L' := [.ref 44, .int (nI x), .int (nI (x / 256)), .int (μ0 2 (x / 256) ||| q_bit (x / 256)), .int (nI (sp (x % 256))), .int (nI (i + 1)), .null]) ⟨Or.inr rfl, Or.inr rfl, Or.inr rfl, Or.inr rfl, Or.inr rfl, Or.inr rfl, Or.inl rfl, trivial⟩ (Nat.le_of_ble_eq_true rfl) ?_
            rw [show 8 - i = (8 - (i + 1)) + 1 by omega, h_exp_s, if_pos (hx.2.2.2.1.symm.trans c47)] at hV
            rw [h_one, if_pos (by simp [x_wy, q_has]; exact c56)] at hV
            rw [if_neg (by exact c91)] at hV
            exact l_exp hs he h m (i + 1) _ _ (by omega) (by omega) (hO.tr hO1) hx1 hV
          · refine Zw_aload_0 dX4_goOnFrom_94 ?_
            refine Zw_iload_5 dX4_goOnFrom_95 ?_
            refine Zw_sipush (v := 256) dX4_goOnFrom_97 (by decide) ?_
            refine Zw_nmul (i) (256) dX4_goOnFrom_100 rfl rfl ?_
            refine Zw_put lp_X4_69 dX4_goOnFrom_101 (by first | decide | assumption | omega) (by first | rfl | assumption) (by rfl) (by first | rfl | assumption) (by first | rfl | assumption) ?_
            refine Zw_iinc_5 dX4_goOnFrom_104 rfl (zincn _) ?_
            refine Zw_goto 35 dX4_goOnFrom_107 (by decide) ?_
            refine Zw_drop (L' := [.ref 44, .int (nI x), .int (nI (x / 256)), .int (μ0 2 (x / 256) ||| q_bit (x / 256)), .int (nI (sp (x % 256))), .int (nI (i + 1)), .null]) ⟨Or.inr rfl, Or.inr rfl, Or.inr rfl, Or.inr rfl, Or.inr rfl, Or.inr rfl, Or.inl rfl, trivial⟩ (Nat.le_of_ble_eq_true rfl) ?_
            rw [show 8 - i = (8 - (i + 1)) + 1 by omega, h_exp_s, if_pos (hx.2.2.2.1.symm.trans c47)] at hV
            rw [h_one, if_pos (by simp [x_wy, q_has]; exact c56)] at hV
            rw [if_pos (by exact c91)] at hV
            refine l_exp hs he h m (i + 1) _ _ (by omega) (by omega) ((hO.tr hO1).up (by simp)) ?_ hV
            obtain ⟨g1, g2, g3, g4, g5, g6, g7⟩ := hx1
            exact ⟨fun y hy => by simp [zup_at]; exact g1 y hy, fun j hj => by simp [zup_at]; exact g2 j hj, by simp [zup_at]; exact g3, by simp [zup_at], by simp [zup_at]; exact g5, g6, g7⟩
set_option maxRecDepth 20000 in
theorem s_exp {x e : Nat} {sp : Nat → Nat} {s R : h_S} {Q : zQ} {μ : zMu} {τ : Int64} (hs : x_sp μ sp) (he : e < 256) (hx : x_h μ e s) (hx2 : x < 2048) (hV : h_exp (x_wy (μ 2)) (x_nx sp e) x 8 0 s = R) (h : ∀ μ2, zOff [44, 46, 47] μ μ2 → x_h μ2 e R → Q none μ2 τ) : Zc 1 yX4_goOnFrom cX4_goOnFrom 7 none [.ref 44, .int (nI x)] μ τ Q := by
  refine Zc.mk 5 [.ref 44, .int (nI x), .null, .null, .null, .null, .null] rfl (by decide) (Nat.le_of_ble_eq_true rfl) ?_
  refine Zw_iload_1 dX4_goOnFrom_0 ?_
  refine Zw_sipush (v := 256) dX4_goOnFrom_1 (by decide) ?_
  refine Zw_ndiv (x) (256) dX4_goOnFrom_4 rfl rfl (by omega) (by omega) (by omega) ?_
  refine Zw_istore_2 dX4_goOnFrom_5 rfl ?_
  refine Zw_aload_0 dX4_goOnFrom_6 ?_
  refine Zw_getr 1 lf_X4_21 dX4_goOnFrom_7 (by first | decide | assumption | omega) (by first | rfl | assumption) (by rfl) ?_
  refine Zw_getr 2 lf_X4_91 dX4_goOnFrom_10 (by first | decide | assumption | omega) (by first | rfl | assumption) (by rfl) ?_
  refine Zw_iload_2 dX4_goOnFrom_13 ?_
  refine Zw_ialdn ((x / 256)) dX4_goOnFrom_14 (by first | decide | assumption | omega) (by first | rfl | assumption) rfl (by omega) (by decide) ?_
  refine Zw_iconst (v := 1) dX4_goOnFrom_15 (by decide) ?_
  refine Zw_iload_2 dX4_goOnFrom_16 ?_
  refine Zw_ishl dX4_goOnFrom_17 ?_
  refine Zw_ior dX4_goOnFrom_18 ?_
  refine Zw_istore_3 dX4_goOnFrom_19 rfl ?_
  refine Zw_aload_0 dX4_goOnFrom_20 ?_
  refine Zw_getr 45 lf_X4_9 dX4_goOnFrom_21 (by first | decide | assumption | omega) (by first | rfl | assumption) (by rfl) ?_
  refine Zw_iload_1 dX4_goOnFrom_24 ?_
  refine Zw_sipush (v := 256) dX4_goOnFrom_25 (by decide) ?_
  refine Zw_nrem (x) (256) dX4_goOnFrom_28 rfl rfl (by omega) (by omega) (by omega) ?_
  refine Zw_ialdnv ((x % 256)) (nI (sp (x % 256))) dX4_goOnFrom_29 (by first | decide | assumption | omega) (by first | rfl | assumption) rfl (by omega) (by decide) (hs (x % 256) (Nat.mod_lt _ (by omega))).1 ?_
  refine Zw_istore_4 dX4_goOnFrom_30 rfl ?_
  refine Zw_iconst (v := 0) dX4_goOnFrom_32 (by decide) ?_
  refine Zw_istore_5 dX4_goOnFrom_33 rfl ?_
  exact l_exp hs he h 9 0 s μ (by omega) (by omega) zOff.rf hx hV
