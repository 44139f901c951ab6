def yBy : List Int32 := [103, 111, 101, 115, 32, 49, 32, 59, 32, 115, 116, 97, 121, 115, 32, 48, 32, 59, 32, 115, 101, 101, 115, 32, 49, 32, 59, 32, 32, 32, 32, 32]
def yCd : List Int32 := [1, 0, 1]
theorem y_b0 : ∀ i, i < 32 → yμ 0 (fun _ => 0) 62 (160 * 0 + i) = yBy.getD i 0 := by decide +kernel
theorem y_b1 {n : Nat} {xs : Nat → Int32} : ∀ i, i < 32 → m_b (yμ n xs) 0 i = yBy.getD i 0 := y_b0
theorem y_b2 : y_r0 (fun i => yBy.getD i 0) 32 = .inr ([1], [0, 1], [1, 0, 1]) := by decide +kernel
theorem y_b3 : ∀ i, i < 32 → (yBy.getD i 0 = nI (yBy.getD i 0).toNatClampNeg ∧ (yBy.getD i 0).toNatClampNeg < 256) := by decide +kernel
theorem y_pT {n : Nat} {xs : Nat → Int32} : pT (yμ n xs) 0 := by
  refine ⟨32, [1], [0, 1], [1, 0, 1], by decide, (show yμ 0 (fun _ => 0) 63 0 = nI 32 by decide +kernel), fun i hi => ?_, ?_, ⟨(show yμ 0 (fun _ => 0) 23 0 = nI 0 by decide +kernel), (show yμ 0 (fun _ => 0) 23 1 = nI 1 by decide +kernel), (show yμ 0 (fun _ => 0) 23 2 = nI 2 by decide +kernel), (show yμ 0 (fun _ => 0) 23 3 = nI 3 by decide +kernel), (show yμ 0 (fun _ => 0) 21 2 = nI 3 by decide +kernel), (show yμ 0 (fun _ => 0) 21 3 = y_wk [1, 0, 1] by decide +kernel)⟩, ?_, by decide⟩
  · rw [y_b1 i hi]
    obtain ⟨h1, h2⟩ := y_b3 i hi
    exact ⟨_, h2, h1⟩
  · rw [y_r0_cg y_b1]
    exact y_b2
  · exact ⟨(show yμ 0 (fun _ => 0) 22 2 = 1 by decide +kernel), (show yμ 0 (fun _ => 0) 22 1 = 0 by decide +kernel), (show yμ 0 (fun _ => 0) 22 0 = 1 by decide +kernel), trivial⟩
theorem y_z0 : ∀ p, p < 8 → ∀ q, q < 8 → q_has 0 q = q_has 0 p := by decide +kernel
theorem y_first {n : Nat} {xs : Nat → Int32} : pR (yμ n xs) := by
  refine ⟨1, 0, 0, 0, 0, 255, 0, ⟨(show yμ 0 (fun _ => 0) 17 3 = nI 1 by decide +kernel), (show yμ 0 (fun _ => 0) 61 3 = nI 1 by decide +kernel), by decide, by decide, fun t ht => ?_⟩, ⟨(show yμ 0 (fun _ => 0) 1 7 = nI 0 by decide +kernel), (show yμ 0 (fun _ => 0) 61 4 = nI 0 by decide +kernel), by decide⟩, ⟨by decide, (show yμ 0 (fun _ => 0) 1 2 = nI 0 by decide +kernel), (show yμ 0 (fun _ => 0) 61 11 = nI 0 by decide +kernel), fun f hf => absurd hf (by omega)⟩, ⟨⟨(show yμ 0 (fun _ => 0) 1 3 = nI 0 by decide +kernel), by decide, (show yμ 0 (fun _ => 0) 65 0 = nI 0 by decide +kernel)⟩, (show yμ 0 (fun _ => 0) 65 1 = yμ 0 (fun _ => 0) 1 4 by decide +kernel), ⟨(show yμ 0 (fun _ => 0) 1 5 = nI 0 by decide +kernel), by decide, (show yμ 0 (fun _ => 0) 65 2 = nI 0 by decide +kernel)⟩, ⟨(show yμ 0 (fun _ => 0) 1 6 = nI 255 by decide +kernel), by decide, (show yμ 0 (fun _ => 0) 65 3 = nI 255 by decide +kernel)⟩⟩, ⟨fun q hq => ⟨⟨0, by decide, rfl⟩, rfl⟩, fun p q hp hq => y_z0 p hp q hq⟩, ⟨by decide, (show yμ 0 (fun _ => 0) 39 1 = nI 0 by decide +kernel), (show yμ 0 (fun _ => 0) 61 6 = nI 0 by decide +kernel), fun i hi => absurd hi (by omega), fun i hi => absurd hi (by omega)⟩, Or.inl ⟨rfl, rfl⟩, fun i hi => ?_, ?_⟩
  · have : t = 0 := by omega
    subst this
    exact y_pT
  · refine Or.inl ?_
    match i, hi with
    | 0, _ => exact ⟨rfl, rfl, 0, by decide, rfl⟩
    | 1, _ => exact ⟨rfl, rfl, 0, by decide, rfl⟩
    | 2, _ => exact ⟨rfl, rfl, 0, by decide, rfl⟩
    | 3, _ => exact ⟨rfl, rfl, 0, by decide, rfl⟩
    | i + 4, hi => exact absurd hi (by omega)
  · exact ⟨49, 50, by unfold x_ab; decide, rfl, rfl⟩
