/-! noted -/
theorem c_nf_L (n : Nat) {S : DM} {nt : Nat → Nat} (hf : ∀ i, i < 150 → S 5 i = nI (nt i) ∧ nt i ≤ 99) : ∀ (k i : Nat), i + k = 150 → ∀ fu, k < fu → fX3_notedFrom_L2 n S fu (nI i) = some (if fst (fun j => decide (nt j ≠ 0)) k i < 150 then nI (fst (fun j => decide (nt j ≠ 0)) k i) else -4) := by
  intro k
  induction k with
  | zero =>
    intro i hi fu hfu
    obtain ⟨fu, rfl⟩ : ∃ z, fu = z + 1 := ⟨fu - 1, by omega⟩
    unfold fX3_notedFrom_L2 fst
    rw [if_pos ((le_l1 (k := 150) (a := i) (by omega) (by omega)).mpr (by omega)), if_neg (by omega)]
  | succ k ih =>
    intro i hi fu hfu
    obtain ⟨fu, rfl⟩ : ∃ z, fu = z + 1 := ⟨fu - 1, by omega⟩
    obtain ⟨h1, h2⟩ := hf i (by omega)
    unfold fX3_notedFrom_L2 fst
    rw [if_neg (fun e => absurd ((le_l1 (k := 150) (a := i) (by omega) (by omega)).mp e) (by omega)), at_in _ (by omega) (by omega), bnd_s, h1]
    by_cases c : nt i = 0
    · rw [if_pos (show nI (nt i) = 0 from by rw [c]; rfl), sl_s, nI_1, if_neg (show ¬ decide (nt i ≠ 0) = true from by simp [c])]
      exact ih (i + 1) (by omega) fu (by omega)
    · rw [if_neg (show ¬ nI (nt i) = 0 from nI_ne0 (by omega) (by omega)), if_pos (show decide (nt i ≠ 0) = true from by simp [c]), if_pos (by omega)]
/-- the least place from A on among the first a, so far -/
def RF (A : Nat) (pos : Nat → Nat) (a : Nat) (b : Int32) : Prop := (b = -4 ∧ ∀ z, z < a → pos z < A) ∨ ∃ z0, z0 < a ∧ b = nI (pos z0) ∧ A ≤ pos z0 ∧ ∀ z, z < a → A ≤ pos z → pos z0 ≤ pos z
theorem m_nf_L {m : Nat} (hm : m ≤ 10) {pos : Nat → Nat} {XM : DM} (h0 : XM 0 309 = nI m) (hp : ∀ a, a < m → pos a < 150 ∧ XM 0 (310 + a) = nI (pos a)) (n : Nat) {A : Nat} (hA : A < 2 ^ 31) : ∀ (k a : Nat) (b : Int32), a + k = m → RF A pos a b → ∀ fu, k < fu → ∃ b' : Int32, fX6_noted_L21 n XM fu (nI A) 0 b (nI a) = some b' ∧ RF A pos m b' := by
  intro k
  induction k with
  | zero =>
    intro a b ha h fu hfu
    obtain ⟨fu, rfl⟩ : ∃ z, fu = z + 1 := ⟨fu - 1, by omega⟩
    unfold fX6_noted_L21
    rw [rd_l (k := 309) _ (by omega) (by omega), bnd_s, h0, if_pos (nI_le (by omega) (by omega))]
    rw [show m = a by omega]
    exact ⟨b, rfl, h⟩
  | succ k ih =>
    intro a b ha h fu hfu
    obtain ⟨fu, rfl⟩ : ∃ z, fu = z + 1 := ⟨fu - 1, by omega⟩
    obtain ⟨p1, p2⟩ := hp a (by omega)
    unfold fX6_noted_L21
    rw [rd_l (k := 309) _ (by omega) (by omega), bnd_s, h0, if_neg (nI_ge (by omega) (by omega)), lit_n 310, nI_add, rd_in _ (by omega) (by omega), bnd_s, p2]
    simp only [sl_s, nI_1, if_true, show ((1 : Int32) = 0) = False from eq_false (by decide), if_false]
    by_cases c1 : pos a < A
    · rw [if_pos (nI_lt c1 hA)]
      refine ih (a + 1) b (by omega) ?_ fu (by omega)
      rcases h with ⟨h1, h2⟩ | ⟨z0, h1, h2, h3, h4⟩
      · exact Or.inl ⟨h1, fun z hz => by by_cases e : z = a; (· rw [e]; exact c1); (· exact h2 z (by omega))⟩
      · exact Or.inr ⟨z0, by omega, h2, h3, fun z hz hz2 => by by_cases e : z = a; (· rw [e] at hz2; omega); (· exact h4 z (by omega) hz2)⟩
    · rw [if_neg (nI_nlt (by omega) (by omega))]
      rcases h with ⟨h1, h2⟩ | ⟨z0, h1, h2, h3, h4⟩
      · rw [if_pos (show b < 0 from by rw [h1]; decide)]
        refine ih (a + 1) (nI (pos a)) (by omega) (Or.inr ⟨a, by omega, rfl, by omega, fun z hz hz2 => ?_⟩) fu (by omega)
        by_cases e : z = a
        · rw [e]; exact Nat.le_refl _
        · have := h2 z (by omega); omega
      · have pz := (hp z0 (by omega)).1
        rw [if_neg (show ¬ b < 0 from by rw [h2]; exact nI_pos (by omega))]
        by_cases c2 : pos z0 ≤ pos a
        · rw [if_pos (show b ≤ nI (pos a) from by rw [h2]; exact nI_le c2 (by omega))]
          refine ih (a + 1) b (by omega) (Or.inr ⟨z0, by omega, h2, h3, fun z hz hz2 => ?_⟩) fu (by omega)
          by_cases e : z = a
          · rw [e]; exact c2
          · exact h4 z (by omega) hz2
        · rw [if_neg (show ¬ b ≤ nI (pos a) from by rw [h2]; exact nI_ge (by omega) (by omega))]
          refine ih (a + 1) (nI (pos a)) (by omega) (Or.inr ⟨a, by omega, rfl, by omega, fun z hz hz2 => ?_⟩) fu (by omega)
          by_cases e : z = a
          · rw [e]; exact Nat.le_refl _
          · have := h4 z (by omega) hz2; omega
