/-! noted, backwards -/
def lsb (nt : Nat → Nat) : Nat → Int32
  | 0 => -4
  | i + 1 => if nt i = 0 then lsb nt i else nI i
theorem lsb_spec (nt : Nat → Nat) : ∀ i, (lsb nt i = -4 ∧ ∀ j, j < i → nt j = 0) ∨ ∃ j, j < i ∧ lsb nt i = nI j ∧ nt j ≠ 0 ∧ ∀ j', j' < i → nt j' ≠ 0 → j' ≤ j := by
  intro i
  induction i with
  | zero => exact Or.inl ⟨rfl, fun j hj => absurd hj (Nat.not_lt_zero _)⟩
  | succ i ih =>
    by_cases c : nt i = 0
    · have e : lsb nt (i + 1) = lsb nt i := if_pos c
      rw [e]
      rcases ih with ⟨h1, h2⟩ | ⟨j, h1, h2, h3, h4⟩
      · refine Or.inl ⟨h1, fun j hj => ?_⟩
        by_cases z : j = i
        · rw [z]; exact c
        · exact h2 j (by omega)
      · refine Or.inr ⟨j, by omega, h2, h3, fun j' hj' hn => ?_⟩
        by_cases z : j' = i
        · rw [z] at hn; exact absurd c hn
        · exact h4 j' (by omega) hn
    · have e : lsb nt (i + 1) = nI i := if_neg c
      exact Or.inr ⟨i, by omega, e, c, fun j' hj' _ => by omega⟩
theorem c_nb_L (n : Nat) {S : DM} {nt : Nat → Nat} (hf : ∀ i, i < 150 → S 5 i = nI (nt i) ∧ nt i ≤ 99) : ∀ i, i ≤ 150 → ∀ fu, i < fu → fX3_notedBefore_L12 n S fu (nI i - 1) = some (lsb nt i) := by
  intro i
  induction i with
  | zero =>
    intro _ fu hfu
    obtain ⟨fu, rfl⟩ : ∃ z, fu = z + 1 := ⟨fu - 1, by omega⟩
    unfold fX3_notedBefore_L12
    rw [if_pos (show nI 0 - 1 < 0 from by decide)]
    rfl
  | succ i ih =>
    intro hi fu hfu
    obtain ⟨fu, rfl⟩ : ∃ z, fu = z + 1 := ⟨fu - 1, by omega⟩
    obtain ⟨h1, h2⟩ := hf i (by omega)
    unfold fX3_notedBefore_L12
    rw [nI_pred, if_neg (nI_pos (by omega)), at_in _ (by omega) (by omega), bnd_s, h1]
    by_cases c : nt i = 0
    · rw [if_pos (show nI (nt i) = 0 from by rw [c]; rfl), sl_s, show nI i + (-1) = nI i - 1 from (Int32.sub_eq_add_neg _ _).symm, ih (by omega) fu (by omega)]
      rw [show lsb nt (i + 1) = lsb nt i from if_pos c]
    · rw [if_neg (show ¬ nI (nt i) = 0 from nI_ne0 (by omega) (by omega)), show lsb nt (i + 1) = nI i from if_neg c]
def RB (A : Nat) (pos : Nat → Nat) (a : Nat) (b : Int32) : Prop := (b = -4 ∧ ∀ z, z < a → A ≤ pos z) ∨ ∃ z0, z0 < a ∧ b = nI (pos z0) ∧ pos z0 < A ∧ ∀ z, z < a → pos z < A → pos z ≤ pos z0
theorem m_nb_L {m : Nat} (hm : m ≤ 10) {pos : Nat → Nat} {XM : DM} (h0 : XM 0 309 = nI m) (hp : ∀ a, a < m → pos a < 150 ∧ XM 0 (310 + a) = nI (pos a)) (n : Nat) {A : Nat} (hA : A < 2 ^ 31) : ∀ (k a : Nat) (b : Int32), a + k = m → RB A pos a b → ∀ fu, k < fu → ∃ b' : Int32, fX6_noted_L21 n XM fu (nI A) 1 b (nI a) = some b' ∧ RB A pos m b' := by
  intro k
  induction k with
  | zero =>
    intro a b ha h fu hfu
    obtain ⟨fu, rfl⟩ : ∃ z, fu = z + 1 := ⟨fu - 1, by omega⟩
    unfold fX6_noted_L21
    rw [rd_l (k := 309) _ (by omega) (by omega), bnd_s, h0, if_pos (nI_le (by omega) (by omega))]
    rw [show m = a by omega]
    exact ⟨b, rfl, h⟩
  | succ k ih =>
    intro a b ha h fu hfu
    obtain ⟨fu, rfl⟩ : ∃ z, fu = z + 1 := ⟨fu - 1, by omega⟩
    obtain ⟨p1, p2⟩ := hp a (by omega)
    unfold fX6_noted_L21
    rw [rd_l (k := 309) _ (by omega) (by omega), bnd_s, h0, if_neg (nI_ge (by omega) (by omega)), lit_n 310, nI_add, rd_in _ (by omega) (by omega), bnd_s, p2]
    simp only [sl_s, nI_1, if_true, show ((1 : Int32) = 0) = False from eq_false (by decide), if_false]
    by_cases c1 : A ≤ pos a
    · rw [if_pos (nI_le c1 (by omega))]
      refine ih (a + 1) b (by omega) ?_ fu (by omega)
      rcases h with ⟨h1, h2⟩ | ⟨z0, h1, h2, h3, h4⟩
      · exact Or.inl ⟨h1, fun z hz => by by_cases e : z = a; (· rw [e]; exact c1); (· exact h2 z (by omega))⟩
      · exact Or.inr ⟨z0, by omega, h2, h3, fun z hz hz2 => by by_cases e : z = a; (· rw [e] at hz2; omega); (· exact h4 z (by omega) hz2)⟩
    · rw [if_neg (nI_ge (by omega) hA)]
      rcases h with ⟨h1, h2⟩ | ⟨z0, h1, h2, h3, h4⟩
      · have lt : b < nI (pos a) := by
          rw [h1]
          exact Int32.lt_of_lt_of_le (show (-4 : Int32) < 0 by decide) (i_le.mpr (nI_pos (by omega)))
        rw [if_neg (show ¬ nI (pos a) ≤ b from fun e => by rw [i_le] at e; exact e lt)]
        refine ih (a + 1) (nI (pos a)) (by omega) (Or.inr ⟨a, by omega, rfl, by omega, fun z hz hz2 => ?_⟩) fu (by omega)
        by_cases e : z = a
        · rw [e]; exact Nat.le_refl _
        · have := h2 z (by omega); omega
      · have pz := (hp z0 (by omega)).1
        by_cases c2 : pos a ≤ pos z0
        · rw [if_pos (show nI (pos a) ≤ b from by rw [h2]; exact nI_le c2 (by omega))]
          refine ih (a + 1) b (by omega) (Or.inr ⟨z0, by omega, h2, h3, fun z hz hz2 => ?_⟩) fu (by omega)
          by_cases e : z = a
          · rw [e]; exact c2
          · exact h4 z (by omega) hz2
        · rw [if_neg (show ¬ nI (pos a) ≤ b from by rw [h2]; exact nI_ge (by omega) (by omega))]
          refine ih (a + 1) (nI (pos a)) (by omega) (Or.inr ⟨a, by omega, rfl, by omega, fun z hz hz2 => ?_⟩) fu (by omega)
          by_cases e : z = a
          · rw [e]; exact Nat.le_refl _
          · have := h4 z (by omega) hz2; omega
theorem ok_noted {n : Nat} (hn : 1400 ≤ n) : OK_noted n INV := by
  intro XF XN XA XW XP XQ XO XH XM a0 a1 hI
  have hI' := hI
  obtain ⟨⟨T, L, hR, hW, hM⟩, hO, hH⟩ := hI
  obtain ⟨h1, h2, h3, h4, -, -, ⟨nt, m, pos, n1, n2, n3, n4, n5, n6⟩, h13, h14⟩ := hR
  have hv := wsOf_VS (T := T) h1
  have hk := hv.1
  have hp : ∀ a, a < m → pos a < 150 ∧ XM 0 (310 + a) = nI (pos a) := fun a ha => ⟨by have := (n3 a ha).1; omega, (n3 a ha).2.2.2.1⟩
  unfold fX5_noted fX6_noted
  rw [m_in]
  by_cases c1 : a0 < 0
  · rw [if_pos c1, if_pos c1]
    exact ⟨-1, rfl, rfl, hI'⟩
  rw [if_neg c1, if_neg c1, bnd_s]
  by_cases c2 : a1 < 0
  · rw [if_pos c2, if_pos (Or.inl c2), if_pos rfl]
    exact ⟨-1, rfl, rfl, hI'⟩
  rw [if_neg c2]
  obtain ⟨A, hA, rfl⟩ := nI_of c1
  obtain ⟨b, hb, rfl⟩ := nI_of c2
  by_cases c3 : 1 < nI b
  · rw [if_neg (show ¬ nI b ≤ 1 from fun e => by rw [i_le] at e; exact e c3), if_pos (Or.inr c3), if_pos rfl]
    exact ⟨-1, rfl, rfl, hI'⟩
  rw [if_pos (i_le.mpr c3), if_neg (show ¬ (nI b < 0 ∨ 1 < nI b) from fun q => q.elim c2 c3), if_neg (show ¬ (1 : Int32) = 0 from by decide)]
  have hb1 : b ≤ 1 := by
    by_cases z : b ≤ 1
    · exact z
    · exact absurd ((lt_l1 (k := 1) (a := b) (by decide) hb).mpr (by omega)) c3
  by_cases b0 : b = 0
  · subst b0
    rw [if_pos (show nI 0 = (0 : Int32) from rfl)]
    obtain ⟨r, e1, e2⟩ := m_nf_L n1 n2 hp n hA m 0 (-4) (by omega) (Or.inl ⟨rfl, fun z hz => absurd hz (Nat.not_lt_zero _)⟩) n (by omega)
    refine ⟨r, ?_, e1, hI'⟩
    unfold fX3_notedFrom
    by_cases big : A ≤ 150
    · rw [c_nf_L n n5 (150 - A) A (by omega) n (by omega), bnd_s]
      obtain ⟨f1, f2, f3, f4⟩ := fst_spec (fun j => decide (nt j ≠ 0)) (150 - A) A
      by_cases c : fst (fun j => decide (nt j ≠ 0)) (150 - A) A < 150
      · rw [if_pos c]
        have f3 := f3 (by omega)
        simp only [decide_eq_true_eq] at f3
        obtain ⟨z, z1, z2⟩ := n6 _ c f3
        rcases e2 with ⟨g1, g2⟩ | ⟨z0, g1, g2, g3, g4⟩
        · have := g2 z z1; omega
        · have q1 := g4 z z1 (by omega)
          have q2 : fst (fun j => decide (nt j ≠ 0)) (150 - A) A ≤ pos z0 := by
            by_cases y : fst (fun j => decide (nt j ≠ 0)) (150 - A) A ≤ pos z0
            · exact y
            · have := f4 (pos z0) g3 (by omega)
              simp only [decide_eq_false_iff_not] at this
              exact absurd (n3 z0 g1).2.2.1 this
          rw [g2, show pos z0 = fst (fun j => decide (nt j ≠ 0)) (150 - A) A by omega]
      · rw [if_neg c]
        rcases e2 with ⟨g1, g2⟩ | ⟨z0, g1, g2, g3, g4⟩
        · rw [g1]
        · have := f4 (pos z0) g3 (by have := (hp z0 g1).1; omega)
          simp only [decide_eq_false_iff_not] at this
          exact absurd (n3 z0 g1).2.2.1 this
    · obtain ⟨n, rfl⟩ : ∃ z, n = z + 1 := ⟨n - 1, by omega⟩
      unfold fX3_notedFrom_L2
      rw [if_pos ((le_l1 (k := 150) (a := A) (by omega) hA).mpr (by omega)), bnd_s]
      rcases e2 with ⟨g1, g2⟩ | ⟨z0, g1, g2, g3, g4⟩
      · rw [g1]
      · have := (hp z0 g1).1; omega
  · have b1 : b = 1 := by omega
    subst b1
    rw [if_neg (show ¬ nI 1 = (0 : Int32) from by decide)]
    obtain ⟨r, e1, e2⟩ := m_nb_L n1 n2 hp n hA m 0 (-4) (by omega) (Or.inl ⟨rfl, fun z hz => absurd hz (Nat.not_lt_zero _)⟩) n (by omega)
    refine ⟨r, ?_, e1, hI'⟩
    unfold fX3_notedBefore
    rw [sl_s, sl_s]
    have key : ∀ B : Nat, B ≤ 150 → (B = A ∨ (B = 150 ∧ 150 < A)) → (bnd (fX3_notedBefore_L12 n XN n (nI B - 1)) fun r5 => some r5) = some r := by
      intro B hB hBA
      rw [c_nb_L n n5 B hB n (by omega), bnd_s]
      rcases lsb_spec nt B with ⟨s1, s2⟩ | ⟨j, s1, s2, s3, s4⟩
      · rw [s1]
        rcases e2 with ⟨g1, g2⟩ | ⟨z0, g1, g2, g3, g4⟩
        · rw [g1]
        · have := (hp z0 g1).1
          exact absurd (s2 (pos z0) (by omega)) (n3 z0 g1).2.2.1
      · rw [s2]
        obtain ⟨z, z1, z2⟩ := n6 j (by omega) s3
        rcases e2 with ⟨g1, g2⟩ | ⟨z0, g1, g2, g3, g4⟩
        · have := g2 z z1; omega
        · have q1 := g4 z z1 (by omega)
          have := (hp z0 g1).1
          have q2 := s4 (pos z0) (by omega) (n3 z0 g1).2.2.1
          rw [g2, show pos z0 = j by omega]
    by_cases big : 150 < A
    · rw [if_pos ((lt_l1 (k := 150) (a := A) (by decide) hA).mpr big)]
      exact key 150 (Nat.le_refl _) (Or.inr ⟨rfl, big⟩)
    · rw [if_neg (fun e => big ((lt_l1 (k := 150) (a := A) (by decide) hA).mp e))]
      exact key A (by omega) (Or.inl rfl)
