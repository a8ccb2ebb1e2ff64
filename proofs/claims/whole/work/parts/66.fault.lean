/-! fault -/
def gdN (c : Nat) (o : Nat → Nat) : Nat → Nat → Prop
  | 0, p => c ≤ p
  | m + 1, p => c ≤ p ∨ (¬ eO c o p = 0 ∧ gdN c o m (eO c o p))
theorem gdN_end {c : Nat} {o : Nat → Nat} (m : Nat) {p : Nat} (h : c ≤ p) : gdN c o m p := by
  cases m with
  | zero => exact h
  | succ m => exact Or.inl h
theorem faultJ {c : Nat} {o : Nat → Nat} {XO : DM} (hO : OC c o XO) {n : Nat} (hn : 1400 ≤ n) : ∀ (m p q : Nat) (M : DM), OM c o M → M 6 0 = nI p → p ≤ c → q ≤ p → c - p ≤ m → ∀ fu fm, m < fu → m < fm → ∃ M' : DM, ((fX1_firstFault_L4 n XO fu (nI p) (nI q) = some (-1) ∧ fX6_fault_L5 n fm M = some (-4, M') ∧ gdN c o m p) ∨ (∃ s, s < c ∧ fX1_firstFault_L4 n XO fu (nI p) (nI q) = some (nI s) ∧ fX6_fault_L5 n fm M = some (nI s, M'))) ∧ ∀ r, r ≠ 6 → r ≠ 7 → r ≠ 8 → M' r = M r := by
  have hc := hO.1
  intro m
  induction m with
  | zero =>
    intro p q M hM h6 hp hq hm fu fm hfu hfm
    obtain ⟨fu, rfl⟩ : ∃ z, fu = z + 1 := ⟨fu - 1, by omega⟩
    obtain ⟨fm, rfl⟩ : ∃ z, fm = z + 1 := ⟨fm - 1, by omega⟩
    unfold fX1_firstFault_L4 fX6_fault_L5
    rw [hO.2.1, hM.2.1, h6, if_pos (show nI c ≤ nI p from nI_le (by omega) (by omega)), if_pos (show nI c ≤ nI p from nI_le (by omega) (by omega)), ite_self]
    exact ⟨M, Or.inl ⟨rfl, rfl, show c ≤ p by omega⟩, fun r _ _ _ => rfl⟩
  | succ m ih =>
    intro p q M hM h6 hp hq hm fu fm hfu hfm
    obtain ⟨fu, rfl⟩ : ∃ z, fu = z + 1 := ⟨fu - 1, by omega⟩
    obtain ⟨fm, rfl⟩ : ∃ z, fm = z + 1 := ⟨fm - 1, by omega⟩
    by_cases e : c ≤ p
    · unfold fX1_firstFault_L4 fX6_fault_L5
      rw [hO.2.1, hM.2.1, h6, if_pos (show nI c ≤ nI p from nI_le (by omega) (by omega)), if_pos (show nI c ≤ nI p from nI_le (by omega) (by omega)), ite_self]
      exact ⟨M, Or.inl ⟨rfl, rfl, Or.inl e⟩, fun r _ _ _ => rfl⟩
    · obtain ⟨M1, k1, k2, k3⟩ := m_order hn hM (show p < c by omega) h6
      unfold fX1_firstFault_L4 fX6_fault_L5
      rw [hO.2.1, hM.2.1, h6, if_neg (fun z => absurd ((le_l1 (k := 60) (a := q) (by omega) (by omega)).mp z) (by omega)), if_neg (show ¬ nI c ≤ nI p from nI_ge (by omega) (by omega)), if_neg (show ¬ nI c ≤ nI p from nI_ge (by omega) (by omega)), c_end hO hn (by omega), bnd_s, k1, bnd_s]
      try dsimp only
      by_cases f : eO c o p = 0
      · rw [if_pos f, if_pos f, if_pos rfl, if_pos rfl]
        exact ⟨M1, Or.inr ⟨p, by omega, rfl, rfl⟩, k3⟩
      · obtain ⟨g1, g2⟩ := eO_gt f
        rw [if_neg f, if_neg f, if_neg (nI_ne_m1 (by omega)), if_neg (show ¬ (1 : Int32) = 0 from by decide), sl_s, nI_1]
        obtain ⟨M', a1, a2⟩ := ih (eO c o p) (q + 1) M1 (hM.rows (k3 4 (by decide) (by decide) (by decide)) (k3 5 (by decide) (by decide) (by decide))) (k2 f).1 g2 (by omega) (by omega) fu fm (by omega) (by omega)
        refine ⟨M', ?_, fun r r1 r2 r3 => by rw [a2 r r1 r2 r3, k3 r r1 r2 r3]⟩
        rcases a1 with ⟨b1, b2, b3⟩ | b
        · exact Or.inl ⟨b1, b2, Or.inr ⟨f, b3⟩⟩
        · exact Or.inr b
theorem RO.un {XO XM : DM} (h : RO XO XM) : ∃ c o, OC c o XO ∧ OM c o XM := by
  obtain ⟨c, o, o1, o2, o3, o4⟩ := h
  exact ⟨c, o, ⟨o1, o2, fun i hi => ⟨(o4 i hi).1, (o4 i hi).2.2.1, (o4 i hi).2.2.2⟩⟩, ⟨o1, o3, fun i hi => ⟨(o4 i hi).2.1, (o4 i hi).2.2.1, (o4 i hi).2.2.2⟩⟩⟩
theorem INV.keep {XF XN XA XW XP XQ XO XM M' : DM} {XH : HD} (h : INV XF XN XA XW XP XQ XO XH XM) (e : ∀ r, r ≠ 6 → r ≠ 7 → r ≠ 8 → M' r = XM r) : INV XF XN XA XW XP XQ XO XH M' := by
  obtain ⟨⟨T, L, hR, hW, hM⟩, hO, hH⟩ := h
  exact ⟨⟨T, L, by rw [e 0 (by decide) (by decide) (by decide)]; exact hR, hW, hM.rows (fun r hr => e r (by omega) (by omega) (by omega))⟩, hO.rows (e 4 (by decide) (by decide) (by decide)) (e 5 (by decide) (by decide) (by decide)), hH.rows (e 1 (by decide) (by decide) (by decide)) (e 2 (by decide) (by decide) (by decide))⟩
/-- what looking for a fault comes to -/
theorem faultB {XO XM : DM} (hO : RO XO XM) {n : Nat} (hn : 1400 ≤ n) : ∃ (c : Nat) (o : Nat → Nat) (M' : DM), OC c o XO ∧ OM c o M' ∧ ((fX1_firstFault n XO = some (-1) ∧ fX6_fault n XM = some (-4, M') ∧ gdN c o c 0) ∨ (∃ s, s < c ∧ fX1_firstFault n XO = some (nI s) ∧ fX6_fault n XM = some (nI s, M'))) ∧ ∀ r, r ≠ 6 → r ≠ 7 → r ≠ 8 → M' r = XM r := by
  obtain ⟨c, o, hC, hM⟩ := hO.un
  have hc := hC.1
  obtain ⟨M', a1, a2⟩ := faultJ hC hn c 0 0 (va_up XM 6 (fun _ => 0)) (hM.rows (up_ne _ _ (by decide)) (up_ne _ _ (by decide))) (by rw [up_eq]; rfl) (by omega) (by omega) (by omega) n n (by omega) (by omega)
  have a3 : ∀ r, r ≠ 6 → r ≠ 7 → r ≠ 8 → M' r = XM r := fun r r1 r2 r3 => by rw [a2 r r1 r2 r3, up_ne _ _ r1]
  exact ⟨c, o, M', hC, hM.rows (a3 4 (by decide) (by decide) (by decide)) (a3 5 (by decide) (by decide) (by decide)), a1, a3⟩
theorem ok_fault {n : Nat} (hn : 1400 ≤ n) : OK_fault n INV := by
  intro XF XN XA XW XP XQ XO XH XM hI
  have hI' := hI
  obtain ⟨-, hO, -⟩ := hI
  obtain ⟨c, o, M', hC, hM, a1, a2⟩ := faultB hO hn
  have hc := hC.1
  unfold fX5_fault
  rcases a1 with ⟨b1, b2, -⟩ | ⟨s, s1, b1, b2⟩
  · rw [b1, bnd_s, if_pos rfl]
    exact ⟨-4, M', rfl, b2, hI'.keep a2⟩
  · rw [b1, bnd_s, if_neg (nI_ne_m1 (by omega))]
    exact ⟨nI s, M', rfl, b2, hI'.keep a2⟩
