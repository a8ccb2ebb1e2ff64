/-! the words are read: the class, whole -/
theorem one_add (a : Nat) : (1 : Int32) + nI a = nI (1 + a) := by
  rw [lit_n 1, nI_add]
theorem c_num_L {T : Nat → Int32} {l : List (Nat × Nat)} {XW : DM} (h : HC T l XW) (hl : l.length ≤ 150) (n : Nat) : ∀ (k i : Nat), i + k = l.length → ∀ (XP XQ : DM), PSp i (wsn (wsL T l)) XP → PSp i (wpg (wsL T l)) XQ → ∀ fu, k < fu → ∃ P Q : DM, fX4_number_L18 n XW fu (if i = 0 then 3 else nI (wkd (wsL T l) (i - 1))) (nI i) XP XQ = some (P, Q) ∧ PSp l.length (wsn (wsL T l)) P ∧ PSp l.length (wpg (wsL T l)) Q := by
  intro k
  induction k with
  | zero =>
    intro i hi XP XQ h1 h2 fu hfu
    obtain ⟨fu, rfl⟩ : ∃ z, fu = z + 1 := ⟨fu - 1, by omega⟩
    unfold fX4_number_L18
    rw [h.1, if_pos (nI_le (by omega) (by omega))]
    rw [show i = l.length by omega] at h1 h2
    exact ⟨XP, XQ, rfl, h1, h2⟩
  | succ k ih =>
    intro i hi XP XQ h1 h2 fu hfu
    obtain ⟨fu, rfl⟩ : ∃ z, fu = z + 1 := ⟨fu - 1, by omega⟩
    unfold fX4_number_L18
    rw [h.1, if_neg (nI_ge (by omega) (by omega))]
    simp only [sl_s, nI_1]
    have hkd : wkd (wsL T l) (i - 1) ≤ 3 := kdN_le _ _ _
    have hkd0 : wkd (wsL T l) i ≤ 3 := kdN_le _ _ _
    have go : ∀ (x y : Int32), x = (if i = 0 ∨ (if 1 < wkd (wsL T l) (i - 1) then 1 else 0) = 1 then 1 else 0) → y = (if i = 0 ∨ (if wkd (wsL T l) (i - 1) = 3 then 1 else 0) = 1 then 1 else 0) → ∃ P Q : DM, (bnd (fX2_add XP (nI i) x) fun X6 => bnd (fX2_add XQ (nI i) y) fun X8 => bnd (fX5_at 150 (XW 3) (nI i)) fun r10 => fX4_number_L18 n XW fu r10 (nI (i + 1)) X6 X8) = some (P, Q) ∧ PSp l.length (wsn (wsL T l)) P ∧ PSp l.length (wpg (wsL T l)) Q := by
      intro x y hx hy
      obtain ⟨P1, a1, a2⟩ := span_add (p := fun j => if 1 < wkd (wsL T l) j then 1 else 0) (fun j => by by_cases c : 1 < wkd (wsL T l) j <;> simp [c]) (show i < 150 by omega) h1 hx
      obtain ⟨Q1, b1, b2⟩ := span_add (p := fun j => if wkd (wsL T l) j = 3 then 1 else 0) (fun j => by by_cases c : wkd (wsL T l) j = 3 <;> simp [c]) (show i < 150 by omega) h2 hy
      rw [a1, bnd_s, b1, bnd_s, at_in _ (by omega) (by omega), bnd_s]
      have := ih (i + 1) (by omega) P1 Q1 a2 b2 fu (by omega)
      rw [if_neg (by omega), Nat.add_sub_cancel] at this
      rw [show XW 3 i = nI (wkd (wsL T l) i) from (h.2 i (by omega)).2.2.2.1]
      exact this
    by_cases c0 : i = 0
    · subst c0
      simp only [if_true, show ((3 : Int32) = 2) = False from eq_false (by decide), if_false]
      exact go 1 1 (by rw [if_pos (Or.inl rfl)]) (by rw [if_pos (Or.inl rfl)])
    · rw [if_neg c0]
      by_cases c2 : wkd (wsL T l) (i - 1) = 2
      · simp only [c2, show (nI 2 = (2 : Int32)) = True from eq_true rfl, show (nI 2 = (3 : Int32)) = False from eq_false (by decide), if_true, if_false]
        exact go 1 0 (by rw [c2]; simp) (by rw [c2]; simp [c0])
      · have e2 : ¬ nI (wkd (wsL T l) (i - 1)) = 2 := fun e => c2 ((eq_l (k := 2) (by omega) (by omega)).mp e)
        by_cases c3 : wkd (wsL T l) (i - 1) = 3
        · simp only [c3, show (nI 3 = (2 : Int32)) = False from eq_false (by decide), show (nI 3 = (3 : Int32)) = True from eq_true rfl, if_true, if_false]
          exact go 1 1 (by rw [c3]; simp) (by rw [c3]; simp)
        · have e3 : ¬ nI (wkd (wsL T l) (i - 1)) = 3 := fun e => c3 ((eq_l (k := 3) (by omega) (by omega)).mp e)
          simp only [e2, e3, if_false]
          exact go 0 0 (by rw [if_neg (fun q => q.elim c0 (fun z => by rw [if_neg (by omega)] at z; cases z))]) (by simp [c0, c3])
theorem c_read {fr T : Nat → Int32} {L : Nat} (hL : L ≤ 300) (hf : ∀ i, i < L → fr i = T i) {n : Nat} (hn : 400 ≤ n) (XW XP XQ : DM) : ∃ W P Q : DM, fX4_read n 300 fr XW XP XQ (nI L) = some (W, P, Q) ∧ PW (wsOf T L) W P Q := by
  have hv := (wsOf_VS (T := T) hL).1
  unfold fX4_read
  simp only [sl_s]
  obtain ⟨W, a1, a2⟩ := c_read_L hL hf hn (fun (XW : DM) (XP : DM) (XQ : DM) => bnd (fX4_number n XW XP XQ) fun u6 => some (XW, u6.1, u6.2)) XP XQ (L + 1) 0 0 (by omega) (Nat.le_refl _) [] (va_up XW 8 (fun _ => 0)) ⟨by rw [up_eq]; rfl, fun i hi => by cases hi⟩ hv n (by omega)
  rw [show fX4_read_L10 n 300 fr (fun (XW : DM) (XP : DM) (XQ : DM) => bnd (fX4_number n XW XP XQ) fun u6 => some (XW, u6.1, u6.2)) n (nI L) 0 0 (va_up XW 8 (fun _ => 0)) XP XQ = _ from a1]
  rw [List.nil_append] at a2
  have hl : (scn T L (L + 1) 0 0).length ≤ 150 := hv
  have z0 : ∀ (no : Nat → Nat) (X : DM), PSp 0 no (va_up X 3 (fun _ => 0)) := fun no X => ⟨by rw [up_eq]; rfl, fun i hi => absurd hi (Nat.not_lt_zero _), fun i hi => absurd hi (Nat.not_lt_zero _), fun i hi => absurd hi (Nat.not_lt_zero _)⟩
  obtain ⟨P, Q, b1, b2, b3⟩ := c_num_L a2 hl n (scn T L (L + 1) 0 0).length 0 (by omega) (va_up XP 3 (fun _ => 0)) (va_up XQ 3 (fun _ => 0)) (z0 _ _) (z0 _ _) n (by omega)
  unfold fX4_number fX2_clear
  simp only [sl_s, bnd_s]
  rw [show fX4_number_L18 n W n 3 0 (va_up XP 3 (fun _ => 0)) (va_up XQ 3 (fun _ => 0)) = _ from b1, bnd_s]
  exact ⟨W, P, Q, rfl, a2.1, a2.2, b2, b3⟩
/-! the words are read: the reference -/
theorem kd_last (c : Int32) : (if c = 46 then some 2 else (if c = 33 then some 2 else (if c = 63 then some 2 else (if c = 44 then some 1 else (if c = 59 then some 1 else (if c = 58 then some 1 else some 0)))))) = some (nI (cbN c)) := by
  unfold cbN
  by_cases h1 : c = 46
  · subst h1; rfl
  · by_cases h2 : c = 33
    · subst h2; rfl
    · by_cases h3 : c = 63
      · subst h3; rfl
      · by_cases h4 : c = 44
        · subst h4; rfl
        · by_cases h5 : c = 59
          · subst h5; rfl
          · by_cases h6 : c = 58
            · subst h6; rfl
            · simp only [h1, h2, h3, h4, h5, h6, if_false]; rfl
theorem m_kind_L {T : Nat → Int32} {L : Nat} (hL : L ≤ 300) {XM : DM} (hd : ∀ i, i < L → XM 0 (1 + i) = T i) (n : Nat) (kk : Int32 → Int32 → Option Int32) {s : Nat} (k1 : ∀ p, s ≤ p → p < L → kk (nI s) (nI p) = some (nI (cbN (T p)))) (k2 : kk (nI s) (nI s - 1) = some 0) : ∀ (k : Nat), s + k ≤ L → ∀ fu, k < fu → fX6_kindOf_L26 n XM kk fu (nI s) (nI (s + k) - 1) = some (nI (cbN (lnt T s k))) := by
  intro k
  induction k with
  | zero =>
    intro hk fu hfu
    obtain ⟨fu, rfl⟩ : ∃ z, fu = z + 1 := ⟨fu - 1, by omega⟩
    unfold fX6_kindOf_L26
    have : nI (s + 0) - 1 < nI s := by
      by_cases c : s = 0
      · subst c; decide
      · obtain ⟨s, rfl⟩ : ∃ z, s = z + 1 := ⟨s - 1, by omega⟩
        rw [Nat.add_zero, nI_pred]
        exact nI_lt (by omega) (by omega)
    rw [if_pos this, Nat.add_zero, k2]
    rfl
  | succ k ih =>
    intro hk fu hfu
    obtain ⟨fu, rfl⟩ : ∃ z, fu = z + 1 := ⟨fu - 1, by omega⟩
    have ih := ih (by omega) fu (by omega)
    unfold fX6_kindOf_L26
    rw [show s + (k + 1) = (s + k) + 1 by omega, nI_pred, if_neg (nI_nlt (by omega) (by omega)), one_add, rd_in _ (by omega) (by omega)]
    simp only [bnd_s, sl_s]
    rw [hd _ (by omega), show nI (s + k) + (-1) = nI (s + k) - 1 from (Int32.sub_eq_add_neg _ _).symm, lnt_s]
    by_cases c1 : T (s + k) = 41
    · rw [if_pos c1, if_pos (by simp [isT, c1])]; exact ih
    · rw [if_neg c1]
      by_cases c2 : T (s + k) = 93
      · rw [if_pos c2, if_pos (by simp [isT, c2])]; exact ih
      · rw [if_neg c2]
        by_cases c3 : T (s + k) = 34
        · rw [if_pos c3, if_pos (by simp [isT, c3])]; exact ih
        · rw [if_neg c3]
          by_cases c4 : T (s + k) = 39
          · rw [if_pos c4, if_pos (by simp [isT, c4])]; exact ih
          · rw [if_neg c4, if_neg (by simp [isT, c1, c2, c3, c4])]
            exact k1 _ (by omega) (by omega)
theorem m_kind {T : Nat → Int32} {L : Nat} (hL : L ≤ 300) {XM : DM} (hd : ∀ i, i < L → XM 0 (1 + i) = T i) {n : Nat} (hn : 400 ≤ n) {s m : Nat} (hm : 1 ≤ m) (he : s + m ≤ L) : fX6_kindOf n XM (nI s) (nI m) = some (nI (kdN T s m)) := by
  unfold fX6_kindOf
  simp only [sl_s]
  have key := m_kind_L hL hd n (fun (x1 : Int32) (x3 : Int32) => if x1 ≤ x3 then bnd (rdA 348 (XM 0) (1 + x3)) fun v10 => (if v10 = 46 then some 2 else (if v10 = 33 then some 2 else (if v10 = 63 then some 2 else (if v10 = 44 then some 1 else (if v10 = 59 then some 1 else (if v10 = 58 then some 1 else some 0)))))) else (if (0 : Int32) = 46 then some 2 else (if (0 : Int32) = 33 then some 2 else (if (0 : Int32) = 63 then some 2 else (if (0 : Int32) = 44 then some 1 else (if (0 : Int32) = 59 then some 1 else (if (0 : Int32) = 58 then some 1 else some 0))))))) (s := s) (fun p h1 h2 => by
    try dsimp only
    rw [if_pos (nI_le (by omega) (by omega)), one_add, rd_in _ (by omega) (by omega), bnd_s, hd _ h2, kd_last]) (by
    have : ¬ nI s ≤ nI s - 1 := by
      by_cases c : s = 0
      · subst c; decide
      · obtain ⟨s, rfl⟩ : ∃ z, s = z + 1 := ⟨s - 1, by omega⟩
        rw [nI_pred]
        exact nI_ge (by omega) (by omega)
    try dsimp only
    rw [if_neg this]
    rfl) m he n (by omega)
  have sub : nI s + nI m - 1 = nI (s + m) - 1 := by rw [nI_add]
  rw [sub]
  have hlast : m = 1 → lnt T s m = 124 → T s = 124 := by
    intro e1 e2
    subst e1
    rw [show (1 : Nat) = 0 + 1 from rfl, lnt_s, Nat.add_zero] at e2
    by_cases c : isT (T s) = true
    · rw [if_pos c] at e2; exact absurd (show (-1 : Int32) = 124 from e2) (by decide)
    · rw [if_neg c] at e2; exact e2
  by_cases c1 : m = 1
  · rw [if_pos (by rw [c1]; rfl), one_add, rd_in _ (by omega) (by omega), bnd_s, hd _ (by omega)]
    by_cases c2 : T s = 124
    · rw [if_pos c2]
      have : lnt T s m = 124 := by rw [c1, show (1 : Nat) = 0 + 1 from rfl, lnt_s, Nat.add_zero, if_neg (by rw [c2]; decide), c2]
      unfold kdN
      rw [if_pos ⟨c1, this⟩]
      rfl
    · rw [if_neg c2]
      refine Eq.trans key ?_
      unfold kdN
      rw [if_neg (fun q => c2 (hlast q.1 q.2))]
  · rw [if_neg (fun e => c1 ((eq_l (a := m) (k := 1) (by omega) (by omega)).mp e))]
    refine Eq.trans key ?_
    unfold kdN
    rw [if_neg (fun q => c1 q.1)]
