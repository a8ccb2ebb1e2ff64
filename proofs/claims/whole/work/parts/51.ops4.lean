/-! note, unnote, order, clearOrders -/
theorem INV.note {T : Nat → Int32} {L : Nat} {XF XN XA XW XP XQ XO XM M1 : DM} {YH : HD} {d' f' : Nat → Int32} {nt' pos' : Nat → Nat} {m' : Nat} (hW : PW (wsOf T L) XW XP XQ) (hM : PM (wsOf T L) XM) (hO : RO XO XM) (k3 : RH YH M1) (k4 : ∀ r, r ≠ 1 → r ≠ 2 → M1 r = XM r) (hR : RN T L XN (XM 0)) (hN : NO (wK (wsOf T L)) (fun i => ¬ wkd (wsOf T L) i = 3) nt' m' pos' f' d') (hd : ∀ k, (k < 309 ∨ 329 < k) → d' k = XM 0 k) : INV XF (va_up XN 5 f') XA XW XP XQ XO YH (va_up M1 0 d') := by
  obtain ⟨h1, h2, h3, h4, ⟨t, sp, j, r, t1, t2, t3, t4⟩, ⟨k, pl, p0, p1, p2, p3⟩, -, h13, h14⟩ := hR
  refine INV.of hW hM hO k3 k4 ⟨h1, ?_, ?_, fun i hi => ?_, ⟨t, sp, j, r, t1, ?_, fun z hz => ?_, t4.upd (fun k hk => up_ne _ _ (by omega)) (fun z hz => hd z (by omega))⟩, ⟨k, pl, p0, ?_, ?_, fun i hi => ?_⟩, ⟨nt', m', pos', by rw [up_eq]; exact hN⟩, ?_, ?_⟩
  · rw [up_ne _ _ (by decide)]; exact h2
  · rw [hd 0 (by omega)]; exact h3
  · rw [up_ne _ _ (by decide), hd _ (by omega)]; exact h4 i hi
  · rw [up_ne _ _ (by decide)]; exact t2
  · rw [hd _ (by omega)]; exact t3 z hz
  · rw [up_ne _ _ (by decide)]; exact p1
  · rw [hd _ (by omega)]; exact p2
  · rw [up_ne _ _ (by decide), hd _ (by omega)]; exact p3 i hi
  · rw [up_ne _ _ (by decide), hd _ (by omega)]; exact h13
  · rw [up_ne _ _ (by decide), hd _ (by omega)]; exact h14
/-- may a shown word be noted? the class says 0, the reference 1 -/
theorem noteE {T : Nat → Int32} {L : Nat} {XN XW XP XQ XM : DM} (hW : PW (wsOf T L) XW XP XQ) (hM : PM (wsOf T L) XM) (hv : VS (wsOf T L)) {nt pos : Nat → Nat} {m : Nat} (hN : NO (wK (wsOf T L)) (fun i => ¬ wkd (wsOf T L) i = 3) nt m pos (XN 5) (XM 0)) {n : Nat} (hn : 1400 ≤ n) {i v : Nat} (hi : i < wK (wsOf T L)) (h1 : 1 ≤ v) (h2 : v ≤ 99) : fX3_noteError n XN XW (nI i) (nI v) = some (if wkd (wsOf T L) i = 3 then -2 else if nt i ≠ 0 ∨ m < 10 then 0 else -3) ∧ fX6_canNote n XM (nI i) = some (if wkd (wsOf T L) i = 3 then 0 else if nt i ≠ 0 ∨ m < 10 then 1 else 0) := by
  have hk := hv.1
  have hx := hN.ix (show i < 150 by omega)
  have hm := hN.1
  obtain ⟨v1, v2⟩ := hN.2.2.2.2.1 i (by omega)
  unfold fX3_noteError fX6_canNote
  rw [has_in hW hv hi, bnd_s, if_neg (show ¬ (1 : Int32) = 0 from by decide), if_neg (fun e => absurd ((lt_l2 (a := v) (k := 1) (by omega) (by decide)).mp e) (by omega)), if_pos ((le_l2 (a := v) (k := 99) (by omega) (by decide)).mpr h2), isMark_ok hW hv hi, bnd_s, m_isShown hM hv hi, bnd_s]
  by_cases c : wkd (wsOf T L) i = 3
  · rw [if_pos c, if_pos c, if_pos c, if_pos c, if_neg (show ¬ (1 : Int32) = 0 from by decide), if_pos rfl]
    exact ⟨rfl, rfl⟩
  · rw [if_neg c, if_neg c, if_neg c, if_neg c, if_pos rfl, if_neg (show ¬ (1 : Int32) = 0 from by decide), at_in _ (by omega) (by omega), bnd_s, v1, c_cn hk hN (show 200 ≤ n by omega), bnd_s, m_no hk hN (show 200 ≤ n by omega) (show i < 150 by omega), bnd_s]
    by_cases c1 : nt i = 0
    · have : ¬ ixo pos m i < m := fun q => (hx.mp q) c1
      rw [if_pos (show nI (nt i) = 0 from by rw [c1]; rfl), oI_ge this, if_pos rfl, rd_l (k := 309) _ (by omega) (by omega), bnd_s, hN.2.1]
      by_cases c2 : m < 10
      · rw [if_pos ((lt_l2 (a := m) (k := 10) (by omega) (by decide)).mpr c2), if_pos (Or.inr c2), if_pos (Or.inr c2), if_neg (fun e => absurd ((le_l1 (k := 10) (a := m) (by decide) (by omega)).mp e) (by omega))]
        exact ⟨rfl, rfl⟩
      · have ng : ¬ (nt i ≠ 0 ∨ m < 10) := fun q => q.elim (fun z => z c1) c2
        rw [if_neg (fun e => c2 ((lt_l2 (a := m) (k := 10) (by omega) (by decide)).mp e)), if_neg ng, if_neg ng, if_pos ((le_l1 (k := 10) (a := m) (by decide) (by omega)).mpr (by omega))]
        exact ⟨rfl, rfl⟩
    · have : ixo pos m i < m := hx.mpr c1
      rw [if_neg (nI_ne0 (by omega) (by omega)), oI_lt this, if_neg (nI_ne_m1 (by omega)), if_pos (Or.inl c1), if_pos (Or.inl c1)]
      exact ⟨rfl, rfl⟩
theorem ok_note {n : Nat} (hn : 1400 ≤ n) : OK_note n INV := by
  intro XF XN XA XW XP XQ XO XH XM a0 a1 hI
  have hI' := hI
  obtain ⟨⟨T, L, hR, hW, hM⟩, hO, hH⟩ := hI
  have hR' := hR
  obtain ⟨h1, h2, h3, h4, -, -, ⟨nt, m, pos, hN⟩, h13, h14⟩ := hR
  have hv := wsOf_VS (T := T) h1
  have hk := hv.1
  unfold fX5_note fX6_note fX6_isWord
  rw [hM.1, m_in, bnd_s, bnd_s, m_in, bnd_s]
  by_cases c : ∃ a, a < wK (wsOf T L) ∧ a0 = nI a
  · obtain ⟨i, hi, rfl⟩ := c
    have e2 : ¬ (nI i < 0 ∨ nI (wK (wsOf T L)) - 1 < nI i) := by rw [rng hk]; exact fun q => q ⟨i, hi, rfl⟩
    rw [if_neg e2, if_neg (show ¬ (1 : Int32) = 0 from by decide)]
    by_cases c1 : a1 < 1 ∨ 99 < a1
    · rw [if_pos c1, if_pos rfl]
      have : fX3_noteError n XN XW (nI i) a1 = some (-1) := by
        unfold fX3_noteError
        rw [has_in hW hv hi, bnd_s, if_neg (show ¬ (1 : Int32) = 0 from by decide)]
        by_cases z : a1 < 1
        · rw [if_pos z]
        · rw [if_neg z, if_neg (show ¬ a1 ≤ 99 from fun e => by rw [i_le] at e; exact e (c1.resolve_left z))]
      rw [this, bnd_s, if_neg (show ¬ (-1 : Int32) = 0 from by decide)]
      exact ⟨-1, XN, XH, XM, rfl, rfl, hI'⟩
    · rw [if_neg c1, if_neg (show ¬ (1 : Int32) = 0 from by decide)]
      obtain ⟨b, hb, rfl⟩ := nI_of (x := a1) (fun e => c1 (Or.inl (Int32.lt_trans e (by decide))))
      have b1 : 1 ≤ b := by
        by_cases z : 1 ≤ b
        · exact z
        · exact absurd (Or.inl ((lt_l2 (a := b) (k := 1) hb (by decide)).mpr (by omega))) c1
      have b2 : b ≤ 99 := by
        by_cases z : b ≤ 99
        · exact z
        · exact absurd (Or.inr ((lt_l1 (k := 99) (a := b) (by decide) hb).mpr (by omega))) c1
      obtain ⟨q1, q2⟩ := noteE hW hM hv hN hn hi b1 b2
      rw [q1, q2, bnd_s, bnd_s]
      by_cases c3 : wkd (wsOf T L) i = 3
      · rw [if_pos c3, if_pos c3, if_neg (show ¬ (-2 : Int32) = 0 from by decide), if_pos rfl, m_isShown hM hv hi, bnd_s, if_pos c3, if_pos rfl]
        exact ⟨-2, XN, XH, XM, rfl, rfl, hI'⟩
      · rw [if_neg c3, if_neg c3]
        by_cases c4 : nt i ≠ 0 ∨ m < 10
        · rw [if_pos c4, if_pos c4, if_pos rfl, if_neg (show ¬ (1 : Int32) = 0 from by decide)]
          obtain ⟨YH, M1, k1, k2, k3, k4⟩ := keepJ hR' hH hn
          have m0 : M1 0 = XM 0 := k4 0 (by decide) (by decide)
          obtain ⟨d', nt', m', pos', y1, y2, y3⟩ := noteJ M1 hk hN (show 200 ≤ n by omega) hi c3 b1 b2 c4
          rw [← m0, up0] at y1
          rw [k1, bnd_s, put_in _ _ (by omega) (by omega), bnd_s, sl_s, c_cn (S := va_up XN 5 (upd (XN 5) i (nI b))) hk (by rw [up_eq]; exact y2) (show 200 ≤ n by omega), bnd_s, k2, bnd_s, y1, bnd_s, rd_l (k := 309) _ (by omega) (by omega), bnd_s, up_eq, y2.2.1]
          exact ⟨_, _, YH, _, rfl, rfl, INV.note hW hM hO k3 k4 hR' y2 y3⟩
        · rw [if_neg c4, if_neg c4, if_neg (show ¬ (-3 : Int32) = 0 from by decide), if_pos rfl, m_isShown hM hv hi, bnd_s, if_neg c3, if_neg (show ¬ (1 : Int32) = 0 from by decide)]
          exact ⟨-3, XN, XH, XM, rfl, rfl, hI'⟩
  · have : fX3_noteError n XN XW a0 a1 = some (-1) := by
      unfold fX3_noteError
      rw [c_has4 (N := wK (wsOf T L)) hW.1, if_pos ((rng2 hk a0).mpr c), bnd_s, if_pos rfl]
    rw [this, bnd_s, if_neg (show ¬ (-1 : Int32) = 0 from by decide), if_pos ((rng hk a0).mpr c), if_pos rfl]
    exact ⟨-1, XN, XH, XM, rfl, rfl, hI'⟩
theorem unnote_eq (n : Nat) (XM : DM) (p1 : Int32) : fX6_unnote n XM p1 = bnd (fX6_isWord XM p1) fun r1 => if r1 = 0 then some (-1, XM) else bnd (fX6_noteOf n XM p1) fun r7 => if r7 = -1 then some (-4, XM) else bnd (fX6_records n XM) fun X13 => unM n r7 X13 := by
  unfold fX6_unnote unM
  simp only [sl_n]
theorem ok_unnote {n : Nat} (hn : 1400 ≤ n) : OK_unnote n INV := by
  intro XF XN XA XW XP XQ XO XH XM a0 hI
  have hI' := hI
  obtain ⟨⟨T, L, hR, hW, hM⟩, hO, hH⟩ := hI
  have hR' := hR
  obtain ⟨h1, h2, h3, h4, -, -, ⟨nt, m, pos, hN⟩, h13, h14⟩ := hR
  have hv := wsOf_VS (T := T) h1
  have hk := hv.1
  rw [unnote_eq]
  unfold fX5_unnote fX6_isWord
  rw [hM.1, m_in, bnd_s, bnd_s, c_has4 (N := wK (wsOf T L)) hW.1, bnd_s]
  by_cases c : ∃ a, a < wK (wsOf T L) ∧ a0 = nI a
  · obtain ⟨i, hi, rfl⟩ := c
    have e1 : ¬ (nI i < 0 ∨ nI (wK (wsOf T L)) ≤ nI i) := by rw [rng2 hk]; exact fun q => q ⟨i, hi, rfl⟩
    have e2 : ¬ (nI i < 0 ∨ nI (wK (wsOf T L)) - 1 < nI i) := by rw [rng hk]; exact fun q => q ⟨i, hi, rfl⟩
    have hx := hN.ix (show i < 150 by omega)
    have hm := hN.1
    obtain ⟨v1, v2⟩ := hN.2.2.2.2.1 i (by omega)
    rw [if_neg e1, if_neg e2, if_neg (show ¬ (1 : Int32) = 0 from by decide), if_neg (show ¬ (1 : Int32) = 0 from by decide), at_in _ (by omega) (by omega), bnd_s, v1, m_no hk hN (show 200 ≤ n by omega) (show i < 150 by omega), bnd_s]
    by_cases c1 : nt i = 0
    · have : ¬ ixo pos m i < m := fun q => (hx.mp q) c1
      rw [if_pos (show nI (nt i) = 0 from by rw [c1]; rfl), if_pos (show oI m (ixo pos m i) = -1 from oI_ge this)]
      exact ⟨-4, XN, XH, XM, rfl, rfl, hI'⟩
    · have lt : ixo pos m i < m := hx.mpr c1
      rw [if_neg (show ¬ nI (nt i) = 0 from nI_ne0 (by omega) (by omega)), if_neg (show ¬ oI m (ixo pos m i) = -1 from by rw [oI_lt lt]; exact nI_ne_m1 (by omega))]
      obtain ⟨YH, M1, k1, k2, k3, k4⟩ := keepJ hR' hH hn
      have m0 : M1 0 = XM 0 := k4 0 (by decide) (by decide)
      obtain ⟨d', nt', m', pos', y1, y2, y3⟩ := unJ M1 hk hN n hi c1
      rw [← m0, up0] at y1
      rw [k1, bnd_s, put_in _ _ (by omega) (by omega), bnd_s, sl_s, k2, bnd_s, y1]
      exact ⟨_, _, YH, _, rfl, rfl, INV.note hW hM hO k3 k4 hR' y2 y3⟩
  · rw [if_pos ((rng2 hk a0).mpr c), if_pos ((rng hk a0).mpr c), if_pos rfl, if_pos rfl]
    exact ⟨-1, XN, XH, XM, rfl, rfl, hI'⟩
