/-! word -/
theorem wsOf_in {T : Nat → Int32} {L i : Nat} (hi : i < wK (wsOf T L)) : 1 ≤ (wsOf T L).2 1 i ∧ (wsOf T L).2 0 i + (wsOf T L).2 1 i ≤ L := scn_in T L (L + 1) 0 0 (by omega) (Nat.le_refl _) _ (lg_in (show i < (scn T L (L + 1) 0 0).length from hi))
theorem m_spot_L {T : Nat → Int32} {L : Nat} (hL : L ≤ 300) {XM : DM} (hd : ∀ i, i < L → XM 0 (1 + i) = T i) (n : Nat) {i s m l : Nat} (hi : i < 151) (he : s + m ≤ L) (h12 : XM 12 i = nI s) (h13 : XM 13 i = nI m) (h14 : XM 14 i = nI l) (hl : 1 ≤ l) (hl2 : l ≤ 300) : ∀ (j p q : Nat), p + j = m → q < 2 ^ 31 → ∀ fu, j < fu → fX6_spotOf_L13 n XM fu (nI i) (nI q) (nI p) = some (spI (fnd T s j p q)) := by
  intro j
  induction j with
  | zero =>
    intro p q hp hq fu hfu
    obtain ⟨fu, rfl⟩ : ∃ z, fu = z + 1 := ⟨fu - 1, by omega⟩
    unfold fX6_spotOf_L13
    rw [rd_in _ hi (by omega), bnd_s, h13, if_pos (nI_le (by omega) (by omega))]
    rfl
  | succ j ih =>
    intro p q hp hq fu hfu
    obtain ⟨fu, rfl⟩ : ∃ z, fu = z + 1 := ⟨fu - 1, by omega⟩
    unfold fX6_spotOf_L13 fnd
    rw [rd_in _ hi (by omega), bnd_s, h13, if_neg (nI_ge (by omega) (by omega)), rd_in _ hi (by omega), bnd_s, h14, if_neg (nI_nle (by omega) (by omega)), rd_in _ hi (by omega), bnd_s, h12, one_add, nI_add, rd_in _ (by omega) (by omega), bnd_s, Nat.add_assoc, hd _ (by omega), isL_m, bnd_s]
    simp only [sl_s, nI_1]
    by_cases c1 : isL (T (s + p)) = true
    · rw [if_pos c1, if_neg (show ¬ (1 : Int32) = 0 from by decide), if_pos c1]
      by_cases c2 : q = 0
      · rw [if_pos (show nI q = 0 from by rw [c2]; rfl), if_pos c2]
        unfold spI
        rw [if_neg (by omega), Nat.add_sub_cancel]
      · rw [if_neg (show ¬ nI q = 0 from nI_ne0 (by omega) hq), if_neg c2, show nI q + (-1) = nI (q - 1) from by
          obtain ⟨q, rfl⟩ : ∃ z, q = z + 1 := ⟨q - 1, by omega⟩
          rw [← Int32.sub_eq_add_neg, nI_pred]; rfl]
        exact ih (p + 1) (q - 1) (by omega) (by omega) fu (by omega)
    · rw [if_neg c1, if_pos rfl, if_neg c1]
      exact ih (p + 1) q (by omega) hq fu (by omega)
theorem m_spot {T : Nat → Int32} {L : Nat} (hL : L ≤ 300) {XM : DM} (hd : ∀ i, i < L → XM 0 (1 + i) = T i) (hM : PM (wsOf T L) XM) {n : Nat} (hn : 1400 ≤ n) {i : Nat} (hi : i < wK (wsOf T L)) : fX6_spotOf n XM (nI i) = some (spI ((wsOf T L).2 5 i)) := by
  have hv := wsOf_VS (T := T) hL
  have hk := hv.1
  obtain ⟨a1, a2⟩ := wsOf_in hi
  obtain ⟨b1, b2, b3, -⟩ := hM.2.2.2 i hi
  have hl : wln (wsOf T L) i = ltn T ((wsOf T L).2 0 i) ((wsOf T L).2 1 i) := rfl
  have h5 : (wsOf T L).2 5 i = spN T ((wsOf T L).2 0 i) ((wsOf T L).2 1 i) := rfl
  have hle := ltn_le T ((wsOf T L).2 0 i) ((wsOf T L).2 1 i)
  unfold fX6_spotOf
  rw [rd_in _ (by omega) (by omega), bnd_s, b3, h5]
  unfold spN
  rw [hl]
  rw [hl] at b3
  by_cases c : ltn T ((wsOf T L).2 0 i) ((wsOf T L).2 1 i) = 0
  · rw [if_pos c]
    rw [c] at b3 ⊢
    rw [show dvA (nI 0 - 1) 3 = some 0 from by decide, bnd_s]
    obtain ⟨n, rfl⟩ : ∃ z, n = z + 1 := ⟨n - 1, by omega⟩
    unfold fX6_spotOf_L13
    rw [rd_in _ (by omega) (by omega), bnd_s, b2, if_neg (show ¬ nI ((wsOf T L).2 1 i) ≤ 0 from nI_nle (by omega) (by omega)), rd_in _ (by omega) (by omega), bnd_s, b3, if_pos (show nI 0 ≤ (0 : Int32) from by decide)]
    rfl
  · rw [if_neg c, lit_n 1, n_sub (by omega), lit_n 3, n_div (by omega) (by omega) (by omega), bnd_s]
    exact m_spot_L hL hd n (by omega) a2 b1 b2 b3 (by omega) (by omega) _ 0 _ (by omega) (by omega) n (by omega)
theorem ok_word {n : Nat} (hn : 1400 ≤ n) : OK_word n INV := by
  intro XF XN XA XW XP XQ XO XH XM a0 a1 hI
  have hI' := hI
  obtain ⟨⟨T, L, hR, hW, hM⟩, hO, hH⟩ := hI
  obtain ⟨h1, h2, h3, h4, ⟨t, sp, j, r, t1, t2, t3, t4⟩, -, ⟨nt, m, pos, hN⟩, h13, h14⟩ := hR
  have hv := wsOf_VS (T := T) h1
  have hk := hv.1
  unfold fX5_word fX6_word fX6_isWord
  rw [hM.1, m_in, bnd_s, bnd_s, c_has4 (N := wK (wsOf T L)) hW.1, bnd_s]
  by_cases c : ∃ a, a < wK (wsOf T L) ∧ a0 = nI a
  · obtain ⟨i, hi, rfl⟩ := c
    have e1 : ¬ (nI i < 0 ∨ nI (wK (wsOf T L)) ≤ nI i) := by rw [rng2 hk]; exact fun q => q ⟨i, hi, rfl⟩
    have e2 : ¬ (nI i < 0 ∨ nI (wK (wsOf T L)) - 1 < nI i) := by rw [rng hk]; exact fun q => q ⟨i, hi, rfl⟩
    rw [if_neg e1, if_neg e2, if_neg (show ¬ (1 : Int32) = 0 from by decide), if_neg (show ¬ (1 : Int32) = 0 from by decide), m_in, bnd_s]
    by_cases c1 : a1 < 0
    · rw [if_pos c1, if_pos (Or.inl c1), if_pos rfl]
      exact ⟨-1, rfl, rfl, hI'⟩
    · rw [if_neg c1]
      obtain ⟨b, hb, rfl⟩ := nI_of c1
      by_cases c2 : nI b < 11
      · have b11 : b < 11 := (lt_l2 (a := b) (k := 11) hb (by decide)).mp c2
        have e3 : ¬ (nI b < 0 ∨ 10 < nI b) := fun q => q.elim c1 (fun z => by rw [lt_l1 (k := 10) (a := b) (by decide) hb] at z; omega)
        have hm := hN.1
        have hx := hN.ix (show i < 150 by omega)
        rw [if_pos c2, if_neg e3, if_neg (show ¬ (1 : Int32) = 0 from by decide), m_no hk hN (show 200 ≤ n by omega) (show i < 150 by omega), bnd_s]
        obtain ⟨w0, w1, w2, w3, w4, w5⟩ := hW.2.1 i hi
        obtain ⟨m0, m1, m2, m3, m4, m5, m6⟩ := hM.2.2.2 i hi
        by_cases d0 : nI b = 0
        · rw [if_pos d0, if_pos d0, at_in _ (by omega) (by omega), bnd_s, rd_in _ (by omega) (by omega), bnd_s, w0, m0]
          exact ⟨_, rfl, rfl, hI'⟩
        rw [if_neg d0, if_neg d0]
        by_cases d1 : nI b = 1
        · rw [if_pos d1, if_pos d1, at_in _ (by omega) (by omega), bnd_s, rd_in _ (by omega) (by omega), bnd_s, w1, m1]
          exact ⟨_, rfl, rfl, hI'⟩
        rw [if_neg d1, if_neg d1]
        by_cases d2 : nI b = 2
        · rw [if_pos d2, if_pos d2, at_in _ (by omega) (by omega), bnd_s, rd_in _ (by omega) (by omega), bnd_s, w2, m2]
          exact ⟨_, rfl, rfl, hI'⟩
        rw [if_neg d2, if_neg d2]
        by_cases d3 : nI b = 3
        · rw [if_pos d3, if_pos d3, classOf_ok hW hv hi, bnd_s, m_classOf hM hv hi, bnd_s]
          exact ⟨_, rfl, rfl, hI'⟩
        rw [if_neg d3, if_neg d3]
        by_cases d4 : nI b = 4
        · rw [if_pos d4, if_pos d4, at_in _ (by omega) (by omega), bnd_s, rd_in _ (by omega) (by omega), bnd_s, w3, m3]
          exact ⟨_, rfl, rfl, hI'⟩
        rw [if_neg d4, if_neg d4]
        by_cases d5 : nI b = 5
        · rw [if_pos d5, if_pos d5, at_in _ (by omega) (by omega), bnd_s, rd_in _ (by omega) (by omega), bnd_s, hW.2.2.1.2.1 i hi, m5]
          exact ⟨_, rfl, rfl, hI'⟩
        rw [if_neg d5, if_neg d5]
        by_cases d6 : nI b = 6
        · rw [if_pos d6, if_pos d6, at_in _ (by omega) (by omega), bnd_s, rd_in _ (by omega) (by omega), bnd_s, hW.2.2.2.2.1 i hi, m6]
          exact ⟨_, rfl, rfl, hI'⟩
        rw [if_neg d6, if_neg d6]
        by_cases d7 : nI b = 7
        · rw [if_pos d7, if_pos d7, measureOf_ok hW hv t1 t2 hi, bnd_s, m_measureOf hM hv t1 t3 hi, bnd_s]
          exact ⟨_, rfl, rfl, hI'⟩
        rw [if_neg d7, if_neg d7]
        by_cases d8 : nI b = 8
        · rw [if_pos d8, if_pos d8, timeOf_ok hW hv t1 t2 t4.1 t4.2.1 hi, bnd_s, m_timeOf hM hv t1 t3 t4.1 t4.2.2.1 hi, bnd_s]
          exact ⟨_, rfl, rfl, hI'⟩
        rw [if_neg d8, if_neg d8]
        by_cases d9 : nI b = 9
        · rw [if_pos d9, if_pos d9, at_in _ (by omega) (by omega), bnd_s, (hN.2.2.2.2.1 i (by omega)).1]
          by_cases z : nt i = 0
          · have : ¬ ixo pos m i < m := fun q => (hx.mp q) z
            rw [if_pos (show oI m (ixo pos m i) = -1 from oI_ge this), z]
            exact ⟨_, rfl, rfl, hI'⟩
          · have lt : ixo pos m i < m := hx.mpr z
            obtain ⟨a1, a2, a3⟩ := ixo_spec pos m i
            have := (hN.2.2.1 _ lt).2.2.2.2
            rw [a2 lt] at this
            rw [if_neg (show ¬ oI m (ixo pos m i) = -1 from by rw [oI_lt lt]; exact nI_ne_m1 (by omega)), oI_lt lt, lit_n 320, nI_add, rd_in _ (by omega) (by omega), bnd_s, this]
            exact ⟨_, rfl, rfl, hI'⟩
        rw [if_neg d9, if_neg d9, at_in _ (by omega) (by omega), bnd_s, w5, m_spot h1 (fun i hi => (h4 i hi).2) hM hn hi, bnd_s]
        exact ⟨_, rfl, rfl, hI'⟩
      · have : (10 : Int32) < nI b := (lt_l1 (k := 10) (a := b) (by decide) hb).mpr (by
          by_cases z : 10 < b
          · exact z
          · exact absurd ((lt_l2 (a := b) (k := 11) hb (by decide)).mpr (by omega)) c2)
        rw [if_neg c2, if_pos (Or.inr this), if_pos rfl]
        exact ⟨-1, rfl, rfl, hI'⟩
  · rw [if_pos ((rng2 hk a0).mpr c), if_pos ((rng hk a0).mpr c), if_pos rfl, if_pos rfl]
    exact ⟨-1, rfl, rfl, hI'⟩
