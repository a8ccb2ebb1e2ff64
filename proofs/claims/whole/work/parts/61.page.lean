/-! page -/
theorem m_pag_skip {w : WS} {XM : DM} (hM : PM w XM) (hv : VS w) (n : Nat) (kk : Int32 → Int32 → Int32 → Int32 → Option Int32) {s : Nat} (hs : s < 2 ^ 31) (x2 x3 x4 x5 : Int32) : ∀ (j i : Nat), i + j ≤ wK w → (∀ l, i ≤ l → l < i + j → ¬ wpg w l = s) → ∀ fu, fX6_page_L30 n XM kk (fu + j) (nI s) x2 x3 x4 x5 (nI i) = fX6_page_L30 n XM kk fu (nI s) x2 x3 x4 x5 (nI (i + j)) := by
  have hk := hv.1
  intro j
  induction j with
  | zero => intro i hi hl fu; rfl
  | succ j ih =>
    intro i hi hl fu
    have hle := pg_le hv i
    rw [show fu + (j + 1) = (fu + j) + 1 by omega]
    conv => lhs; unfold fX6_page_L30
    rw [hM.1, if_neg (nI_ge (by omega) (by omega)), rd_in _ (by omega) (by omega), bnd_s, (hM.2.2.2 i (by omega)).2.2.2.2.2.2]
    simp only [sl_s, nI_1]
    rw [if_neg (fun q => hl i (by omega) (by omega) ((nI_eq (by omega) (by omega)).mp q)), ih (i + 1) (by omega) (fun l h1 h2 => hl l (by omega) (by omega)) fu, show i + 1 + j = i + (j + 1) by omega]
theorem m_pag_one {w : WS} {XM : DM} {t sp : Nat → Nat} (hM : PM w XM) (hv : VS w) (ht : VT t) (hT : MT t (XM 0)) (hp : VP sp) (hV : MV sp (XM 0)) (n : Nat) (kk : Int32 → Int32 → Int32 → Int32 → Option Int32) {s i : Nat} (hi : i < wK w) (hs : wpg w i = s) (x2 x3 x4 : Int32) (p : Nat) (fu : Nat) : fX6_page_L30 n XM kk (fu + 1) (nI s) x2 x3 x4 (nI p) (nI i) = fX6_page_L30 n XM kk fu (nI s) x2 (if x3 = -1 then nI i else x3) (nI i) (nI (p + wtn w t sp i)) (nI (i + 1)) := by
  have hk := hv.1
  conv => lhs; unfold fX6_page_L30
  rw [hM.1, if_neg (nI_ge hi (by omega)), rd_in _ (by omega) (by omega), bnd_s, (hM.2.2.2 i hi).2.2.2.2.2.2, hs]
  simp only [sl_s, nI_1]
  rw [if_pos True.intro]
  simp only [m_timeOf hM hv ht hT hp hV hi, bnd_s, nI_add]
  by_cases c : x3 = -1
  · rw [if_pos c, if_pos c]
  · rw [if_neg c, if_neg c]
theorem m_pag_in {w : WS} {XM : DM} {t sp : Nat → Nat} (hM : PM w XM) (hv : VS w) (ht : VT t) (hT : MT t (XM 0)) (hp : VP sp) (hV : MV sp (XM 0)) (n : Nat) (kk : Int32 → Int32 → Int32 → Int32 → Option Int32) {s a : Nat} (haK : a < wK w) (x2 : Int32) : ∀ (j i p : Nat), i + 1 + j ≤ wK w → (∀ l, i + 1 ≤ l → l < i + 1 + j → wpg w l = s) → ∀ fu, fX6_page_L30 n XM kk (fu + j) (nI s) x2 (nI a) (nI i) (nI p) (nI (i + 1)) = fX6_page_L30 n XM kk fu (nI s) x2 (nI a) (nI (i + j)) (nI (p + smN (wtn w t sp) j (i + 1))) (nI (i + 1 + j)) := by
  have hk := hv.1
  intro j
  induction j with
  | zero => intro i p hi hl fu; rfl
  | succ j ih =>
    intro i p hi hl fu
    rw [show fu + (j + 1) = (fu + j) + 1 by omega, m_pag_one hM hv ht hT hp hV n kk (by omega) (hl (i + 1) (by omega) (by omega)), if_neg (nI_ne_m1 (by omega)), ih (i + 1) _ (by omega) (fun l h1 h2 => hl l (by omega) (by omega)) fu, smN_s, Nat.add_assoc p, show i + 1 + j = i + (j + 1) by omega, show i + 1 + 1 + j = i + 1 + (j + 1) by omega]
theorem m_pag {w : WS} {XM : DM} {t sp : Nat → Nat} (hM : PM w XM) (hv : VS w) (ht : VT t) (hT : MT t (XM 0)) (hp : VP sp) (hV : MV sp (XM 0)) {n : Nat} (hn : 200 ≤ n) (kk : Int32 → Int32 → Int32 → Int32 → Option Int32) {s a k : Nat} (hs : s < 2 ^ 31) (k1 : 1 ≤ k) (k2 : a + k ≤ wK w) (k3 : ∀ i, i < wK w → (wpg w i = s ↔ a ≤ i ∧ i < a + k)) (x2 : Int32) : fX6_page_L30 n XM kk n (nI s) x2 (-1) 0 0 0 = kk x2 (nI a) (nI (a + (k - 1))) (nI (smN (wtn w t sp) k a)) := by
  have hk := hv.1
  obtain ⟨z, hz⟩ : ∃ z, wK w = a + k + z := ⟨wK w - (a + k), by omega⟩
  obtain ⟨m, hm⟩ : ∃ m, n = m + 1 + z + (k - 1) + 1 + a := ⟨n - (1 + z + (k - 1) + 1 + a), by omega⟩
  have := m_pag_skip hM hv n kk hs x2 (-1) 0 0 a 0 (by omega) (fun l h1 h2 e => by have := (k3 l (by omega)).mp e; omega) (m + 1 + z + (k - 1) + 1)
  rw [← hm] at this
  rw [show fX6_page_L30 n XM kk n (nI s) x2 (-1) 0 0 0 = _ from this, Nat.zero_add]
  rw [show fX6_page_L30 n XM kk (m + 1 + z + (k - 1) + 1) (nI s) x2 (-1) 0 0 (nI a) = _ from m_pag_one hM hv ht hT hp hV n kk (by omega) ((k3 a (by omega)).mpr (by omega)) x2 (-1) 0 0 (m + 1 + z + (k - 1)), if_pos rfl, Nat.zero_add]
  rw [m_pag_in hM hv ht hT hp hV n kk (by omega) x2 (k - 1) a _ (by omega) (fun l h1 h2 => (k3 l (by omega)).mpr (by omega)) (m + 1 + z)]
  rw [m_pag_skip hM hv n kk hs x2 _ _ _ z _ (by omega) (fun l h1 h2 e => by have := (k3 l (by omega)).mp e; omega) (m + 1)]
  unfold fX6_page_L30
  rw [hM.1, if_pos (nI_le (by omega) (by omega)), ← smN_s, show k - 1 + 1 = k by omega]
theorem ok_page {n : Nat} (hn : 1400 ≤ n) : OK_page n INV := by
  intro XF XN XA XW XP XQ XO XH XM a0 a1 hI
  have hI' := hI
  obtain ⟨⟨T, L, hR, hW, hM⟩, hO, hH⟩ := hI
  obtain ⟨h1, h2, h3, h4, ⟨t, sp, j, r, t1, t2, t3, t4⟩, -, -, h13, h14⟩ := hR
  have hv := wsOf_VS (T := T) h1
  have hk := hv.1
  have hnP := nP_le hv
  unfold fX5_page fX6_page fX6_isPage
  rw [hM.2.2.1, m_in, bnd_s, bnd_s, c_has2 (N := wnP (wsOf T L)) hW.2.2.2.1, bnd_s]
  by_cases c : ∃ a, a < wnP (wsOf T L) ∧ a0 = nI a
  · obtain ⟨s, hs, rfl⟩ := c
    have e1 : ¬ (nI s < 0 ∨ nI (wnP (wsOf T L)) ≤ nI s) := by rw [rng2 hnP]; exact fun q => q ⟨s, hs, rfl⟩
    have e2 : ¬ (nI s < 0 ∨ nI (wnP (wsOf T L)) - 1 < nI s) := by rw [rng hnP]; exact fun q => q ⟨s, hs, rfl⟩
    rw [if_neg e1, if_neg e2, if_neg (show ¬ (1 : Int32) = 0 from by decide), if_neg (show ¬ (1 : Int32) = 0 from by decide), m_in, bnd_s]
    by_cases c1 : a1 < 0
    · rw [if_pos c1, if_pos (Or.inl c1), if_pos rfl]
      exact ⟨-1, rfl, rfl, hI'⟩
    · rw [if_neg c1]
      obtain ⟨b, hb, rfl⟩ := nI_of c1
      by_cases c2 : nI b < 4
      · have b4 : b < 4 := (lt_l2 (a := b) (k := 4) hb (by decide)).mp c2
        have e3 : ¬ (nI b < 0 ∨ 3 < nI b) := fun q => q.elim c1 (fun z => by rw [lt_l1 (k := 3) (a := b) (by decide) hb] at z; omega)
        obtain ⟨a, k, k1, k2, k3⟩ := pg_str hv hs
        obtain ⟨f1, f2⟩ := str_first hW.2.2.2 k1 k2 k3
        rw [if_pos c2, if_neg e3, if_neg (show ¬ (1 : Int32) = 0 from by decide), at_in _ (by omega) (by omega), bnd_s, at_in _ (by omega) (by omega), bnd_s, f1, f2, c_spanP hW hv t1 t2 t4.1 t4.2.1 (show 200 ≤ n by omega) k1 k2, bnd_s]
        unfold fX4_sentencesAmong
        rw [at_in _ (by omega) (by omega), bnd_s, at_in _ (by omega) (by omega), bnd_s, bnd_s, hW.2.2.1.2.1 _ (by omega), hW.2.2.1.2.1 _ (by omega)]
        simp only [sl_s]
        rw [m_pag hM hv t1 t3 t4.1 t4.2.2.1 (show 200 ≤ n by omega) _ (by omega) k1 k2 k3, rd_in _ (by omega) (by omega), bnd_s, rd_in _ (by omega) (by omega), bnd_s, (hM.2.2.2 _ (by omega)).2.2.2.2.2.1, (hM.2.2.2 a (by omega)).2.2.2.2.2.1]
        by_cases d3 : nI b = 3
        · have hb3 : b = 3 := (eq_l (a := b) (k := 3) hb (by decide)).mp d3
          subst hb3
          rw [if_pos d3, if_neg (show ¬ nI 3 = (0 : Int32) from by decide), if_neg (show ¬ nI 3 = (1 : Int32) from by decide), if_neg (show ¬ nI 3 = (2 : Int32) from by decide)]
          exact ⟨_, rfl, rfl, hI'⟩
        rw [if_neg d3]
        by_cases d0 : nI b = 0
        · rw [if_pos d0, if_pos d0]
          exact ⟨_, rfl, rfl, hI'⟩
        rw [if_neg d0, if_neg d0]
        by_cases d1 : nI b = 1
        · rw [if_pos d1, if_pos d1]
          exact ⟨_, rfl, rfl, hI'⟩
        have hb2 : b = 2 := by
          have g0 : ¬ b = 0 := fun e => d0 (by rw [e]; rfl)
          have g1 : ¬ b = 1 := fun e => d1 (by rw [e]; rfl)
          have g3 : ¬ b = 3 := fun e => d3 (by rw [e]; rfl)
          omega
        subst hb2
        rw [if_neg d1, if_neg d1, if_pos (show nI 2 = (2 : Int32) from rfl)]
        exact ⟨_, rfl, rfl, hI'⟩
      · rw [if_neg c2, if_pos (Or.inr (by
          rw [lt_l1 (k := 3) (a := b) (by decide) hb]
          have : ¬ b < 4 := fun e => c2 ((lt_l2 (a := b) (k := 4) hb (by decide)).mpr e)
          omega)), if_pos rfl]
        exact ⟨-1, rfl, rfl, hI'⟩
  · have e1 : a0 < 0 ∨ nI (wnP (wsOf T L)) ≤ a0 := by rw [rng2 hnP]; exact c
    have e2 : a0 < 0 ∨ nI (wnP (wsOf T L)) - 1 < a0 := by rw [rng hnP]; exact c
    rw [if_pos e1, if_pos e2, if_pos rfl, if_pos rfl]
    exact ⟨-1, rfl, rfl, hI'⟩
