/-! stretches: the words of one sentence, of one page -/
theorem str_mono {no : Nat → Nat} (hs : ∀ i, no i ≤ no (i + 1) ∧ no (i + 1) ≤ no i + 1) {i j : Nat} (h : i ≤ j) : no i ≤ no j := by
  induction j with
  | zero => rw [show i = 0 by omega]; exact Nat.le_refl _
  | succ j ih =>
    by_cases c : i = j + 1
    · rw [c]; exact Nat.le_refl _
    · exact Nat.le_trans (ih (by omega)) (hs j).1
theorem strE {no : Nat → Nat} (h0 : no 0 = 0) (hs : ∀ i, no i ≤ no (i + 1) ∧ no (i + 1) ≤ no i + 1) : ∀ (K : Nat) {s : Nat}, s < (if K = 0 then 0 else no (K - 1) + 1) → ∃ a k, 1 ≤ k ∧ a + k ≤ K ∧ ∀ i, i < K → (no i = s ↔ a ≤ i ∧ i < a + k) := by
  intro K
  induction K with
  | zero => intro s h; rw [if_pos rfl] at h; exact absurd h (Nat.not_lt_zero _)
  | succ K ih =>
    intro s h
    rw [if_neg (by omega), Nat.add_sub_cancel] at h
    by_cases cK : K = 0
    · subst cK
      refine ⟨0, 1, by omega, by omega, fun i hi => ?_⟩
      rw [show i = 0 by omega, h0]
      omega
    · have hK := hs (K - 1)
      rw [show K - 1 + 1 = K by omega] at hK
      by_cases c1 : s < no (K - 1) + 1
      · obtain ⟨a, k, k1, k2, k3⟩ := ih (s := s) (by rw [if_neg cK]; exact c1)
        by_cases c2 : no K = s
        · have e : no (K - 1) = s := by omega
          have := (k3 (K - 1) (by omega)).mp e
          refine ⟨a, k + 1, by omega, by omega, fun i hi => ?_⟩
          by_cases ci : i = K
          · subst ci; omega
          · rw [k3 i (by omega)]; omega
        · refine ⟨a, k, k1, by omega, fun i hi => ?_⟩
          by_cases ci : i = K
          · subst ci; omega
          · exact k3 i (by omega)
      · refine ⟨K, 1, by omega, by omega, fun i hi => ?_⟩
        by_cases ci : i = K
        · subst ci; omega
        · have := str_mono hs (show i ≤ K - 1 by omega)
          omega
theorem str_first {K : Nat} {no : Nat → Nat} {X : DM} (hP : PSp K no X) {s a k : Nat} (k1 : 1 ≤ k) (k2 : a + k ≤ K) (k3 : ∀ i, i < K → (no i = s ↔ a ≤ i ∧ i < a + k)) : X 0 s = nI a ∧ X 1 s = nI (a + (k - 1)) := by
  have e1 := (k3 a (by omega)).mpr (by omega)
  have e2 := (k3 (a + (k - 1)) (by omega)).mpr (by omega)
  constructor
  · have := hP.2.2.1 a (by omega) (by
      by_cases c : a = 0
      · exact Or.inl c
      · right
        intro e
        have := (k3 (a - 1) (by omega)).mp (by omega)
        omega)
    rw [e1] at this
    exact this
  · have := hP.2.2.2 (a + (k - 1)) (by omega) (by
      by_cases c : a + (k - 1) + 1 = K
      · exact Or.inl c
      · right
        intro e
        have := (k3 (a + (k - 1) + 1) (by omega)).mp (by omega)
        omega)
    rw [e2] at this
    exact this
theorem sn_st {w : WS} (hv : VS w) (i : Nat) : wsn w i ≤ wsn w (i + 1) ∧ wsn w (i + 1) ≤ wsn w i + 1 := by
  have := hv.2.2.2.2.1 i
  by_cases c : 1 < wkd w i
  · rw [if_pos c] at this; omega
  · rw [if_neg c] at this; omega
theorem pg_st {w : WS} (hv : VS w) (i : Nat) : wpg w i ≤ wpg w (i + 1) ∧ wpg w (i + 1) ≤ wpg w i + 1 := by
  have := hv.2.2.2.2.2 i
  by_cases c : wkd w i = 3
  · rw [if_pos c] at this; omega
  · rw [if_neg c] at this; omega
theorem sn_str {w : WS} (hv : VS w) {s : Nat} (hs : s < wnS w) : ∃ a k, 1 ≤ k ∧ a + k ≤ wK w ∧ ∀ i, i < wK w → (wsn w i = s ↔ a ≤ i ∧ i < a + k) := strE hv.2.2.1 (sn_st hv) (wK w) hs
theorem pg_str {w : WS} (hv : VS w) {s : Nat} (hs : s < wnP w) : ∃ a k, 1 ≤ k ∧ a + k ≤ wK w ∧ ∀ i, i < wK w → (wpg w i = s ↔ a ≤ i ∧ i < a + k) := strE hv.2.2.2.1 (pg_st hv) (wK w) hs
/-! the class's counts over a stretch -/
def shn (w : WS) (i : Nat) : Nat := if wkd w i = 3 then 0 else 1
theorem c_sha_L {w : WS} {XW XP XQ : DM} (hW : PW w XW XP XQ) (hv : VS w) (n : Nat) {b : Nat} (hb : b < 2 ^ 31) : ∀ (k a acc : Nat), a + k = b + 1 → b < wK w → ∀ fu, k < fu → fX4_shownAmong_L5 n XW fu (nI b) (nI acc) (nI a) = some (nI (acc + smN (shn w) k a)) := by
  have hk := hv.1
  intro k
  induction k with
  | zero =>
    intro a acc ha hbw fu hfu
    obtain ⟨fu, rfl⟩ : ∃ z, fu = z + 1 := ⟨fu - 1, by omega⟩
    unfold fX4_shownAmong_L5
    rw [if_pos (nI_lt (by omega) (by omega))]
    rfl
  | succ k ih =>
    intro a acc ha hbw fu hfu
    obtain ⟨fu, rfl⟩ : ∃ z, fu = z + 1 := ⟨fu - 1, by omega⟩
    unfold fX4_shownAmong_L5
    rw [if_neg (nI_nlt (by omega) (by omega)), isMark_ok hW hv (show a < wK w by omega), bnd_s, smN_s]
    simp only [sl_s, nI_1]
    by_cases c : wkd w a = 3
    · rw [if_pos c, if_neg (by decide), ih (a + 1) acc (by omega) hbw fu (by omega), show shn w a = 0 from if_pos c, Nat.zero_add]
    · rw [if_neg c, if_pos rfl, ih (a + 1) (acc + 1) (by omega) hbw fu (by omega), show shn w a = 1 from if_neg c, Nat.add_assoc]
theorem c_sha {w : WS} {XW XP XQ : DM} (hW : PW w XW XP XQ) (hv : VS w) {n : Nat} (hn : 200 ≤ n) {a k : Nat} (k1 : 1 ≤ k) (ha : a + k ≤ wK w) : fX4_shownAmong n XW (nI a) (nI (a + (k - 1))) = some (nI (smN (shn w) k a)) := by
  have hk := hv.1
  have := c_sha_L hW hv n (b := a + (k - 1)) (by omega) k a 0 (by omega) (by omega) n (by omega)
  rw [Nat.zero_add] at this
  exact this
theorem c_toa2 {w : WS} {S XW XP XQ : DM} {t sp : Nat → Nat} (hW : PW w XW XP XQ) (hv : VS w) (ht : VT t) (hT : PT t (S 3)) (hp : VP sp) (hV : PV sp (S 4)) {n : Nat} (hn : 200 ≤ n) {a k : Nat} (k1 : 1 ≤ k) (ha : a + k ≤ wK w) : fX3_timeOfAll n S XW (nI a) (nI (a + (k - 1))) = some (nI (smN (wtn w t sp) k a)) := by
  have := c_toa hW hv ht hT hp hV hn ha
  rw [show a + k = (a + (k - 1)) + 1 by omega, nI_pred] at this
  exact this
theorem c_spanP {w : WS} {S XF XW XP XQ : DM} {t sp : Nat → Nat} (hW : PW w XW XP XQ) (hv : VS w) (ht : VT t) (hT : PT t (S 3)) (hp : VP sp) (hV : PV sp (S 4)) {n : Nat} (hn : 200 ≤ n) {a k : Nat} (k1 : 1 ≤ k) (ha : a + k ≤ wK w) (x : Int32) : fX5_spanProperty n XF S XW (nI a) (nI (a + (k - 1))) x = some (if x = 0 then nI a else if x = 1 then nI (a + (k - 1)) else nI (smN (wtn w t sp) k a)) := by
  unfold fX5_spanProperty
  by_cases c : x = 0
  · rw [if_pos c, if_pos c]
  · rw [if_neg c, if_neg c]
    by_cases c1 : x = 1
    · rw [if_pos c1, if_pos c1]
    · rw [if_neg c1, if_neg c1, c_toa2 hW hv ht hT hp hV hn k1 ha, bnd_s]
/-! the reference's loops over all words -/
theorem m_sen_skip {w : WS} {XM : DM} (hM : PM w XM) (hv : VS w) (n : Nat) (kk : Int32 → Int32 → Int32 → Int32 → Int32 → Option Int32) {s : Nat} (hs : s < 2 ^ 31) (x2 x3 x4 x5 x6 : Int32) : ∀ (j i : Nat), i + j ≤ wK w → (∀ l, i ≤ l → l < i + j → ¬ wsn w l = s) → ∀ fu, fX6_sentence_L33 n XM kk (fu + j) (nI s) x2 x3 x4 x5 x6 (nI i) = fX6_sentence_L33 n XM kk fu (nI s) x2 x3 x4 x5 x6 (nI (i + j)) := by
  have hk := hv.1
  intro j
  induction j with
  | zero => intro i hi hl fu; rfl
  | succ j ih =>
    intro i hi hl fu
    have hle := sn_le hv i
    rw [show fu + (j + 1) = (fu + j) + 1 by omega]
    conv => lhs; unfold fX6_sentence_L33
    rw [hM.1, if_neg (nI_ge (by omega) (by omega)), rd_in _ (by omega) (by omega), bnd_s, (hM.2.2.2 i (by omega)).2.2.2.2.2.1]
    simp only [sl_s, nI_1]
    rw [if_neg (fun q => hl i (by omega) (by omega) ((nI_eq (by omega) (by omega)).mp q)), ih (i + 1) (by omega) (fun l h1 h2 => hl l (by omega) (by omega)) fu, show i + 1 + j = i + (j + 1) by omega]
theorem m_sen_one {w : WS} {XM : DM} {t sp : Nat → Nat} (hM : PM w XM) (hv : VS w) (ht : VT t) (hT : MT t (XM 0)) (hp : VP sp) (hV : MV sp (XM 0)) (n : Nat) (kk : Int32 → Int32 → Int32 → Int32 → Int32 → Option Int32) {s i : Nat} (hi : i < wK w) (hs : wsn w i = s) (x2 x3 x4 : Int32) (p q : Nat) (fu : Nat) : fX6_sentence_L33 n XM kk (fu + 1) (nI s) x2 x3 x4 (nI p) (nI q) (nI i) = fX6_sentence_L33 n XM kk fu (nI s) x2 (if x3 = -1 then nI i else x3) (nI i) (nI (p + wtn w t sp i)) (nI (q + shn w i)) (nI (i + 1)) := by
  have hk := hv.1
  conv => lhs; unfold fX6_sentence_L33
  rw [hM.1, if_neg (nI_ge hi (by omega)), rd_in _ (by omega) (by omega), bnd_s, (hM.2.2.2 i hi).2.2.2.2.2.1, hs]
  simp only [sl_s, nI_1]
  rw [if_pos True.intro]
  simp only [m_timeOf hM hv ht hT hp hV hi, m_isShown hM hv hi, bnd_s, nI_add]
  have e : ∀ (x : Int32), (if (if wkd w i = 3 then (0 : Int32) else 1) = 0 then fX6_sentence_L33 n XM kk fu (nI s) x2 x (nI i) (nI (p + wtn w t sp i)) (nI q + 0) (nI (i + 1)) else fX6_sentence_L33 n XM kk fu (nI s) x2 x (nI i) (nI (p + wtn w t sp i)) (nI (q + 1)) (nI (i + 1))) = fX6_sentence_L33 n XM kk fu (nI s) x2 x (nI i) (nI (p + wtn w t sp i)) (nI (q + shn w i)) (nI (i + 1)) := by
    intro x
    unfold shn
    by_cases c : wkd w i = 3
    · rw [if_pos c, if_pos rfl, if_pos c, lit_n 0, nI_add]
    · rw [if_neg c, if_neg (by decide), if_neg c]
  by_cases c : x3 = -1
  · rw [if_pos c, if_pos c]
    exact e _
  · rw [if_neg c, if_neg c]
    exact e _
theorem m_sen_in {w : WS} {XM : DM} {t sp : Nat → Nat} (hM : PM w XM) (hv : VS w) (ht : VT t) (hT : MT t (XM 0)) (hp : VP sp) (hV : MV sp (XM 0)) (n : Nat) (kk : Int32 → Int32 → Int32 → Int32 → Int32 → Option Int32) {s a : Nat} (haK : a < wK w) (x2 : Int32) : ∀ (j i p q : Nat), i + 1 + j ≤ wK w → (∀ l, i + 1 ≤ l → l < i + 1 + j → wsn w l = s) → ∀ fu, fX6_sentence_L33 n XM kk (fu + j) (nI s) x2 (nI a) (nI i) (nI p) (nI q) (nI (i + 1)) = fX6_sentence_L33 n XM kk fu (nI s) x2 (nI a) (nI (i + j)) (nI (p + smN (wtn w t sp) j (i + 1))) (nI (q + smN (shn w) j (i + 1))) (nI (i + 1 + j)) := by
  have hk := hv.1
  intro j
  induction j with
  | zero => intro i p q hi hl fu; rfl
  | succ j ih =>
    intro i p q hi hl fu
    rw [show fu + (j + 1) = (fu + j) + 1 by omega, m_sen_one hM hv ht hT hp hV n kk (by omega) (hl (i + 1) (by omega) (by omega)), if_neg (nI_ne_m1 (by omega)), ih (i + 1) _ _ (by omega) (fun l h1 h2 => hl l (by omega) (by omega)) fu, smN_s, smN_s, Nat.add_assoc p, Nat.add_assoc q, show i + 1 + j = i + (j + 1) by omega, show i + 1 + 1 + j = i + 1 + (j + 1) by omega]
theorem m_sen {w : WS} {XM : DM} {t sp : Nat → Nat} (hM : PM w XM) (hv : VS w) (ht : VT t) (hT : MT t (XM 0)) (hp : VP sp) (hV : MV sp (XM 0)) {n : Nat} (hn : 200 ≤ n) (kk : Int32 → Int32 → Int32 → Int32 → Int32 → Option Int32) {s a k : Nat} (hs : s < 2 ^ 31) (k1 : 1 ≤ k) (k2 : a + k ≤ wK w) (k3 : ∀ i, i < wK w → (wsn w i = s ↔ a ≤ i ∧ i < a + k)) (x2 : Int32) : fX6_sentence_L33 n XM kk n (nI s) x2 (-1) 0 0 0 0 = kk x2 (nI a) (nI (a + (k - 1))) (nI (smN (wtn w t sp) k a)) (nI (smN (shn w) k a)) := by
  have hk := hv.1
  obtain ⟨z, hz⟩ : ∃ z, wK w = a + k + z := ⟨wK w - (a + k), by omega⟩
  obtain ⟨m, hm⟩ : ∃ m, n = m + 1 + z + (k - 1) + 1 + a := ⟨n - (1 + z + (k - 1) + 1 + a), by omega⟩
  have := m_sen_skip hM hv n kk hs x2 (-1) 0 0 0 a 0 (by omega) (fun l h1 h2 e => by have := (k3 l (by omega)).mp e; omega) (m + 1 + z + (k - 1) + 1)
  rw [← hm] at this
  rw [show fX6_sentence_L33 n XM kk n (nI s) x2 (-1) 0 0 0 0 = _ from this, Nat.zero_add]
  rw [show fX6_sentence_L33 n XM kk (m + 1 + z + (k - 1) + 1) (nI s) x2 (-1) 0 0 0 (nI a) = _ from m_sen_one hM hv ht hT hp hV n kk (by omega) ((k3 a (by omega)).mpr (by omega)) x2 (-1) 0 0 0 (m + 1 + z + (k - 1)), if_pos rfl, Nat.zero_add, Nat.zero_add]
  rw [m_sen_in hM hv ht hT hp hV n kk (by omega) x2 (k - 1) a _ _ (by omega) (fun l h1 h2 => (k3 l (by omega)).mpr (by omega)) (m + 1 + z)]
  rw [m_sen_skip hM hv n kk hs x2 _ _ _ _ z _ (by omega) (fun l h1 h2 e => by have := (k3 l (by omega)).mp e; omega) (m + 1)]
  unfold fX6_sentence_L33
  rw [hM.1, if_pos (nI_le (by omega) (by omega)), ← smN_s, ← smN_s, show k - 1 + 1 = k by omega]
theorem ok_sentence {n : Nat} (hn : 1400 ≤ n) : OK_sentence n INV := by
  intro XF XN XA XW XP XQ XO XH XM a0 a1 hI
  have hI' := hI
  obtain ⟨⟨T, L, hR, hW, hM⟩, hO, hH⟩ := hI
  obtain ⟨h1, h2, h3, h4, ⟨t, sp, j, r, t1, t2, t3, t4⟩, -, -, h13, h14⟩ := hR
  have hv := wsOf_VS (T := T) h1
  have hk := hv.1
  have hnS := nS_le hv
  unfold fX5_sentence fX6_sentence fX6_isSentence
  rw [hM.2.1, m_in, bnd_s, bnd_s, c_has2 (N := wnS (wsOf T L)) hW.2.2.1.1, bnd_s]
  by_cases c : ∃ a, a < wnS (wsOf T L) ∧ a0 = nI a
  · obtain ⟨s, hs, rfl⟩ := c
    have e1 : ¬ (nI s < 0 ∨ nI (wnS (wsOf T L)) ≤ nI s) := by rw [rng2 hnS]; exact fun q => q ⟨s, hs, rfl⟩
    have e2 : ¬ (nI s < 0 ∨ nI (wnS (wsOf T L)) - 1 < nI s) := by rw [rng hnS]; exact fun q => q ⟨s, hs, rfl⟩
    rw [if_neg e1, if_neg e2, if_neg (show ¬ (1 : Int32) = 0 from by decide), if_neg (show ¬ (1 : Int32) = 0 from by decide), m_in, bnd_s]
    by_cases c1 : a1 < 0
    · rw [if_pos c1, if_pos (Or.inl c1), if_pos rfl]
      exact ⟨-1, rfl, rfl, hI'⟩
    · rw [if_neg c1]
      obtain ⟨b, hb, rfl⟩ := nI_of c1
      by_cases c2 : nI b < 4
      · have b4 : b < 4 := (lt_l2 (a := b) (k := 4) hb (by decide)).mp c2
        have e3 : ¬ (nI b < 0 ∨ 3 < nI b) := fun q => q.elim c1 (fun z => by rw [lt_l1 (k := 3) (a := b) (by decide) hb] at z; omega)
        obtain ⟨a, k, k1, k2, k3⟩ := sn_str hv hs
        obtain ⟨f1, f2⟩ := str_first hW.2.2.1 k1 k2 k3
        rw [if_pos c2, if_neg e3, if_neg (show ¬ (1 : Int32) = 0 from by decide), at_in _ (by omega) (by omega), bnd_s, at_in _ (by omega) (by omega), bnd_s, f1, f2, c_sha hW hv (by omega) k1 k2, bnd_s, c_spanP hW hv t1 t2 t4.1 t4.2.1 (show 200 ≤ n by omega) k1 k2, bnd_s]
        simp only [sl_s]
        rw [m_sen hM hv t1 t3 t4.1 t4.2.2.1 (show 200 ≤ n by omega) _ (by omega) k1 k2 k3]
        by_cases d3 : nI b = 3
        · have hb3 : b = 3 := (eq_l (a := b) (k := 3) hb (by decide)).mp d3
          subst hb3
          rw [if_pos d3, if_neg (show ¬ nI 3 = (0 : Int32) from by decide), if_neg (show ¬ nI 3 = (1 : Int32) from by decide), if_neg (show ¬ nI 3 = (2 : Int32) from by decide)]
          exact ⟨_, rfl, rfl, hI'⟩
        rw [if_neg d3]
        by_cases d0 : nI b = 0
        · rw [if_pos d0, if_pos d0]
          exact ⟨_, rfl, rfl, hI'⟩
        rw [if_neg d0, if_neg d0]
        by_cases d1 : nI b = 1
        · rw [if_pos d1, if_pos d1]
          exact ⟨_, rfl, rfl, hI'⟩
        have hb2 : b = 2 := by
          have g0 : ¬ b = 0 := fun e => d0 (by rw [e]; rfl)
          have g1 : ¬ b = 1 := fun e => d1 (by rw [e]; rfl)
          have g3 : ¬ b = 3 := fun e => d3 (by rw [e]; rfl)
          omega
        subst hb2
        rw [if_neg d1, if_neg d1, if_pos (show nI 2 = (2 : Int32) from rfl)]
        exact ⟨_, rfl, rfl, hI'⟩
      · rw [if_neg c2, if_pos (Or.inr (by
          rw [lt_l1 (k := 3) (a := b) (by decide) hb]
          have : ¬ b < 4 := fun e => c2 ((lt_l2 (a := b) (k := 4) hb (by decide)).mpr e)
          omega)), if_pos rfl]
        exact ⟨-1, rfl, rfl, hI'⟩
  · have e1 : a0 < 0 ∨ nI (wnS (wsOf T L)) ≤ a0 := by rw [rng2 hnS]; exact c
    have e2 : a0 < 0 ∨ nI (wnS (wsOf T L)) - 1 < a0 := by rw [rng hnS]; exact c
    rw [if_pos e1, if_pos e2, if_pos rfl, if_pos rfl]
    exact ⟨-1, rfl, rfl, hI'⟩
