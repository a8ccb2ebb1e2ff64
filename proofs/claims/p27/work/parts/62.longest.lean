/-! longest -/
theorem wtn_le {w : WS} {t sp : Nat → Nat} {i : Nat} (hv : VS w) (ht : VT t) (hp : VP sp) (hi : i < wK w) : wtn w t sp i ≤ 186000 := by
  have h2 := wcl_le w i
  exact wtm_le hv ht hi (hp _ (by omega)).1
def rkN (w : WS) (t sp : Nat → Nat) (i j : Nat) : Nat := if wtn w t sp i < wtn w t sp j ∨ (wtn w t sp j = wtn w t sp i ∧ j < i) then 1 else 0
theorem rk_mark {w : WS} {t sp : Nat → Nat} {i j : Nat} (hv : VS w) (ht : VT t) (hp : VP sp) (hi : i < wK w) (h : ¬ wkd w i = 3) (hj : wkd w j = 3) : rkN w t sp i j = 0 := by
  have h2 := wcl_le w i
  obtain ⟨a, b⟩ := hp (wcl w i) (by omega)
  have h1 := wtm_pos hv ht hi (show 1 ≤ sp (wcl w i) by omega) h
  have h0 : wtn w t sp j = 0 := by unfold wtn wtm; rw [if_pos hj]
  unfold rkN
  rw [if_neg]
  rw [h0]
  unfold wtn
  omega
theorem c_rank_L {w : WS} {XF XW XP XQ : DM} {t sp : Nat → Nat} (hW : PW w XW XP XQ) (hv : VS w) (ht : VT t) (hp : VP sp) (hF : ∀ l, l < wK w → XF 5 l = nI (wtn w t sp l)) (n : Nat) {i : Nat} (hi : i < wK w) : ∀ (k a acc : Nat), a + k = wK w → ∀ fu, k < fu → fX5_rankOf_L14 n XF XW fu (nI i) (nI (wtn w t sp i)) (nI acc) (nI a) = some (nI (acc + smN (rkN w t sp i) k a)) := by
  have hk := hv.1
  intro k
  induction k with
  | zero =>
    intro a acc ha fu hfu
    obtain ⟨fu, rfl⟩ : ∃ z, fu = z + 1 := ⟨fu - 1, by omega⟩
    unfold fX5_rankOf_L14
    rw [hW.1, if_pos (nI_le (by omega) (by omega))]
    rfl
  | succ k ih =>
    intro a acc ha fu hfu
    obtain ⟨fu, rfl⟩ : ∃ z, fu = z + 1 := ⟨fu - 1, by omega⟩
    have g1 := wtn_le hv ht hp (show a < wK w by omega)
    have g2 := wtn_le hv ht hp hi
    unfold fX5_rankOf_L14
    rw [hW.1, if_neg (nI_ge (by omega) (by omega)), at_in _ (by omega) (by omega), bnd_s, hF a (by omega), smN_s]
    simp only [sl_s, nI_1]
    have up := ih (a + 1) (acc + 1) (by omega) fu (by omega)
    have st := ih (a + 1) acc (by omega) fu (by omega)
    by_cases c : wtn w t sp i < wtn w t sp a
    · rw [if_pos ((nI_ltI (by omega) (by omega)).mpr c), up, show rkN w t sp i a = 1 from if_pos (Or.inl c), Nat.add_assoc]
    · rw [if_neg (fun e => c ((nI_ltI (by omega) (by omega)).mp e))]
      by_cases c2 : wtn w t sp a = wtn w t sp i
      · rw [if_pos (by rw [c2])]
        by_cases c3 : a < i
        · rw [if_neg (nI_ge (by omega) (by omega)), up, show rkN w t sp i a = 1 from if_pos (Or.inr ⟨c2, c3⟩), Nat.add_assoc]
        · rw [if_pos (nI_le (by omega) (by omega)), st, show rkN w t sp i a = 0 from if_neg (by omega), Nat.zero_add]
      · rw [if_neg (fun e => c2 ((nI_eq (by omega) (by omega)).mp e)), st, show rkN w t sp i a = 0 from if_neg (by omega), Nat.zero_add]
theorem m_rank_L {w : WS} {XM : DM} {t sp : Nat → Nat} (hM : PM w XM) (hv : VS w) (ht : VT t) (hT : MT t (XM 0)) (hp : VP sp) (hV : MV sp (XM 0)) (n : Nat) (kk : Int32 → Int32 → Int32 → Option Int32) (x1 : Int32) {i : Nat} (hi : i < wK w) (hsh : ¬ wkd w i = 3) : ∀ (k a acc : Nat), a + k = wK w → ∀ fu, k < fu → fX6_longest_L21 n XM kk fu x1 (nI i) (nI acc) (nI a) = kk x1 (nI i) (nI (acc + smN (rkN w t sp i) k a)) := by
  have hk := hv.1
  intro k
  induction k with
  | zero =>
    intro a acc ha fu hfu
    obtain ⟨fu, rfl⟩ : ∃ z, fu = z + 1 := ⟨fu - 1, by omega⟩
    unfold fX6_longest_L21
    rw [hM.1, if_pos (nI_le (by omega) (by omega))]
    rfl
  | succ k ih =>
    intro a acc ha fu hfu
    obtain ⟨fu, rfl⟩ : ∃ z, fu = z + 1 := ⟨fu - 1, by omega⟩
    have g1 := wtn_le hv ht hp (show a < wK w by omega)
    have g2 := wtn_le hv ht hp hi
    unfold fX6_longest_L21
    rw [hM.1, if_neg (nI_ge (by omega) (by omega)), m_isShown hM hv (show a < wK w by omega), bnd_s, smN_s]
    simp only [sl_s, nI_1, m_timeOf hM hv ht hT hp hV (show a < wK w by omega), m_timeOf hM hv ht hT hp hV hi, bnd_s]
    have up := ih (a + 1) (acc + 1) (by omega) fu (by omega)
    have st := ih (a + 1) acc (by omega) fu (by omega)
    have st0 : fX6_longest_L21 n XM kk fu x1 (nI i) (nI acc + 0) (nI (a + 1)) = kk x1 (nI i) (nI (acc + smN (rkN w t sp i) k (a + 1))) := by
      rw [lit_n 0, nI_add]
      exact st
    by_cases cm : wkd w a = 3
    · rw [if_pos cm, if_pos rfl, st0, rk_mark hv ht hp hi hsh cm, Nat.zero_add]
    rw [if_neg cm, if_neg (show ¬ (1 : Int32) = 0 from by decide)]
    by_cases c : wtn w t sp i < wtn w t sp a
    · rw [if_pos ((nI_ltI (by omega) (by omega)).mpr c), up, show rkN w t sp i a = 1 from if_pos (Or.inl c), Nat.add_assoc]
    · rw [if_neg (fun e => c ((nI_ltI (by omega) (by omega)).mp e))]
      by_cases c2 : wtn w t sp a = wtn w t sp i
      · rw [if_pos (by rw [c2])]
        by_cases c3 : a < i
        · rw [if_neg (nI_ge (by omega) (by omega)), up, show rkN w t sp i a = 1 from if_pos (Or.inr ⟨c2, c3⟩), Nat.add_assoc]
        · rw [if_pos (nI_le (by omega) (by omega)), st0, show rkN w t sp i a = 0 from if_neg (by omega), Nat.zero_add]
      · rw [if_neg (fun e => c2 ((nI_eq (by omega) (by omega)).mp e)), st0, show rkN w t sp i a = 0 from if_neg (by omega), Nat.zero_add]
theorem m_rank_any {w : WS} {XM : DM} {t sp : Nat → Nat} (hM : PM w XM) (hv : VS w) (ht : VT t) (hT : MT t (XM 0)) (hp : VP sp) (hV : MV sp (XM 0)) (n : Nat) (kk : Int32 → Int32 → Int32 → Option Int32) (x1 : Int32) {i : Nat} (hi : i < wK w) : ∀ (k a : Nat) (acc : Int32), a + k = wK w → ∀ fu, k < fu → ∃ c, fX6_longest_L21 n XM kk fu x1 (nI i) acc (nI a) = kk x1 (nI i) c := by
  have hk := hv.1
  intro k
  induction k with
  | zero =>
    intro a acc ha fu hfu
    obtain ⟨fu, rfl⟩ : ∃ z, fu = z + 1 := ⟨fu - 1, by omega⟩
    unfold fX6_longest_L21
    rw [hM.1, if_pos (nI_le (by omega) (by omega))]
    exact ⟨_, rfl⟩
  | succ k ih =>
    intro a acc ha fu hfu
    obtain ⟨fu, rfl⟩ : ∃ z, fu = z + 1 := ⟨fu - 1, by omega⟩
    unfold fX6_longest_L21
    rw [hM.1, if_neg (nI_ge (by omega) (by omega)), m_isShown hM hv (show a < wK w by omega), bnd_s]
    simp only [sl_s, nI_1, m_timeOf hM hv ht hT hp hV (show a < wK w by omega), m_timeOf hM hv ht hT hp hV hi, bnd_s]
    have st := fun z => ih (a + 1) z (by omega) fu (by omega)
    by_cases cm : (if wkd w a = 3 then (0 : Int32) else 1) = 0
    · rw [if_pos cm]; exact st _
    rw [if_neg cm]
    by_cases c : nI (wtn w t sp i) < nI (wtn w t sp a)
    · rw [if_pos c]; exact st _
    rw [if_neg c]
    by_cases c2 : nI (wtn w t sp a) = nI (wtn w t sp i)
    · rw [if_pos c2]
      by_cases c3 : nI i ≤ nI a
      · rw [if_pos c3]; exact st _
      · rw [if_neg c3]; exact st _
    · rw [if_neg c2]; exact st _
theorem longJ {w : WS} {XF XN XW XP XQ XM : DM} {t sp : Nat → Nat} (hW : PW w XW XP XQ) (hM : PM w XM) (hv : VS w) (ht : VT t) (hT : MT t (XM 0)) (hp : VP sp) (hV : MV sp (XM 0)) (hF : ∀ l, l < wK w → XF 5 l = nI (wtn w t sp l)) {n : Nat} (hn : 200 ≤ n) (x : Int32) : ∀ (k i : Nat), i + k = wK w → ∀ fu fm, k < fu → k < fm → ∃ r, fX5_longest_L43 n XN XW fu x (nI i) XF = some (r, XF) ∧ fX6_longest_L8 n XM fm x (nI i) = some r := by
  have hk := hv.1
  intro k
  induction k with
  | zero =>
    intro i hi fu fm hfu hfm
    obtain ⟨fu, rfl⟩ : ∃ z, fu = z + 1 := ⟨fu - 1, by omega⟩
    obtain ⟨fm, rfl⟩ : ∃ z, fm = z + 1 := ⟨fm - 1, by omega⟩
    unfold fX5_longest_L43 fX6_longest_L8
    rw [hW.1, hM.1, if_pos (nI_le (by omega) (by omega)), if_pos (nI_le (by omega) (by omega))]
    exact ⟨_, rfl, rfl⟩
  | succ k ih =>
    intro i hi fu fm hfu hfm
    obtain ⟨fu, rfl⟩ : ∃ z, fu = z + 1 := ⟨fu - 1, by omega⟩
    obtain ⟨fm, rfl⟩ : ∃ z, fm = z + 1 := ⟨fm - 1, by omega⟩
    have hiK : i < wK w := by omega
    have nxt := ih (i + 1) (by omega) fu fm (by omega) (by omega)
    unfold fX5_longest_L43 fX6_longest_L8
    rw [hW.1, hM.1, if_neg (nI_ge (by omega) (by omega)), if_neg (nI_ge (by omega) (by omega)), isMark_ok hW hv hiK, bnd_s]
    simp only [sl_s, nI_1]
    by_cases c : wkd w i = 3
    · obtain ⟨z, hz⟩ := m_rank_any hM hv ht hT hp hV n (fun (x1 : Int32) (x2 : Int32) (x3 : Int32) => bnd (fX6_isShown XM x2) fun r3 => if r3 = 0 then fX6_longest_L8 n XM fm x1 (x2 + 1) else if x3 = x1 then some x2 else fX6_longest_L8 n XM fm x1 (x2 + 1)) x hiK (wK w) 0 0 (by omega) n (by omega)
      rw [if_pos c, if_neg (show ¬ (1 : Int32) = 0 from by decide)]
      obtain ⟨r, r1, r2⟩ := nxt
      refine ⟨r, r1, ?_⟩
      refine Eq.trans hz ?_
      try dsimp only
      rw [m_isShown hM hv hiK, bnd_s, if_pos c, if_pos rfl, nI_1]
      exact r2
    · have hz := m_rank_L hM hv ht hT hp hV n (fun (x1 : Int32) (x2 : Int32) (x3 : Int32) => bnd (fX6_isShown XM x2) fun r3 => if r3 = 0 then fX6_longest_L8 n XM fm x1 (x2 + 1) else if x3 = x1 then some x2 else fX6_longest_L8 n XM fm x1 (x2 + 1)) x hiK c (wK w) 0 0 (by omega) n (by omega)
      have hc : fX5_rankOf n XF XW (nI i) = some (nI (0 + smN (rkN w t sp i) (wK w) 0)) := by
        unfold fX5_rankOf
        rw [at_in _ (by omega) (by omega), bnd_s, hF i hiK]
        exact c_rank_L hW hv ht hp hF n hiK (wK w) 0 0 (by omega) n (by omega)
      rw [if_neg c, if_pos rfl, hc, bnd_s]
      by_cases cx : nI (0 + smN (rkN w t sp i) (wK w) 0) = x
      · rw [if_pos cx]
        refine ⟨_, rfl, ?_⟩
        refine Eq.trans hz ?_
        try dsimp only
        rw [m_isShown hM hv hiK, bnd_s, if_neg c, if_neg (show ¬ (1 : Int32) = 0 from by decide), if_pos cx]
      · rw [if_neg cx]
        obtain ⟨r, r1, r2⟩ := nxt
        refine ⟨r, r1, ?_⟩
        refine Eq.trans hz ?_
        try dsimp only
        rw [m_isShown hM hv hiK, bnd_s, if_neg c, if_neg (show ¬ (1 : Int32) = 0 from by decide), if_neg cx, nI_1]
        exact r2
theorem c_fill_L {w : WS} {XN XW XP XQ : DM} {t sp : Nat → Nat} (hW : PW w XW XP XQ) (hv : VS w) (ht : VT t) (hT : PT t (XN 3)) (hp : VP sp) (hV : PV sp (XN 4)) (n : Nat) (kk : Int32 → DM → Option (Int32 × DM)) (x : Int32) : ∀ (k i : Nat), i + k = wK w → ∀ fu, k < fu → ∀ XF : DM, (∀ l, l < i → XF 5 l = nI (wtn w t sp l)) → ∃ YF, fX5_longest_L8 n XN XW kk fu x (nI i) XF = kk x YF ∧ ∀ l, l < wK w → YF 5 l = nI (wtn w t sp l) := by
  have hk := hv.1
  intro k
  induction k with
  | zero =>
    intro i hi fu hfu XF hF
    obtain ⟨fu, rfl⟩ : ∃ z, fu = z + 1 := ⟨fu - 1, by omega⟩
    unfold fX5_longest_L8
    rw [hW.1, if_pos (nI_le (by omega) (by omega))]
    exact ⟨XF, rfl, fun l hl => hF l (by omega)⟩
  | succ k ih =>
    intro i hi fu hfu XF hF
    obtain ⟨fu, rfl⟩ : ∃ z, fu = z + 1 := ⟨fu - 1, by omega⟩
    unfold fX5_longest_L8
    rw [hW.1, if_neg (nI_ge (by omega) (by omega)), timeOf_ok hW hv ht hT hp hV (show i < wK w by omega), bnd_s, put_in _ _ (by omega) (by omega), bnd_s, sl_s, sl_s, nI_1]
    refine ih (i + 1) (by omega) fu (by omega) _ (fun l hl => ?_)
    rw [up_eq]
    by_cases c : l = i
    · subst c; rw [u_eq]
    · rw [u_ne _ _ c]
      exact hF l (by omega)
theorem ok_longest {n : Nat} (hn : 1400 ≤ n) : OK_longest n INV := by
  intro XF XN XA XW XP XQ XO XH XM a0 hI
  have hI' := hI
  obtain ⟨⟨T, L, hR, hW, hM⟩, hO, hH⟩ := hI
  obtain ⟨h1, h2, h3, h4, ⟨t, sp, j, r, t1, t2, t3, t4⟩, -, -, h13, h14⟩ := hR
  have hv := wsOf_VS (T := T) h1
  have hk := hv.1
  unfold fX5_longest fX6_longest
  by_cases c : 0 ≤ a0
  · rw [if_pos c, if_pos c, sl_s]
    obtain ⟨YF, y1, y2⟩ := c_fill_L hW hv t1 t2 t4.1 t4.2.1 n (fun (x1 : Int32) (XF : DM) => fX5_longest_L43 n XN XW n x1 0 XF) a0 (wK (wsOf T L)) 0 (by omega) n (by omega) XF (fun l hl => absurd hl (Nat.not_lt_zero _))
    obtain ⟨r, r1, r2⟩ := longJ (XF := YF) (XN := XN) hW hM hv t1 t3 t4.1 t4.2.2.1 y2 (show 200 ≤ n by omega) a0 (wK (wsOf T L)) 0 (by omega) n n (by omega) (by omega)
    exact ⟨r, YF, Eq.trans y1 r1, r2, hI'⟩
  · rw [if_neg c, if_neg c]
    exact ⟨_, XF, rfl, rfl, hI'⟩
