/-! speedFor -/
theorem smN_add (f : Nat → Nat) : ∀ (k m a : Nat), smN f (k + m) a = smN f k a + smN f m (a + k) := by
  intro k
  induction k with
  | zero => intro m a; rw [Nat.zero_add, Nat.add_zero]; exact (Nat.zero_add _).symm
  | succ k ih => intro m a; rw [show k + 1 + m = (k + m) + 1 by omega, smN_s, smN_s, ih, show a + 1 + k = a + (k + 1) by omega, Nat.add_assoc]
theorem smN_cg {f g : Nat → Nat} : ∀ (k a : Nat), (∀ i, a ≤ i → i < a + k → f i = g i) → smN f k a = smN g k a := by
  intro k
  induction k with
  | zero => intro a h; rfl
  | succ k ih => intro a h; rw [smN_s, smN_s, h a (by omega) (by omega), ih (a + 1) (fun i h1 h2 => h i (by omega) (by omega))]
theorem smN_mono {f g : Nat → Nat} : ∀ (k a : Nat), (∀ i, a ≤ i → i < a + k → f i ≤ g i) → smN f k a ≤ smN g k a := by
  intro k
  induction k with
  | zero => intro a h; exact Nat.le_refl _
  | succ k ih => intro a h; rw [smN_s, smN_s]; exact Nat.add_le_add (h a (by omega) (by omega)) (ih (a + 1) (fun i h1 h2 => h i (by omega) (by omega)))
theorem smN_0 {f : Nat → Nat} : ∀ (k a : Nat), (∀ i, a ≤ i → i < a + k → f i = 0) → smN f k a = 0 := by
  intro k
  induction k with
  | zero => intro a h; rfl
  | succ k ih => intro a h; rw [smN_s, h a (by omega) (by omega), ih (a + 1) (fun i h1 h2 => h i (by omega) (by omega))]
theorem smN_le {f : Nat → Nat} {C : Nat} : ∀ (k a : Nat), (∀ i, a ≤ i → i < a + k → f i ≤ C) → smN f k a ≤ k * C := by
  intro k
  induction k with
  | zero => intro a h; exact Nat.zero_le _
  | succ k ih => intro a h; rw [smN_s, Nat.succ_mul, Nat.add_comm]; exact Nat.add_le_add (ih (a + 1) (fun i h1 h2 => h i (by omega) (by omega))) (h a (by omega) (by omega))
theorem smN_str {f : Nat → Nat} {no : Nat → Nat} {s a k K : Nat} (k2 : a + k ≤ K) (k3 : ∀ i, i < K → (no i = s ↔ a ≤ i ∧ i < a + k)) : smN (fun i => if no i = s then f i else 0) K 0 = smN f k a := by
  obtain ⟨z, rfl⟩ : ∃ z, K = a + (k + z) := ⟨K - (a + k), by omega⟩
  rw [smN_add, smN_add, smN_0 a 0 (fun i h1 h2 => if_neg (fun e => by have := (k3 i (by omega)).mp e; omega)), smN_0 z _ (fun i h1 h2 => if_neg (fun e => by have := (k3 i (by omega)).mp e; omega)), Nat.zero_add, Nat.zero_add, Nat.add_zero]
  exact smN_cg k a (fun i h1 h2 => if_pos ((k3 i (by omega)).mpr ⟨h1, h2⟩))
theorem wtm_anti {w : WS} {t : Nat → Nat} {i v v' : Nat} (hv : VS w) (ht : VT t) (hi : i < wK w) (h1 : 1 ≤ v) (h2 : v ≤ v') : wtm w t i v' ≤ wtm w t i v := by
  have hP := (wpr_le hv ht hi).1
  unfold wtm
  by_cases c : wkd w i = 3
  · rw [if_pos c, if_pos c]; exact Nat.le_refl _
  · rw [if_neg c, if_neg c]
    generalize wms w t i * t 0 * wpc w t i = P at hP ⊢
    generalize hq : (P + v - 1) / v = q
    have g1 : P + v - 1 < (q + 1) * v := by rw [← Nat.div_lt_iff_lt_mul (by omega), hq]; omega
    rw [Nat.succ_mul] at g1
    have g2 : q * v ≤ q * v' := Nat.mul_le_mul_left _ h2
    have g3 : (P + v' - 1) / v' < q + 1 := by
      rw [Nat.div_lt_iff_lt_mul (by omega), Nat.succ_mul]
      omega
    omega
/-- the time of a stretch at a speed -/
def stm (w : WS) (t : Nat → Nat) (k a v : Nat) : Nat := smN (fun i => wtm w t i v) k a
theorem stm_anti {w : WS} {t : Nat → Nat} {k a v v' : Nat} (hv : VS w) (ht : VT t) (hk : a + k ≤ wK w) (h1 : 1 ≤ v) (h2 : v ≤ v') : stm w t k a v' ≤ stm w t k a v := smN_mono k a (fun i _ hi => wtm_anti hv ht (by omega) h1 h2)
theorem stm_le {w : WS} {t : Nat → Nat} {k a v : Nat} (hv : VS w) (ht : VT t) (hk : a + k ≤ wK w) (h1 : 50 ≤ v) : stm w t k a v ≤ 27900000 := by
  have := smN_le (f := fun i => wtm w t i v) (C := 186000) k a (fun i _ hi => wtm_le hv ht (by omega) h1)
  have hK := hv.1
  have : k * 186000 ≤ 150 * 186000 := Nat.mul_le_mul_right _ (by omega)
  unfold stm
  omega
theorem c_tow_L {w : WS} {S XW XP XQ : DM} {t : Nat → Nat} (hW : PW w XW XP XQ) (hv : VS w) (ht : VT t) (hT : PT t (S 3)) (n : Nat) {v b : Nat} (v1 : 1 ≤ v) (v2 : v ≤ 400) (hb : b < wK w) : ∀ (k a acc : Nat), a + k = b + 1 → ∀ fu, k < fu → fX3_timeOfAllWith_L6 n S XW fu (nI b) (nI v) (nI acc) (nI a) = some (nI (acc + stm w t k a v)) := by
  have hk := hv.1
  intro k
  induction k with
  | zero =>
    intro a acc ha fu hfu
    obtain ⟨fu, rfl⟩ : ∃ z, fu = z + 1 := ⟨fu - 1, by omega⟩
    unfold fX3_timeOfAllWith_L6
    rw [if_pos (nI_lt (by omega) (by omega))]
    rfl
  | succ k ih =>
    intro a acc ha fu hfu
    obtain ⟨fu, rfl⟩ : ∃ z, fu = z + 1 := ⟨fu - 1, by omega⟩
    unfold fX3_timeOfAllWith_L6
    rw [if_neg (nI_nlt (by omega) (by omega)), timeWith_ok hW hv ht hT (show a < wK w by omega) v1 v2, bnd_s, sl_s, sl_s, nI_add, nI_1, ih (a + 1) _ (by omega) fu (by omega)]
    unfold stm
    rw [smN_s, Nat.add_assoc]
theorem c_tow {w : WS} {S XW XP XQ : DM} {t : Nat → Nat} (hW : PW w XW XP XQ) (hv : VS w) (ht : VT t) (hT : PT t (S 3)) {n : Nat} (hn : 200 ≤ n) {v a k : Nat} (v1 : 1 ≤ v) (v2 : v ≤ 400) (k1 : 1 ≤ k) (k2 : a + k ≤ wK w) : fX3_timeOfAllWith n S XW (nI a) (nI (a + (k - 1))) (nI v) = some (nI (stm w t k a v)) := by
  have hk := hv.1
  have := c_tow_L hW hv ht hT n (b := a + (k - 1)) v1 v2 (by omega) k a 0 (by omega) n (by omega)
  rw [Nat.zero_add] at this
  exact this
theorem c_bin {w : WS} {S XF XW XP XQ : DM} {t : Nat → Nat} (hW : PW w XW XP XQ) (hv : VS w) (ht : VT t) (hT : PT t (S 3)) {n : Nat} (hn : 200 ≤ n) {a k B : Nat} (k1 : 1 ≤ k) (k2 : a + k ≤ wK w) (hB : B < 2 ^ 31) : ∀ (j lo hi : Nat), j ≤ 9 → lo ≤ hi → hi - lo < 2 ^ j → 50 ≤ lo → hi ≤ 400 → stm w t k a hi ≤ B → (∀ v, 50 ≤ v → v < lo → B < stm w t k a v) → ∀ fu, j < fu → ∃ r, 50 ≤ r ∧ r ≤ 400 ∧ stm w t k a r ≤ B ∧ (∀ v, 50 ≤ v → v < r → B < stm w t k a v) ∧ fX5_speedFor_L89 n XF S XW XQ fu (nI B) (nI a) (nI (a + (k - 1))) (nI lo) (nI hi) (nI (9 - j)) = some (nI r) := by
  intro j
  induction j with
  | zero =>
    intro lo hi h1 h2 h3 h4 h5 h6 h7 fu hfu
    obtain ⟨fu, rfl⟩ : ∃ z, fu = z + 1 := ⟨fu - 1, by omega⟩
    have e : lo = hi := by rw [Nat.pow_zero] at h3; omega
    subst e
    refine ⟨lo, h4, h5, h6, h7, ?_⟩
    unfold fX5_speedFor_L89
    rw [if_pos (show (9 : Int32) ≤ nI (9 - 0) from by decide)]
  | succ j ih =>
    intro lo hi h1 h2 h3 h4 h5 h6 h7 fu hfu
    obtain ⟨fu, rfl⟩ : ∃ z, fu = z + 1 := ⟨fu - 1, by omega⟩
    unfold fX5_speedFor_L89
    rw [if_neg (fun e => absurd ((le_l1 (k := 9) (a := 9 - (j + 1)) (by omega) (by omega)).mp e) (by omega))]
    by_cases c : hi ≤ lo
    · have e : lo = hi := by omega
      subst e
      exact ⟨lo, h4, h5, h6, h7, by rw [if_pos (nI_le (Nat.le_refl _) (by omega))]⟩
    · rw [if_neg (nI_ge (by omega) (by omega)), nI_add, lit_n 2, n_div (by omega) (by omega) (by omega), bnd_s]
      have m1 : lo ≤ (lo + hi) / 2 := by omega
      have m2 : (lo + hi) / 2 < hi := by omega
      have hle := stm_le (k := k) (a := a) (v := (lo + hi) / 2) hv ht k2 (by omega)
      rw [c_tow hW hv ht hT hn (by omega) (by omega) k1 k2, bnd_s]
      simp only [sl_s, nI_1]
      rw [Nat.pow_succ] at h3
      rw [show 9 - (j + 1) + 1 = 9 - j by omega]
      by_cases c2 : B < stm w t k a ((lo + hi) / 2)
      · rw [if_pos ((nI_ltI (by omega) (by omega)).mpr c2)]
        refine ih ((lo + hi) / 2 + 1) hi (by omega) (by omega) (by omega) (by omega) h5 h6 (fun v v1 v2 => ?_) fu (by omega)
        have := stm_anti (k := k) (a := a) (v := v) (v' := (lo + hi) / 2) hv ht k2 (by omega) (by omega)
        omega
      · rw [if_neg (fun e => c2 ((nI_ltI (by omega) (by omega)).mp e))]
        exact ih lo ((lo + hi) / 2) (by omega) (by omega) (by omega) h4 (by omega) (by omega) h7 fu (by omega)
theorem m_sf_L {w : WS} {XM : DM} {t : Nat → Nat} (hM : PM w XM) (hv : VS w) (ht : VT t) (hT : MT t (XM 0)) (n : Nat) (kk : Int32 → Int32 → Int32 → Int32 → Option Int32) {s v : Nat} (hs : s < 2 ^ 31) (v1 : 1 ≤ v) (v2 : v ≤ 400) (x2 : Int32) : ∀ (k a acc : Nat), a + k = wK w → ∀ fu, k < fu → fX6_speedFor_L36 n XM kk fu (nI s) x2 (nI v) (nI acc) (nI a) = kk (nI s) x2 (nI v) (nI (acc + smN (fun i => if wpg w i = s then wtm w t i v else 0) k a)) := by
  have hk := hv.1
  intro k
  induction k with
  | zero =>
    intro a acc ha fu hfu
    obtain ⟨fu, rfl⟩ : ∃ z, fu = z + 1 := ⟨fu - 1, by omega⟩
    unfold fX6_speedFor_L36
    rw [hM.1, if_pos (nI_le (by omega) (by omega))]
    rfl
  | succ k ih =>
    intro a acc ha fu hfu
    obtain ⟨fu, rfl⟩ : ∃ z, fu = z + 1 := ⟨fu - 1, by omega⟩
    have hle := pg_le hv a
    unfold fX6_speedFor_L36
    rw [hM.1, if_neg (nI_ge (by omega) (by omega)), rd_in _ (by omega) (by omega), bnd_s, (hM.2.2.2 a (by omega)).2.2.2.2.2.2, smN_s]
    simp only [sl_s, nI_1]
    by_cases c : wpg w a = s
    · rw [if_pos (by rw [c]), m_timeBy hM hv ht hT (show a < wK w by omega) v1 v2, bnd_s, nI_add, ih (a + 1) _ (by omega) fu (by omega), if_pos c, Nat.add_assoc]
    · rw [if_neg (fun e => c ((nI_eq (by omega) (by omega)).mp e)), lit_n 0, nI_add, ih (a + 1) _ (by omega) fu (by omega), if_neg c, Nat.zero_add, Nat.add_zero]
theorem m_sf {w : WS} {XM : DM} {t : Nat → Nat} (hM : PM w XM) (hv : VS w) (ht : VT t) (hT : MT t (XM 0)) {n : Nat} (hn : 200 ≤ n) (kk : Int32 → Int32 → Int32 → Int32 → Option Int32) {s v a k : Nat} (hs : s < 2 ^ 31) (k2 : a + k ≤ wK w) (k3 : ∀ i, i < wK w → (wpg w i = s ↔ a ≤ i ∧ i < a + k)) (v1 : 1 ≤ v) (v2 : v ≤ 400) (x2 : Int32) : fX6_speedFor_L36 n XM kk n (nI s) x2 (nI v) 0 0 = kk (nI s) x2 (nI v) (nI (stm w t k a v)) := by
  have hk := hv.1
  have := m_sf_L hM hv ht hT n kk hs v1 v2 x2 (wK w) 0 0 (by omega) n (by omega)
  rw [Nat.zero_add, smN_str k2 k3] at this
  exact this
theorem m_lin_step {w : WS} {XM : DM} {t : Nat → Nat} (hM : PM w XM) (hv : VS w) (ht : VT t) (hT : MT t (XM 0)) {n : Nat} (hn : 200 ≤ n) {s v a k B : Nat} (hs : s < 2 ^ 31) (hB : B < 2 ^ 31) (k2 : a + k ≤ wK w) (k3 : ∀ i, i < wK w → (wpg w i = s ↔ a ≤ i ∧ i < a + k)) (v1 : 50 ≤ v) (v2 : v ≤ 400) (fu : Nat) : fX6_speedFor_L23 n XM (fu + 1) (nI s) (nI B) (nI v) = if B < stm w t k a v then fX6_speedFor_L23 n XM fu (nI s) (nI B) (nI (v + 1)) else some (nI v) := by
  have hle := stm_le (k := k) (a := a) (v := v) hv ht k2 v1
  conv => lhs; unfold fX6_speedFor_L23
  rw [if_neg (fun e => absurd ((lt_l1 (k := 400) (a := v) (by omega) (by omega)).mp e) (by omega)), sl_s, m_sf hM hv ht hT hn _ hs k2 k3 (by omega) v2]
  simp only [sl_s, nI_1]
  by_cases c : B < stm w t k a v
  · rw [if_pos c, if_pos ((nI_ltI (by omega) (by omega)).mpr c)]
  · rw [if_neg c, if_neg (fun e => c ((nI_ltI (by omega) (by omega)).mp e))]
theorem m_lin {w : WS} {XM : DM} {t : Nat → Nat} (hM : PM w XM) (hv : VS w) (ht : VT t) (hT : MT t (XM 0)) {n : Nat} (hn : 200 ≤ n) {s a k B r : Nat} (hs : s < 2 ^ 31) (hB : B < 2 ^ 31) (k2 : a + k ≤ wK w) (k3 : ∀ i, i < wK w → (wpg w i = s ↔ a ≤ i ∧ i < a + k)) (r2 : r ≤ 400) (r3 : stm w t k a r ≤ B) (r4 : ∀ v, 50 ≤ v → v < r → B < stm w t k a v) : ∀ (j v : Nat), 50 ≤ v → v + j = r → ∀ fu, j < fu → fX6_speedFor_L23 n XM fu (nI s) (nI B) (nI v) = some (nI r) := by
  intro j
  induction j with
  | zero =>
    intro v h1 h2 fu hfu
    obtain ⟨fu, rfl⟩ : ∃ z, fu = z + 1 := ⟨fu - 1, by omega⟩
    have : v = r := by omega
    subst this
    rw [m_lin_step hM hv ht hT hn hs hB k2 k3 h1 r2, if_neg (by omega)]
  | succ j ih =>
    intro v h1 h2 fu hfu
    obtain ⟨fu, rfl⟩ : ∃ z, fu = z + 1 := ⟨fu - 1, by omega⟩
    rw [m_lin_step hM hv ht hT hn hs hB k2 k3 h1 (by omega), if_pos (r4 v h1 (by omega)), ih (v + 1) (by omega) (by omega) fu (by omega)]
theorem m_lin_no {w : WS} {XM : DM} {t : Nat → Nat} (hM : PM w XM) (hv : VS w) (ht : VT t) (hT : MT t (XM 0)) {n : Nat} (hn : 200 ≤ n) {s a k B : Nat} (hs : s < 2 ^ 31) (hB : B < 2 ^ 31) (k2 : a + k ≤ wK w) (k3 : ∀ i, i < wK w → (wpg w i = s ↔ a ≤ i ∧ i < a + k)) (r3 : B < stm w t k a 400) : ∀ (j v : Nat), 50 ≤ v → v + j = 401 → ∀ fu, j < fu → fX6_speedFor_L23 n XM fu (nI s) (nI B) (nI v) = some (-4) := by
  intro j
  induction j with
  | zero =>
    intro v h1 h2 fu hfu
    obtain ⟨fu, rfl⟩ : ∃ z, fu = z + 1 := ⟨fu - 1, by omega⟩
    unfold fX6_speedFor_L23
    rw [if_pos ((lt_l1 (k := 400) (a := v) (by omega) (by omega)).mpr (by omega))]
  | succ j ih =>
    intro v h1 h2 fu hfu
    obtain ⟨fu, rfl⟩ : ∃ z, fu = z + 1 := ⟨fu - 1, by omega⟩
    have := stm_anti (k := k) (a := a) (v := v) (v' := 400) hv ht k2 (by omega) (by omega)
    rw [m_lin_step hM hv ht hT hn hs hB k2 k3 h1 (by omega), if_pos (by omega), ih (v + 1) (by omega) (by omega) fu (by omega)]
theorem ok_speedFor {n : Nat} (hn : 1400 ≤ n) : OK_speedFor n INV := by
  intro XF XN XA XW XP XQ XO XH XM a0 a1 hI
  have hI' := hI
  obtain ⟨⟨T, L, hR, hW, hM⟩, hO, hH⟩ := hI
  obtain ⟨h1, h2, h3, h4, ⟨t, sp, j, r, t1, t2, t3, t4⟩, -, -, h13, h14⟩ := hR
  have hv := wsOf_VS (T := T) h1
  have hk := hv.1
  have hnP := nP_le hv
  unfold fX5_speedFor fX6_speedFor fX6_isPage
  rw [hM.2.2.1, m_in, bnd_s, bnd_s, c_has2 (N := wnP (wsOf T L)) hW.2.2.2.1, bnd_s]
  by_cases c : ∃ a, a < wnP (wsOf T L) ∧ a0 = nI a
  · obtain ⟨s, hs, rfl⟩ := c
    have e1 : ¬ (nI s < 0 ∨ nI (wnP (wsOf T L)) ≤ nI s) := by rw [rng2 hnP]; exact fun q => q ⟨s, hs, rfl⟩
    have e2 : ¬ (nI s < 0 ∨ nI (wnP (wsOf T L)) - 1 < nI s) := by rw [rng hnP]; exact fun q => q ⟨s, hs, rfl⟩
    rw [if_neg e1, if_neg e2, if_neg (show ¬ (1 : Int32) = 0 from by decide), if_neg (show ¬ (1 : Int32) = 0 from by decide), m_in, bnd_s]
    by_cases c1 : a1 < 0
    · rw [if_pos c1, if_pos (Or.inl c1), if_pos rfl]
      exact ⟨-1, rfl, rfl, hI'⟩
    · rw [if_neg c1]
      obtain ⟨b, hb, rfl⟩ := nI_of c1
      by_cases c2 : nI b ≤ 100000
      · have b4 : b ≤ 100000 := (le_l2 (a := b) (k := 100000) hb (by decide)).mp c2
        have e3 : ¬ (nI b < 0 ∨ 100000 < nI b) := fun q => q.elim c1 (i_le.mp c2)
        obtain ⟨a, k, k1, k2, k3⟩ := pg_str hv hs
        obtain ⟨f1, f2⟩ := str_first hW.2.2.2 k1 k2 k3
        have hle := stm_le (k := k) (a := a) (v := 400) hv t1 k2 (by omega)
        rw [if_pos c2, if_neg e3, if_neg (show ¬ (1 : Int32) = 0 from by decide), at_in _ (by omega) (by omega), bnd_s, at_in _ (by omega) (by omega), bnd_s, f1, f2, show fX3_timeOfAllWith n XN XW (nI a) (nI (a + (k - 1))) 400 = _ from c_tow hW hv t1 t2 (show 200 ≤ n by omega) (v := 400) (by omega) (by omega) k1 k2, bnd_s]
        by_cases c3 : stm (wsOf T L) t k a 400 ≤ b
        · obtain ⟨r, r1, r2, r3, r4, r5⟩ := c_bin (XF := XF) hW hv t1 t2 (show 200 ≤ n by omega) k1 k2 hb 9 50 400 (by omega) (by omega) (by decide) (by omega) (by omega) c3 (fun v v1 v2 => by omega) n (by omega)
          rw [if_pos ((nI_leI (by omega) hb).mpr c3)]
          exact ⟨nI r, r5, m_lin hM hv t1 t3 (show 200 ≤ n by omega) (by omega) hb k2 k3 r2 r3 r4 (r - 50) 50 (by omega) (by omega) n (by omega), hI'⟩
        · rw [if_neg (fun e => c3 ((nI_leI (by omega) hb).mp e))]
          exact ⟨-4, rfl, m_lin_no hM hv t1 t3 (show 200 ≤ n by omega) (by omega) hb k2 k3 (by omega) 351 50 (by omega) (by omega) n (by omega), hI'⟩
      · rw [if_neg c2, if_pos (Or.inr (by
          by_cases z : 100000 < nI b
          · exact z
          · exact absurd (i_le.mpr z) c2)), if_pos rfl]
        exact ⟨-1, rfl, rfl, hI'⟩
  · have e1 : a0 < 0 ∨ nI (wnP (wsOf T L)) ≤ a0 := by rw [rng2 hnP]; exact c
    have e2 : a0 < 0 ∨ nI (wnP (wsOf T L)) - 1 < a0 := by rw [rng hnP]; exact c
    rw [if_pos e1, if_pos e2, if_pos rfl, if_pos rfl]
    exact ⟨-1, rfl, rfl, hI'⟩
