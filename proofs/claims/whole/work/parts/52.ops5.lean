/-! orders are added and cleared -/
theorem nar_ok : ∀ o, o < 127 → vp_nar .char (((nI o).toUInt32 % 65536).toInt32) = nI o := by decide +kernel
theorem ok_order {n : Nat} : OK_order n INV := by
  intro XF XN XA XW XP XQ XO XH XM a0 hI
  have hI' := hI
  obtain ⟨hR, ⟨c, o, o1, o2, o3, o4⟩, hH⟩ := hI
  unfold fX5_order fX6_order
  rw [c_char, m_in, bnd_s, bnd_s]
  by_cases k : a0 < 32 ∨ 126 < a0
  · rw [if_pos k, if_pos rfl, if_pos rfl]
    exact ⟨-1, XO, XM, rfl, rfl, hI'⟩
  · rw [if_neg k, if_neg (show ¬ (1 : Int32) = 0 from by decide), if_neg (show ¬ (1 : Int32) = 0 from by decide), o2, o3]
    by_cases c6 : c = 60
    · rw [if_neg (fun e => absurd ((lt_l2 (a := c) (k := 60) (by omega) (by decide)).mp e) (by omega)), if_pos (show nI c = 60 from by rw [c6]; rfl)]
      exact ⟨-3, XO, XM, rfl, rfl, hI'⟩
    · obtain ⟨b, hb, rfl⟩ := nI_of (x := a0) (fun e => k (Or.inl (Int32.lt_trans e (by decide))))
      have b1 : 32 ≤ b := by
        by_cases z : 32 ≤ b
        · exact z
        · exact absurd (Or.inl ((lt_l2 (a := b) (k := 32) hb (by decide)).mpr (by omega))) k
      have b2 : b ≤ 126 := by
        by_cases z : b ≤ 126
        · exact z
        · exact absurd (Or.inr ((lt_l1 (k := 126) (a := b) (by decide) hb).mpr (by omega))) k
      unfold fX1_add
      rw [if_pos ((lt_l2 (a := c) (k := 60) (by omega) (by decide)).mpr (by omega)), if_neg (fun e => c6 ((eq_l (a := c) (k := 60) (by omega) (by decide)).mp e)), o2, nar_ok b (by omega), put_in _ _ (by omega) (by omega), bnd_s, sl_s, sl_s, bnd_s, wr_in _ _ (by omega) (by omega), bnd_s, sl_s, sl_s]
      have e1 : (va_up XO 0 (upd (XO 0) c (nI b))) 1 0 + 1 = nI (c + 1) := by rw [up_ne _ _ (by decide), o2, nI_1]
      have e2 : (va_up XM 4 (upd (XM 4) c (nI b))) 5 0 + 1 = nI (c + 1) := by rw [up_ne _ _ (by decide), o3, nI_1]
      rw [e1, e2]
      refine ⟨nI (c + 1), _, _, by rw [up_eq], by rw [up_eq], ⟨?_, ⟨c + 1, fun i => if i = c then b else o i, by omega, by rw [up_eq], by rw [up_eq], fun i hi => ?_⟩, hH.rows (by rw [up_ne _ _ (by decide), up_ne _ _ (by decide)]) (by rw [up_ne _ _ (by decide), up_ne _ _ (by decide)])⟩⟩
      · obtain ⟨T, L, r1, r2, r3⟩ := hR
        exact ⟨T, L, by rw [up_ne _ _ (by decide), up_ne _ _ (by decide)]; exact r1, r2, r3.rows (fun r hr => by rw [up_ne _ _ (by omega), up_ne _ _ (by omega)])⟩
      · dsimp only
        rw [up_ne _ _ (by decide), up_eq, up_ne _ _ (by decide), up_eq]
        by_cases z : i = c
        · subst z; rw [u_eq, u_eq, if_pos rfl]; exact ⟨rfl, rfl, b1, b2⟩
        · rw [u_ne _ _ z, u_ne _ _ z, if_neg z]; exact o4 i (by omega)
theorem ok_clearOrders {n : Nat} : OK_clearOrders n INV := by
  intro XF XN XA XW XP XQ XO XH XM hI
  obtain ⟨⟨T, L, r1, r2, r3⟩, ⟨c, o, o1, o2, o3, o4⟩, hH⟩ := hI
  unfold fX5_clearOrders fX6_clearOrders
  rw [sl_s, sl_s, o2, o3]
  refine ⟨nI c, _, _, rfl, rfl, ⟨T, L, by rw [up_ne _ _ (by decide)]; exact r1, r2, r3.rows (fun r hr => up_ne _ _ (by omega))⟩, ⟨0, o, by omega, by rw [up_eq]; rfl, by rw [up_eq]; rfl, fun i hi => absurd hi (Nat.not_lt_zero _)⟩, hH.rows (up_ne _ _ (by decide)) (up_ne _ _ (by decide))⟩
/-! what if, and how much is left -/
theorem m_keeps_L (n : Nat) : ∀ (k i : Nat), i + k = 348 → ∀ fu, k < fu → ∀ XM : DM, ∃ X' : DM, fX6_keeps_L2 n fu (nI i) XM = some X' ∧ (∀ j, i ≤ j → j < 348 → X' 3 j = XM 0 j) ∧ (∀ j, j < i → X' 3 j = XM 3 j) ∧ ∀ r, r ≠ 3 → X' r = XM r := by
  intro k
  induction k with
  | zero =>
    intro i hi fu hfu XM
    obtain ⟨fu, rfl⟩ : ∃ z, fu = z + 1 := ⟨fu - 1, by omega⟩
    unfold fX6_keeps_L2
    rw [if_pos ((le_l1 (k := 348) (a := i) (by omega) (by omega)).mpr (by omega))]
    exact ⟨XM, rfl, fun j a b => by omega, fun _ _ => rfl, fun _ _ => rfl⟩
  | succ k ih =>
    intro i hi fu hfu XM
    obtain ⟨fu, rfl⟩ : ∃ z, fu = z + 1 := ⟨fu - 1, by omega⟩
    unfold fX6_keeps_L2
    rw [if_neg (fun e => absurd ((le_l1 (k := 348) (a := i) (by omega) (by omega)).mp e) (by omega)), rd_in _ (by omega) (by omega), bnd_s, wr_in _ _ (by omega) (by omega), bnd_s, sl_s, sl_s, nI_1]
    obtain ⟨X', e1, e2, e3, e4⟩ := ih (i + 1) (by omega) fu (by omega) (va_up XM 3 (upd (XM 3) i (XM 0 i)))
    refine ⟨X', e1, fun j a b => ?_, fun j a => ?_, fun r hr => by rw [e4 r hr, up_ne _ _ hr]⟩
    · by_cases z : j = i
      · subst z; rw [e3 j (by omega), up_eq, u_eq]
      · rw [e2 j (by omega) b, up_ne _ _ (by decide)]
    · rw [e3 j (by omega), up_eq, u_ne _ _ (by omega)]
theorem m_rest_L (n : Nat) : ∀ (k i : Nat), i + k = 348 → ∀ fu, k < fu → ∀ XM : DM, ∃ X' : DM, fX6_restores_L2 n fu (nI i) XM = some X' ∧ (∀ j, i ≤ j → j < 348 → X' 0 j = XM 3 j) ∧ (∀ j, j < i → X' 0 j = XM 0 j) ∧ ∀ r, r ≠ 0 → X' r = XM r := by
  intro k
  induction k with
  | zero =>
    intro i hi fu hfu XM
    obtain ⟨fu, rfl⟩ : ∃ z, fu = z + 1 := ⟨fu - 1, by omega⟩
    unfold fX6_restores_L2
    rw [if_pos ((le_l1 (k := 348) (a := i) (by omega) (by omega)).mpr (by omega))]
    exact ⟨XM, rfl, fun j a b => by omega, fun _ _ => rfl, fun _ _ => rfl⟩
  | succ k ih =>
    intro i hi fu hfu XM
    obtain ⟨fu, rfl⟩ : ∃ z, fu = z + 1 := ⟨fu - 1, by omega⟩
    unfold fX6_restores_L2
    rw [if_neg (fun e => absurd ((le_l1 (k := 348) (a := i) (by omega) (by omega)).mp e) (by omega)), rd_in _ (by omega) (by omega), bnd_s, wr_in _ _ (by omega) (by omega), bnd_s, sl_s, sl_s, nI_1]
    obtain ⟨X', e1, e2, e3, e4⟩ := ih (i + 1) (by omega) fu (by omega) (va_up XM 0 (upd (XM 0) i (XM 3 i)))
    refine ⟨X', e1, fun j a b => ?_, fun j a => ?_, fun r hr => by rw [e4 r hr, up_ne _ _ hr]⟩
    · by_cases z : j = i
      · subst z; rw [e3 j (by omega), up_eq, u_eq]
      · rw [e2 j (by omega) b, up_ne _ _ (by decide)]
    · rw [e3 j (by omega), up_eq, u_ne _ _ (by omega)]
theorem INV.back {XF XN XA YA XW XP XQ XO XM YM : DM} {XH : HD} (h : INV XF XN XA XW XP XQ XO XH XM) (h0 : ∀ k, k < 348 → YM 0 k = XM 0 k) (hr : ∀ r, r ≠ 0 → r ≠ 3 → YM r = XM r) : INV XF XN YA XW XP XQ XO XH YM := by
  obtain ⟨⟨T, L, r1, r2, r3⟩, hO, hH⟩ := h
  exact ⟨⟨T, L, r1.ag ⟨fun _ _ => rfl, rfl, fun _ _ => rfl, fun _ _ => rfl, fun _ _ => rfl, rfl, rfl, fun _ _ => rfl, rfl, fun _ _ => rfl, rfl, rfl, rfl, rfl⟩ h0, r2, r3.rows (fun r hr' => hr r (by omega) (by omega))⟩, hO.rows (hr 4 (by decide) (by decide)) (hr 5 (by decide) (by decide)), hH.rows (hr 1 (by decide) (by decide)) (hr 2 (by decide) (by decide))⟩
theorem ok_ifRun {n : Nat} (hn : 1400 ≤ n) : OK_ifRun n INV := by
  intro XF XN XA XW XP XQ XO XH XM a0 hI
  have hI' := hI
  obtain ⟨⟨T, L, hR, hW, hM⟩, hO, hH⟩ := hI
  obtain ⟨h1, h2, h3, h4, ⟨t, sp, j, r, t1, t2, t3, t4⟩, -, -, h13, h14⟩ := hR
  have hv := wsOf_VS (T := T) h1
  have hk := hv.1
  have h6 := t4.2.2.2.2.2.1
  have h301 := t4.2.2.2.2.2.2.1
  have h11 := t4.2.2.2.2.2.2.2.2.2.2.2.2.1
  unfold fX5_ifRun fX6_ifRun fX3_passError
  rw [m_in, bnd_s]
  by_cases c1 : a0 < 1
  · rw [if_pos c1, if_pos (Or.inl c1), if_pos rfl]
    exact ⟨-1, XA, XM, rfl, rfl, hI'⟩
  · rw [if_neg c1]
    by_cases c2 : 9999 < a0
    · rw [if_neg (show ¬ a0 ≤ 9999 from fun e => by rw [i_le] at e; exact e c2), if_pos (Or.inr c2), if_pos rfl]
      exact ⟨-1, XA, XM, rfl, rfl, hI'⟩
    · rw [if_pos (i_le.mpr c2), if_neg (show ¬ (a0 < 1 ∨ 9999 < a0) from fun q => q.elim c1 c2), if_neg (show ¬ (1 : Int32) = 0 from by decide), rd_l (k := 301) _ (by omega) (by omega), bnd_s, h301, h6]
      by_cases c3 : j < wK (wsOf T L)
      · have ne : ¬ oI (wK (wsOf T L)) j = -1 := by rw [oI_lt c3]; exact nI_ne_m1 (by omega)
        rw [if_neg ne, if_neg ne, bnd_s, if_pos rfl]
        obtain ⟨a, ha, rfl⟩ := nI_of (x := a0) (fun e => c1 (Int32.lt_trans e (by decide)))
        obtain ⟨S1, s1, s2⟩ := c_copy XA XN h11
        obtain ⟨M1, m1, m2, -, m4⟩ := m_keeps_L n 348 0 (by omega) n (by omega) XM
        have m0 : M1 0 = XM 0 := m4 0 (by decide)
        have hM1 : PM (wsOf T L) M1 := hM.rows (fun r hr => m4 r (by omega))
        unfold fX6_keeps
        rw [s1, bnd_s, show fX6_keeps_L2 n n 0 XM = _ from m1, bnd_s]
        obtain ⟨S', d', j', r', sp', e', b1, b2, b3, b4, b5, b6⟩ := passB hW hM1 hv t1 (show 200 ≤ n by omega) (wK (wsOf T L) - j) j r sp S1 (XM 0) a 0 (Nat.le_refl _) (t4.ag s2 (agD.refl _)) (Nat.zero_le _) ha (by rw [s2.2.2.2.2.2.2.2.2.2.2.2.2.1, h13]; exact Int32.add_zero _) (fun z hz => by rw [s2.2.2.1 z hz]; exact t2 z hz) t3 n (by omega) n (by omega)
        rw [← m0, up0] at b2
        rw [letPass_eq]
        unfold fX6_goes
        obtain ⟨M2, y1, y2, -, y4⟩ := m_rest_L n 348 0 (by omega) n (by omega) (va_up M1 0 d')
        unfold fX6_restores
        rw [show fX3_letPass_L4 n XW XP kLP n (nI a) 0 S1 = _ from b1, show fX6_goes_L4 n n (nI a) 0 M1 = _ from b2, bnd_s, bnd_s]
        dsimp only
        rw [up_eq, rd_l (k := 301) _ (by omega) (by omega), bnd_s, show fX6_restores_L2 n n 0 (va_up M1 0 d') = _ from y1, bnd_s]
        try dsimp only
        have e61 : d' 301 = S' 6 0 := b3.2.2.2.2.2.2.1.trans b3.2.2.2.2.2.1.symm
        have inv : INV XF XN S' XW XP XQ XO XH M2 := hI'.back (fun k hk => by rw [y2 k (Nat.zero_le _) hk, up_ne _ _ (by decide), m2 k (Nat.zero_le _) hk]) (fun r r1 r2 => by rw [y4 r r1, up_ne _ _ r1, m4 r r2])
        by_cases c4 : S' 6 0 = -1
        · rw [if_pos c4, if_pos (show d' 301 = -1 from e61.trans c4)]
          exact ⟨-4, S', M2, rfl, rfl, inv⟩
        · rw [if_neg c4, if_neg (show ¬ d' 301 = -1 from fun e => c4 (e61.symm.trans e)), e61]
          exact ⟨_, S', M2, rfl, rfl, inv⟩
      · have eq : oI (wK (wsOf T L)) j = -1 := oI_ge c3
        rw [if_pos eq, if_pos eq, bnd_s, if_neg (by decide)]
        exact ⟨-2, XA, XM, rfl, rfl, hI'⟩
