/-! calls that change what is shown -/
theorem INV.of {T : Nat → Int32} {L : Nat} {XF YN XA XW XP XQ XO XM M1 : DM} {YH : HD} {d' : Nat → Int32} (hW : PW (wsOf T L) XW XP XQ) (hM : PM (wsOf T L) XM) (hO : RO XO XM) (k3 : RH YH M1) (k4 : ∀ r, r ≠ 1 → r ≠ 2 → M1 r = XM r) (hR : RN T L YN d') : INV XF YN XA XW XP XQ XO YH (va_up M1 0 d') := by
  refine ⟨⟨T, L, by rw [up_eq]; exact hR, hW, hM.rows (fun r hr => by rw [up_ne _ _ (by omega), k4 r (by omega) (by omega)])⟩, hO.rows (by rw [up_ne _ _ (by decide), k4 4 (by decide) (by decide)]) (by rw [up_ne _ _ (by decide), k4 5 (by decide) (by decide)]), k3.rows (up_ne _ _ (by decide)) (up_ne _ _ (by decide))⟩
theorem ok_run {n : Nat} (hn : 1400 ≤ n) : OK_run n INV := by
  intro XF XN XA XW XP XQ XO XH XM a0 hI
  have hI' := hI
  obtain ⟨⟨T, L, hR, hW, hM⟩, hO, hH⟩ := hI
  have hR' := hR
  obtain ⟨h1, h2, h3, h4, ⟨t, sp, j, r, t1, t2, t3, t4⟩, ⟨k, pl, p0, p1, p2, p3⟩, ⟨nt, m, pos, n1, n2, n3, n4, n5, n6⟩, h13, h14⟩ := hR
  have hv := wsOf_VS (T := T) h1
  have hk := hv.1
  have h6 := t4.2.2.2.2.2.1
  have h301 := t4.2.2.2.2.2.2.1
  unfold fX5_run fX6_run fX3_passError
  rw [m_in, bnd_s]
  by_cases c1 : a0 < 1
  · rw [if_pos c1, if_pos (Or.inl c1), if_pos rfl]
    exact ⟨-1, XN, XH, XM, rfl, rfl, hI'⟩
  · rw [if_neg c1]
    by_cases c2 : 9999 < a0
    · rw [if_neg (show ¬ a0 ≤ 9999 from fun e => by rw [i_le] at e; exact e c2), if_pos (Or.inr c2), if_pos rfl]
      exact ⟨-1, XN, XH, XM, rfl, rfl, hI'⟩
    · rw [if_pos (i_le.mpr c2), if_neg (show ¬ (a0 < 1 ∨ 9999 < a0) from fun q => q.elim c1 c2), if_neg (show ¬ (1 : Int32) = 0 from by decide), rd_l (k := 301) _ (by omega) (by omega), bnd_s, h301, h6]
      by_cases c3 : j < wK (wsOf T L)
      · have ne : ¬ oI (wK (wsOf T L)) j = -1 := by rw [oI_lt c3]; exact nI_ne_m1 (by omega)
        rw [if_neg ne, if_neg ne, bnd_s, if_pos rfl]
        obtain ⟨a, ha, rfl⟩ := nI_of (x := a0) (fun e => c1 (Int32.lt_trans e (by decide)))
        obtain ⟨YH, M1, k1, k2, k3, k4⟩ := keepJ hR' hH hn
        have m0 : M1 0 = XM 0 := k4 0 (by decide) (by decide)
        have hM1 : PM (wsOf T L) M1 := hM.rows (fun r hr => k4 r (by omega) (by omega))
        rw [k1, bnd_s, k2, bnd_s]
        obtain ⟨S', d', j', r', sp', e', b1, b2, b3, b4, b5, b6⟩ := passB hW hM1 hv t1 (show 200 ≤ n by omega) (wK (wsOf T L) - j) j r sp XN (XM 0) a 0 (Nat.le_refl _) t4 (Nat.zero_le _) ha (by rw [h13]; exact Int32.add_zero _) t2 t3 n (by omega) n (by omega)
        rw [← m0, up0] at b2
        rw [letPass_eq]
        unfold fX6_goes
        rw [show fX3_letPass_L4 n XW XP kLP n (nI a) 0 XN = _ from b1, show fX6_goes_L4 n n (nI a) 0 M1 = _ from b2, bnd_s, bnd_s]
        refine ⟨nI e', S', YH, _, rfl, rfl, INV.of hW hM hO k3 k4 ⟨h1, ?_, ?_, fun i hi => ?_, ⟨t, sp', j', r', t1, ?_, ?_, b3⟩, ⟨k, pl, p0, ?_, ?_, fun i hi => ?_⟩, ⟨nt, m, pos, n1, ?_, fun a ha => ?_, n4, fun i hi => ?_, n6⟩, b4, ?_⟩⟩
        · rw [b5 2 (by decide) (by decide)]; exact h2
        · rw [b6 0 (by omega)]; exact h3
        · rw [b5 1 (by decide) (by decide), b6 _ (by omega)]; exact h4 i hi
        · rw [b5 3 (by decide) (by decide)]; exact t2
        · intro z hz; rw [b6 _ (by omega)]; exact t3 z hz
        · rw [b5 9 (by decide) (by decide)]; exact p1
        · rw [b6 _ (by omega)]; exact p2
        · rw [b5 8 (by decide) (by decide), b6 _ (by omega)]; exact p3 i hi
        · rw [b6 _ (by omega)]; exact n2
        · rw [b6 _ (by omega), b6 _ (by omega)]; exact n3 a ha
        · rw [b5 5 (by decide) (by decide)]; exact n5 i hi
        · rw [b5 14 (by decide) (by decide), b6 _ (by omega)]; exact h14
      · have eq : oI (wK (wsOf T L)) j = -1 := oI_ge c3
        rw [if_pos eq, if_pos eq, bnd_s, if_neg (by decide)]
        exact ⟨-2, XN, XH, XM, rfl, rfl, hI'⟩
theorem ok_back {n : Nat} (hn : 1400 ≤ n) : OK_back n INV := by
  intro XF XN XA XW XP XQ XO XH XM hI
  have hI' := hI
  obtain ⟨⟨T, L, hR, hW, hM⟩, hO, hH⟩ := hI
  have hR' := hR
  obtain ⟨h1, h2, h3, h4, ⟨t, sp, j, r, t1, t2, t3, t4⟩, ⟨k, pl, p0, p1, p2, p3⟩, ⟨nt, m, pos, n1, n2, n3, n4, n5, n6⟩, h13, h14⟩ := hR
  have hv := wsOf_VS (T := T) h1
  have hk := hv.1
  unfold fX5_back fX6_back fX3_askError
  rw [shownBehind_m1 hW hv (show 200 ≤ n by omega), bnd_s, m_firstShown hM hv (show 200 ≤ n by omega), bnd_s]
  by_cases c : nx (wsOf T L) 0 < wK (wsOf T L)
  · have ne : ¬ oI (wK (wsOf T L)) (nx (wsOf T L) 0) = -1 := by rw [oI_lt c]; exact nI_ne_m1 (by omega)
    rw [if_neg ne, if_neg ne, bnd_s, if_pos rfl]
    obtain ⟨YH, M1, k1, k2, k3, k4⟩ := keepJ hR' hH hn
    have m0 : M1 0 = XM 0 := k4 0 (by decide) (by decide)
    have hM1 : PM (wsOf T L) M1 := hM.rows (fun r hr => k4 r (by omega) (by omega))
    rw [k1, bnd_s, k2, bnd_s]
    obtain ⟨sp', S', d', j', r', b1, b2, b3, bj, b4, b5, -, b6, -, b7⟩ := backJ hW hM1 hv t1 t2 t3 (show 200 ≤ n by omega) t4 h14 c
    rw [← m0, up0] at b2
    rw [b1, bnd_s, b2, bnd_s, rd_l (k := 301) _ (by omega) (by omega), bnd_s, up_eq, b3.2.2.2.2.2.1, b3.2.2.2.2.2.2.1]
    refine ⟨_, S', YH, _, rfl, rfl, INV.of hW hM hO k3 k4 ⟨h1, ?_, ?_, fun i hi => ?_, ⟨t, sp', j', r', t1, ?_, ?_, b3⟩, ⟨k, pl, p0, ?_, ?_, fun i hi => ?_⟩, ⟨nt, m, pos, n1, ?_, fun a ha => ?_, n4, fun i hi => ?_, n6⟩, ?_, b4⟩⟩
    · rw [b5 2 (by decide) (by decide)]; exact h2
    · rw [b6 0 (by omega) (by omega)]; exact h3
    · rw [b5 1 (by decide) (by decide), b6 _ (by omega) (by omega)]; exact h4 i hi
    · rw [b5 3 (by decide) (by decide)]; exact t2
    · intro z hz; rw [b6 _ (by omega) (by omega)]; exact t3 z hz
    · rw [b5 9 (by decide) (by decide)]; exact p1
    · rw [b6 _ (by omega) (by omega)]; exact p2
    · rw [b5 8 (by decide) (by decide), b6 _ (by omega) (by omega)]; exact p3 i hi
    · rw [b6 _ (by omega) (by omega)]; exact n2
    · rw [b6 _ (by omega) (by omega), b6 _ (by omega) (by omega)]; exact n3 a ha
    · rw [b5 5 (by decide) (by decide)]; exact n5 i hi
    · rw [b5 13 (by decide) (by decide), b7]; exact h13
  · have eq : oI (wK (wsOf T L)) (nx (wsOf T L) 0) = -1 := oI_ge c
    rw [if_pos eq, if_pos eq, bnd_s, if_neg (by decide)]
    exact ⟨-2, XN, XH, XM, rfl, rfl, hI'⟩
theorem ok_goBack {n : Nat} (hn : 1400 ≤ n) : OK_goBack n INV := by
  intro XF XN XA XW XP XQ XO XH XM hI
  have hI' := hI
  obtain ⟨⟨T, L, hR, hW, hM⟩, hO, hH⟩ := hI
  have hR' := hR
  obtain ⟨h1, h2, h3, h4, ⟨t, sp, j, r, t1, t2, t3, t4⟩, hP, ⟨nt, m, pos, n1, n2, n3, n4, n5, n6⟩, h13, h14⟩ := hR
  have hv := wsOf_VS (T := T) h1
  have hk := hv.1
  have hP' := hP
  obtain ⟨k, pl, p0, p1, p2, p3⟩ := hP'
  unfold fX5_goBack fX6_goBack fX3_returnError
  rw [rd_l (k := 303) _ (by omega) (by omega), bnd_s, p1, p2]
  by_cases c : k = 0
  · rw [if_pos (show nI k = 0 from by rw [c]; rfl), if_pos (show nI k = 0 from by rw [c]; rfl), bnd_s, if_neg (by decide)]
    exact ⟨-2, XN, XH, XM, rfl, rfl, hI'⟩
  · have ne : ¬ nI k = 0 := nI_ne0 (by omega) (by omega)
    rw [if_neg ne, if_neg ne, bnd_s, if_pos rfl]
    obtain ⟨YH, M1, k1, k2, k3, k4⟩ := keepJ hR' hH hn
    have m0 : M1 0 = XM 0 := k4 0 (by decide) (by decide)
    have hM1 : PM (wsOf T L) M1 := hM.rows (fun r hr => k4 r (by omega) (by omega))
    rw [k1, bnd_s, k2, bnd_s]
    obtain ⟨S', d', j', r', b1, b2, b3, bj, b4, b5, -, b6, -, b7⟩ := retJ hW hM1 hv t1 t2 t3 (show 200 ≤ n by omega) t4 hP (by rw [p1]; exact ne)
    rw [← m0, up0] at b2
    rw [b1, bnd_s, b2, bnd_s, rd_l (k := 301) _ (by omega) (by omega), bnd_s, up_eq, b3.2.2.2.2.2.1, b3.2.2.2.2.2.2.1]
    refine ⟨_, S', YH, _, rfl, rfl, INV.of hW hM hO k3 k4 ⟨h1, ?_, ?_, fun i hi => ?_, ⟨t, sp, j', r', t1, ?_, ?_, b3⟩, b4, ⟨nt, m, pos, n1, ?_, fun a ha => ?_, n4, fun i hi => ?_, n6⟩, ?_, ?_⟩⟩
    · rw [b5 2 (by decide) (by decide)]; exact h2
    · rw [b6 0 (by omega)]; exact h3
    · rw [b5 1 (by decide) (by decide), b6 _ (by omega)]; exact h4 i hi
    · rw [b5 3 (by decide) (by decide)]; exact t2
    · intro z hz; rw [b6 _ (by omega)]; exact t3 z hz
    · rw [b6 _ (by omega)]; exact n2
    · rw [b6 _ (by omega), b6 _ (by omega)]; exact n3 a ha
    · rw [b5 5 (by decide) (by decide)]; exact n5 i hi
    · rw [b5 13 (by decide) (by decide), b7]; exact h13
    · rw [b5 14 (by decide) (by decide), b6 _ (by omega)]; exact h14
