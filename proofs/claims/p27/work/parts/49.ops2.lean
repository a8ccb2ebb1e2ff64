/-! jump, set, speed, note, unnote -/
theorem rng {N : Nat} (hN : N ≤ 150) (x : Int32) : (x < 0 ∨ nI N - 1 < x) ↔ ¬ ∃ a, a < N ∧ x = nI a := by
  constructor
  · rintro h ⟨a, ha, rfl⟩
    obtain ⟨N, rfl⟩ : ∃ z, N = z + 1 := ⟨N - 1, by omega⟩
    rw [nI_pred] at h
    rcases h with h | h
    · exact nI_pos (by omega) h
    · rw [nI_ltI (by omega) (by omega)] at h; omega
  · intro h
    by_cases c : x < 0
    · exact Or.inl c
    · right
      obtain ⟨a, ha, rfl⟩ := nI_of c
      have : N ≤ a := by
        by_cases z : a < N
        · exact absurd ⟨a, z, rfl⟩ h
        · omega
      by_cases z : N = 0
      · subst z
        exact Int32.lt_of_lt_of_le (show nI 0 - 1 < 0 by decide) (i_le.mpr (nI_pos ha))
      · obtain ⟨N, rfl⟩ : ∃ z, N = z + 1 := ⟨N - 1, by omega⟩
        rw [nI_pred]
        exact nI_lt (by omega) ha
theorem rng2 {N : Nat} (hN : N ≤ 150) (x : Int32) : (x < 0 ∨ nI N ≤ x) ↔ ¬ ∃ a, a < N ∧ x = nI a := by
  constructor
  · rintro h ⟨a, ha, rfl⟩
    rcases h with h | h
    · exact nI_pos (by omega) h
    · rw [nI_leI (by omega) (by omega)] at h; omega
  · intro h
    by_cases c : x < 0
    · exact Or.inl c
    · right
      obtain ⟨a, ha, rfl⟩ := nI_of c
      refine nI_le ?_ ha
      by_cases z : a < N
      · exact absurd ⟨a, z, rfl⟩ h
      · omega
theorem c_has2 {XP : DM} {N : Nat} (h : XP 3 0 = nI N) (x : Int32) : fX2_has XP x = some (if x < 0 ∨ nI N ≤ x then 0 else 1) := by
  unfold fX2_has
  rw [h]
  by_cases c1 : x < 0
  · rw [if_pos c1, if_pos (Or.inl c1)]
  · rw [if_neg c1]
    by_cases c2 : nI N ≤ x
    · rw [if_pos c2, if_pos (Or.inr c2)]
    · rw [if_neg c2, if_neg (fun q => q.elim c1 c2)]
theorem c_has4 {XW : DM} {N : Nat} (h : XW 8 0 = nI N) (x : Int32) : fX4_has XW x = some (if x < 0 ∨ nI N ≤ x then 0 else 1) := by
  unfold fX4_has
  rw [h]
  by_cases c1 : x < 0
  · rw [if_pos c1, if_pos (Or.inl c1)]
  · rw [if_neg c1]
    by_cases c2 : nI N ≤ x
    · rw [if_pos c2, if_pos (Or.inr c2)]
    · rw [if_neg c2, if_neg (fun q => q.elim c1 c2)]
theorem ok_jump {n : Nat} (hn : 1400 ≤ n) : OK_jump n INV := by
  intro XF XN XA XW XP XQ XO XH XM a0 hI
  have hI' := hI
  obtain ⟨⟨T, L, hR, hW, hM⟩, hO, hH⟩ := hI
  have hR' := hR
  obtain ⟨h1, h2, h3, h4, ⟨t, sp, j, r, t1, t2, t3, t4⟩, hP, ⟨nt, m, pos, n1, n2, n3, n4, n5, n6⟩, h13, h14⟩ := hR
  have hv := wsOf_VS (T := T) h1
  have hk := hv.1
  have hN := nS_le hv
  have h6 := t4.2.2.2.2.2.1
  have h301 := t4.2.2.2.2.2.2.1
  unfold fX5_jump fX6_jump fX3_leapError fX6_canJump fX6_isSentence
  rw [c_has2 (N := wnS (wsOf T L)) hW.2.2.1.1, bnd_s, hM.2.1, m_in, bnd_s, bnd_s, bnd_s]
  by_cases c : ∃ a, a < wnS (wsOf T L) ∧ a0 = nI a
  · obtain ⟨s, hs, rfl⟩ := c
    have e1 : ¬ (nI s < 0 ∨ nI (wnS (wsOf T L)) ≤ nI s) := by rw [rng2 hN]; exact fun q => q ⟨s, hs, rfl⟩
    have e2 : ¬ (nI s < 0 ∨ nI (wnS (wsOf T L)) - 1 < nI s) := by rw [rng hN]; exact fun q => q ⟨s, hs, rfl⟩
    obtain ⟨f1, f2, f3⟩ := fsp_spec hv hs
    rw [if_neg e1, if_neg e2, if_neg (show ¬ (1 : Int32) = 0 from by decide), if_neg (show ¬ (1 : Int32) = 0 from by decide), if_neg (show ¬ (1 : Int32) = 0 from by decide), m_firstOf hM hv (show 200 ≤ n by omega) (by omega), bnd_s, fsh_eq hv hs, rd_l (k := 301) _ (by omega) (by omega), bnd_s, h6, h301, at_in _ (by omega) (by omega), bnd_s, firsts_ok hW hv hs, isMark_ok hW hv f1, bnd_s]
    by_cases c1 : j < wK (wsOf T L)
    · have ne : ¬ oI (wK (wsOf T L)) j = -1 := by rw [oI_lt c1]; exact nI_ne_m1 (by omega)
      rw [if_neg ne, if_neg ne]
      by_cases c2 : wkd (wsOf T L) (fsp (wsOf T L) s) = 3
      · rw [if_pos c2, if_pos c2, if_neg (show ¬ (1 : Int32) = 0 from by decide), oI_ge (Nat.lt_irrefl _), if_pos rfl, bnd_s, bnd_s, if_neg (show ¬ (-2 : Int32) = 0 from by decide), if_pos rfl]
        exact ⟨-2, XN, XH, XM, rfl, rfl, hI'⟩
      · rw [if_neg c2, if_neg c2, if_pos rfl, oI_lt f1, if_neg (nI_ne_m1 (by omega)), bnd_s, bnd_s, if_pos rfl, if_neg (show ¬ (1 : Int32) = 0 from by decide)]
        obtain ⟨YH, M1, k1, k2, k3, k4⟩ := keepJ hR' hH hn
        have m0 : M1 0 = XM 0 := k4 0 (by decide) (by decide)
        have hM1 : PM (wsOf T L) M1 := hM.rows (fun r hr => k4 r (by omega) (by omega))
        rw [k1, bnd_s, k2, bnd_s]
        obtain ⟨S', d', r', b1, b2, b3, b4, b5, -, b6, -, b7⟩ := leapJ hW hM1 hv t1 t2 t3 (show 200 ≤ n by omega) t4 c1 hP hs c2
        rw [← m0, up0] at b2
        rw [b1, bnd_s, b2, bnd_s, rd_l (k := 301) _ (by omega) (by omega), bnd_s, up_eq, b3.2.2.2.2.2.1, b3.2.2.2.2.2.2.1]
        refine ⟨_, S', YH, _, rfl, rfl, INV.of hW hM hO k3 k4 ⟨h1, ?_, ?_, fun i hi => ?_, ⟨t, sp, _, r', t1, ?_, ?_, b3⟩, b4, ⟨nt, m, pos, n1, ?_, fun a ha => ?_, n4, fun i hi => ?_, n6⟩, ?_, ?_⟩⟩
        · rw [b5 2 (by decide) (by decide) (by decide)]; exact h2
        · rw [b6 0 (by omega)]; exact h3
        · rw [b5 1 (by decide) (by decide) (by decide), b6 _ (by omega)]; exact h4 i hi
        · rw [b5 3 (by decide) (by decide) (by decide)]; exact t2
        · intro z hz; rw [b6 _ (by omega)]; exact t3 z hz
        · rw [b6 _ (by omega)]; exact n2
        · rw [b6 _ (by omega), b6 _ (by omega)]; exact n3 a ha
        · rw [b5 5 (by decide) (by decide) (by decide)]; exact n5 i hi
        · rw [b5 13 (by decide) (by decide) (by decide), b7]; exact h13
        · rw [b5 14 (by decide) (by decide) (by decide), b6 _ (by omega)]; exact h14
    · have eq : oI (wK (wsOf T L)) j = -1 := oI_ge c1
      rw [if_pos eq, if_pos eq, bnd_s, if_neg (show ¬ (-2 : Int32) = 0 from by decide)]
      have : (bnd (if oI (wK (wsOf T L)) (if wkd (wsOf T L) (fsp (wsOf T L) s) = 3 then wK (wsOf T L) else fsp (wsOf T L) s) = -1 then some (0 : Int32) else some 0) fun r7 => if r7 = 0 then some ((-2 : Int32), XM) else bnd (fX6_records n XM) fun X13 => bnd (fX6_jumps n X13 (nI s)) fun X15 => bnd (rdA 348 (X15 0) 301) fun v17 => some (v17, X15)) = some ((-2 : Int32), XM) := by rw [ite_self, bnd_s, if_pos rfl]
      exact ⟨-2, XN, XH, XM, rfl, this, hI'⟩
  · rw [if_pos ((rng2 hN a0).mpr c), if_pos rfl, bnd_s, if_pos ((rng hN a0).mpr c), if_pos rfl, if_neg (show ¬ (-1 : Int32) = 0 from by decide)]
    exact ⟨-1, XN, XH, XM, rfl, rfl, hI'⟩
