/-! count -/
theorem ge_lt {x : Int32} {p q : Nat} (hq : q = p + 1) (hp : q < 2 ^ 31) : nI q ≤ x ↔ nI p < x := by
  subst hq
  by_cases c : x < 0
  · constructor
    · intro h
      exact absurd (Int32.lt_of_le_of_lt h c) (nI_pos hp)
    · intro h
      exact absurd (Int32.lt_trans h c) (nI_pos (by omega))
  · obtain ⟨a, ha, rfl⟩ := nI_of c
    rw [nI_leI hp ha, nI_ltI (by omega) ha]
    omega
theorem two_if {α : Type} {p q : Prop} [Decidable p] [Decidable q] (X Y : α) (h : p ∨ q) : (if p then X else if q then X else Y) = X := by
  by_cases c : p
  · rw [if_pos c]
  · rw [if_neg c, if_pos (h.resolve_left c)]
theorem ok_count {n : Nat} (hn : 1400 ≤ n) : OK_count n INV := by
  intro XF XN XA XW XP XQ XO XH XM a0 hI
  have hI' := hI
  obtain ⟨⟨T, L, hR, hW, hM⟩, ⟨oc, o, o1, o2, o3, o4⟩, ⟨hh, hh1, hh2, hh3, hh4⟩⟩ := hI
  obtain ⟨h1, h2, h3, h4, ⟨t, sp, j, r, t1, t2, t3, t4⟩, ⟨k, pl, p0, p1, p2, p3⟩, ⟨nt, m, pos, hN⟩, h13, h14⟩ := hR
  have hv := wsOf_VS (T := T) h1
  have hk := hv.1
  have h6 := t4.2.2.2.2.2.1
  have h301 := t4.2.2.2.2.2.2.1
  have e61 : XM 0 301 = XN 6 0 := h301.trans h6.symm
  have e72 : XM 0 302 = XN 7 0 := t4.2.2.2.2.2.2.2.2.1.trans t4.2.2.2.2.2.2.2.1.symm
  unfold fX5_count fX6_count
  simp only [sl_s]
  rw [m_in, bnd_s, m_in, bnd_s]
  by_cases cA : a0 < 20 ∨ 26 < a0
  · have cA' : a0 < 20 ∨ 27 ≤ a0 := cA.imp id (ge_lt (p := 26) (q := 27) rfl (by decide)).mpr
    rw [if_pos cA, if_pos rfl, two_if _ _ cA']
    by_cases cB : a0 < 30 ∨ 32 < a0
    · have cB' : a0 < 30 ∨ 33 ≤ a0 := cB.imp id (ge_lt (p := 32) (q := 33) rfl (by decide)).mpr
      rw [if_pos cB, if_pos rfl, two_if _ _ cB']
      rw [show fX6_count_L54 n XM _ n a0 0 0 = _ from m_cnt_L hM hv t1 t3 t4.1 t4.2.2.1 n _ a0 (wK (wsOf T L)) 0 0 (by omega) n (by omega), Nat.zero_add]
      by_cases d0 : a0 = 0
      · rw [if_pos d0, if_pos d0, rd_l (k := 0) _ (by omega) (by omega), bnd_s, h2, h3]
        exact ⟨_, rfl, rfl, hI'⟩
      rw [if_neg d0, if_neg d0]
      by_cases d1 : a0 = 1
      · rw [if_pos d1, if_pos d1, hW.1, hM.1]
        exact ⟨_, rfl, rfl, hI'⟩
      rw [if_neg d1, if_neg d1]
      by_cases d2 : a0 = 2
      · rw [if_pos d2, if_pos d2, hM.2.1]
        exact ⟨_, congrArg some hW.2.2.1.1, rfl, hI'⟩
      rw [if_neg d2, if_neg d2]
      by_cases d3 : a0 = 3
      · rw [if_pos d3, if_pos d3, hM.2.2.1]
        exact ⟨_, congrArg some hW.2.2.2.1, rfl, hI'⟩
      rw [if_neg d3, if_neg d3]
      by_cases d4 : a0 = 4
      · rw [if_pos d4, if_pos d4, rd_l (k := 301) _ (by omega) (by omega), bnd_s, bnd_s]
        by_cases z : XN 6 0 = -1
        · rw [if_pos z, if_pos (show XM 0 301 = -1 from e61.trans z)]
          exact ⟨_, rfl, rfl, hI'⟩
        · rw [if_neg z, if_neg (show ¬ XM 0 301 = -1 from fun e => z (e61.symm.trans e)), e61]
          exact ⟨_, rfl, rfl, hI'⟩
      rw [if_neg d4, if_neg d4]
      by_cases d5 : a0 = 5
      · rw [if_pos d5, if_pos d5, rd_l (k := 301) _ (by omega) (by omega), bnd_s, rd_l (k := 302) _ (by omega) (by omega), bnd_s]
        by_cases z : XN 6 0 = -1
        · rw [if_pos z, if_pos (show XM 0 301 = -1 from e61.trans z)]
          exact ⟨_, rfl, rfl, hI'⟩
        · rw [if_neg z, if_neg (show ¬ XM 0 301 = -1 from fun e => z (e61.symm.trans e)), e72]
          exact ⟨_, rfl, rfl, hI'⟩
      rw [if_neg d5, if_neg d5]
      by_cases d6 : a0 = 6
      · rw [if_pos d6, if_pos d6, rd_l (k := 303) _ (by omega) (by omega), bnd_s, p1, p2]
        exact ⟨_, rfl, rfl, hI'⟩
      rw [if_neg d6, if_neg d6]
      by_cases d7 : a0 = 7
      · rw [if_pos d7, if_pos d7, rd_l (k := 309) _ (by omega) (by omega), bnd_s, c_cn hk hN (show 200 ≤ n by omega), bnd_s, hN.2.1]
        exact ⟨_, rfl, rfl, hI'⟩
      rw [if_neg d7, if_neg d7]
      by_cases d8 : a0 = 8
      · rw [if_pos d8, if_pos d8, rd_l (k := 345) _ (by omega) (by omega), bnd_s, t4.2.2.2.2.2.2.2.2.2.2.2.2.2.2.2]
        exact ⟨_, rfl, rfl, hI'⟩
      rw [if_neg d8, if_neg d8]
      by_cases d9 : a0 = 9
      · rw [if_pos d9, if_pos d9, rd_l (k := 346) _ (by omega) (by omega), bnd_s, h13]
        exact ⟨_, rfl, rfl, hI'⟩
      rw [if_neg d9, if_neg d9]
      by_cases d10 : a0 = 10
      · rw [if_pos d10, if_pos d10, rd_l (k := 347) _ (by omega) (by omega), bnd_s, h14]
        exact ⟨_, rfl, rfl, hI'⟩
      rw [if_neg d10, if_neg d10]
      by_cases d11 : a0 = 11
      · rw [if_pos d11, if_pos d11, hh2, hh3]
        exact ⟨_, rfl, rfl, hI'⟩
      rw [if_neg d11, if_neg d11]
      by_cases d12 : a0 = 12
      · rw [if_pos d12, if_pos d12, o2, o3]
        exact ⟨_, rfl, rfl, hI'⟩
      rw [if_neg d12, if_neg d12]
      by_cases d13 : a0 = 13
      · have := c_toa hW hv t1 t2 t4.1 t4.2.1 (show 200 ≤ n by omega) (a := 0) (k := wK (wsOf T L)) (by omega)
        rw [Nat.zero_add] at this
        rw [if_pos d13, if_pos d13, hW.1, show fX3_timeOfAll n XN XW 0 (nI (wK (wsOf T L)) - 1) = _ from this, bnd_s]
        exact ⟨_, rfl, rfl, hI'⟩
      rw [if_neg d13, if_neg d13]
      exact ⟨_, rfl, rfl, hI'⟩
    · obtain ⟨a, ha, rfl⟩ := nI_of (x := a0) (fun e => cB (Or.inl (Int32.lt_trans e (by decide))))
      have g1 : ¬ nI a < 30 := fun e => cB (Or.inl e)
      have g2 : ¬ 32 < nI a := fun e => cB (Or.inr e)
      have a1 : 30 ≤ a := by
        by_cases z : 30 ≤ a
        · exact z
        · exact absurd ((lt_l2 (a := a) (k := 30) ha (by decide)).mpr (by omega)) g1
      have a2 : a ≤ 32 := by
        by_cases z : a ≤ 32
        · exact z
        · exact absurd ((lt_l1 (k := 32) (a := a) (by decide) ha).mpr (by omega)) g2
      rw [if_neg cB, if_neg (show ¬ (1 : Int32) = 0 from by decide), if_neg g1, if_neg (show ¬ 33 ≤ nI a from fun e => g2 ((ge_lt (p := 32) (q := 33) rfl (by decide)).mp e)), lit_n 30, n_sub a1, at_in _ (by omega) (by omega), bnd_s, lit_n 330, nI_add, n_sub (by omega), rd_in _ (by omega) (by omega), bnd_s, t4.2.1 _ (by omega), show 330 + a - 30 = 330 + (a - 30) by omega, t4.2.2.1 _ (by omega)]
      exact ⟨_, rfl, rfl, hI'⟩
  · obtain ⟨a, ha, rfl⟩ := nI_of (x := a0) (fun e => cA (Or.inl (Int32.lt_trans e (by decide))))
    have g1 : ¬ nI a < 20 := fun e => cA (Or.inl e)
    have g2 : ¬ 26 < nI a := fun e => cA (Or.inr e)
    have a1 : 20 ≤ a := by
      by_cases z : 20 ≤ a
      · exact z
      · exact absurd ((lt_l2 (a := a) (k := 20) ha (by decide)).mpr (by omega)) g1
    have a2 : a ≤ 26 := by
      by_cases z : a ≤ 26
      · exact z
      · exact absurd ((lt_l1 (k := 26) (a := a) (by decide) ha).mpr (by omega)) g2
    rw [if_neg cA, if_neg (show ¬ (1 : Int32) = 0 from by decide), if_neg g1, if_neg (show ¬ 27 ≤ nI a from fun e => g2 ((ge_lt (p := 26) (q := 27) rfl (by decide)).mp e)), lit_n 20, n_sub a1, at_in _ (by omega) (by omega), bnd_s, lit_n 333, nI_add, n_sub (by omega), rd_in _ (by omega) (by omega), bnd_s, t2 _ (by omega), show 333 + a - 20 = 333 + (a - 20) by omega, t3 _ (by omega)]
    exact ⟨_, rfl, rfl, hI'⟩
