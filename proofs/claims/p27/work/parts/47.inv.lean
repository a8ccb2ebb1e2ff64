/-! what holds between calls -/
def RO (XO XM : DM) : Prop := ∃ (c : Nat) (o : Nat → Nat), c ≤ 60 ∧ XO 1 0 = nI c ∧ XM 5 0 = nI c ∧ ∀ i, i < c → XO 0 i = nI (o i) ∧ XM 4 i = nI (o i) ∧ 32 ≤ o i ∧ o i ≤ 126
def RW (XN XW XP XQ XM : DM) : Prop := ∃ (T : Nat → Int32) (L : Nat), RN T L XN (XM 0) ∧ PW (wsOf T L) XW XP XQ ∧ PM (wsOf T L) XM
def INV : DM → DM → DM → DM → DM → DM → DM → HD → DM → Prop := fun _ XN _ XW XP XQ XO XH XM => RW XN XW XP XQ XM ∧ RO XO XM ∧ RH XH XM
theorem up0 (M : DM) : va_up M 0 (M 0) = M := by
  funext k
  by_cases c : k = 0
  · subst c; exact up_eq _ _ _
  · exact up_ne _ _ c
theorem PM.rows {w : WS} {M M' : DM} (h : PM w M) (e : ∀ r, 9 ≤ r → M' r = M r) : PM w M' := by
  unfold PM at h ⊢
  rw [e 9 (by decide), e 10 (by decide), e 11 (by decide), e 12 (by decide), e 13 (by decide), e 14 (by decide), e 15 (by decide), e 16 (by decide), e 17 (by decide), e 18 (by decide)]
  exact h
theorem RH.rows {XH : HD} {M M' : DM} (h : RH XH M) (e1 : M' 1 = M 1) (e2 : M' 2 = M 2) : RH XH M' := by
  unfold RH at h ⊢
  rw [e1, e2]
  exact h
theorem RO.rows {XO M M' : DM} (h : RO XO M) (e1 : M' 4 = M 4) (e2 : M' 5 = M 5) : RO XO M' := by
  unfold RO at h ⊢
  rw [e1, e2]
  exact h
theorem m_in (x a b : Int32) : fX6_in x a b = some (if x < a ∨ b < x then 0 else 1) := by
  unfold fX6_in
  by_cases c1 : x < a
  · rw [if_pos c1, if_pos (Or.inl c1)]
  · rw [if_neg c1]
    by_cases c2 : b < x
    · rw [if_pos c2, if_pos (Or.inr c2)]
    · rw [if_neg c2, if_neg (fun q => q.elim c1 c2)]
theorem c_char (x : Int32) : fX5_isCharacter x = some (if x < 32 ∨ 126 < x then 0 else 1) := by
  unfold fX5_isCharacter
  by_cases c1 : x < 32
  · rw [if_pos c1, if_pos (Or.inl c1)]
  · rw [if_neg c1]
    by_cases c2 : 126 < x
    · rw [if_pos c2, if_pos (Or.inr c2)]
    · rw [if_neg c2, if_neg (fun q => q.elim c1 c2)]
theorem ok_append {n : Nat} (hn : 1400 ≤ n) : OK_append n INV := by
  intro XF XN XA XW XP XQ XO XH XM a0 hI
  have hI' := hI
  obtain ⟨⟨T, L, hR, hW, hM⟩, hO, hH⟩ := hI
  have hR' := hR
  obtain ⟨h1, h2, h3, h4, ⟨t, sp, j, r, t1, t2, t3, t4⟩, hPl, ⟨nt, m, pos, hN⟩, h13, h14⟩ := hR
  have hv := wsOf_VS (T := T) h1
  unfold fX5_append fX6_append
  rw [c_char, m_in, bnd_s, bnd_s]
  by_cases c : a0 < 32 ∨ 126 < a0
  · rw [if_pos c, if_pos rfl, if_pos rfl]
    exact ⟨-1, XN, XW, XP, XQ, XH, XM, rfl, rfl, hI'⟩
  · rw [if_neg c, if_neg (show ¬ (1 : Int32) = 0 from by decide), if_neg (show ¬ (1 : Int32) = 0 from by decide), h2, rd_l (k := 0) _ (by omega) (by omega), bnd_s, h3]
    by_cases c3 : L = 300
    · rw [if_neg (fun e => absurd ((lt_l2 (a := L) (k := 300) (by omega) (by omega)).mp e) (by omega)), if_pos (by rw [c3]; rfl)]
      exact ⟨-3, XN, XW, XP, XQ, XH, XM, rfl, rfl, hI'⟩
    · rw [if_pos ((lt_l2 (a := L) (k := 300) (by omega) (by omega)).mpr (by omega)), if_neg (fun e => c3 ((eq_l (a := L) (k := 300) (by omega) (by omega)).mp e))]
      obtain ⟨YH, M1, k1, k2, k3, k4⟩ := keepJ hR' hH hn
      have m0 : M1 0 = XM 0 := k4 0 (by decide) (by decide)
      rw [k1, bnd_s, put_in _ _ (by omega) (by omega), bnd_s, sl_s, up_ne (k := 1) (j := 2) _ _ (by decide), h2, nI_1, k2, bnd_s, m0, rd_l (k := 0) _ (by omega) (by omega), bnd_s, h3, one_add, wr_in _ _ (by omega) (by omega), bnd_s, sl_s, up_eq, rd_l (k := 0) _ (by omega) (by omega), bnd_s, u_ne _ _ (by omega), h3, nI_1, wr_l (k := 0) _ _ (by omega) (by omega), bnd_s, sl_s, up_up]
      obtain ⟨S', W, P, Q, M', e1, e2, e3, e4, e5, e6⟩ := anewJ (T := fun i => if i = L then a0 else T i) (L := L + 1) (S := va_up XN 1 (upd (XN 1) L a0)) (XW := XW) (XP := XP) (XQ := XQ) (XM := va_up M1 0 (upd (upd (XM 0) (1 + L) a0) 0 (nI (L + 1)))) (t := t) (sp := sp) (K := wK (wsOf T L)) (sh := fun i => ¬ wkd (wsOf T L) i = 3) (nt := nt) (m := m) (pos := pos) (by omega) (up_eq _ _ _) (u_eq _ _ _) (fun i hi => by
        try dsimp only
        rw [up_eq]
        by_cases z : i = L
        · subst z; rw [u_eq, if_pos rfl, u_ne _ _ (by omega), u_eq]; exact ⟨rfl, rfl⟩
        · rw [u_ne _ _ z, if_neg z, u_ne _ _ (by omega), u_ne _ _ (by omega)]; exact h4 i (by omega)) t1 (by rw [up_ne _ _ (by decide)]; exact t2) (by intro z hz; rw [u_ne _ _ (by omega), u_ne _ _ (by omega)]; exact t3 z hz) t4.1 (by rw [up_ne _ _ (by decide)]; exact t4.2.1) (by intro z hz; rw [u_ne _ _ (by omega), u_ne _ _ (by omega)]; exact t4.2.2.1 z hz) (by rw [up_ne _ _ (by decide), u_ne _ _ (by omega), u_ne _ _ (by omega)]; exact t4.2.2.2.2.2.2.2.2.2.2.2.2.2.2.2) (by rw [up_ne _ _ (by decide), u_ne _ _ (by omega), u_ne _ _ (by omega)]; exact h13) (by rw [up_ne _ _ (by decide), u_ne _ _ (by omega), u_ne _ _ (by omega)]; exact h14) hv.1 (by
        obtain ⟨n1, n2, n3, n4, n5, n6⟩ := hN
        refine ⟨n1, by rw [u_ne _ _ (by omega), u_ne _ _ (by omega)]; exact n2, fun a ha => ?_, n4, fun i hi => by rw [up_ne _ _ (by decide)]; exact n5 i hi, n6⟩
        rw [u_ne _ _ (by omega), u_ne _ _ (by omega), u_ne _ _ (by omega), u_ne _ _ (by omega)]
        exact n3 a ha) (show 400 ≤ n by omega)
      rw [e1, e2]
      refine ⟨nI (wK (wsOf (fun i => if i = L then a0 else T i) (L + 1))), S', W, P, Q, YH, M', by
        rw [bnd_s]
        dsimp only
        rw [e3.1], by rw [bnd_s, e4.1], ⟨_, _, e5, e3, e4⟩, hO.rows (by rw [e6 4 (by decide) (by decide), up_ne _ _ (by decide), k4 4 (by decide) (by decide)]) (by rw [e6 5 (by decide) (by decide), up_ne _ _ (by decide), k4 5 (by decide) (by decide)]), k3.rows (by rw [e6 1 (by decide) (by decide), up_ne _ _ (by decide)]) (by rw [e6 2 (by decide) (by decide), up_ne _ _ (by decide)])⟩
theorem ok_cut {n : Nat} (hn : 1400 ≤ n) : OK_cut n INV := by
  intro XF XN XA XW XP XQ XO XH XM a0 hI
  have hI' := hI
  obtain ⟨⟨T, L, hR, hW, hM⟩, hO, hH⟩ := hI
  have hR' := hR
  obtain ⟨h1, h2, h3, h4, ⟨t, sp, j, r, t1, t2, t3, t4⟩, hPl, ⟨nt, m, pos, hN⟩, h13, h14⟩ := hR
  have hv := wsOf_VS (T := T) h1
  unfold fX5_cut fX6_cut
  rw [m_in, bnd_s]
  by_cases c1 : a0 < 1
  · rw [if_pos c1, if_pos (Or.inl c1), if_pos rfl]
    exact ⟨-1, XN, XW, XP, XQ, XH, XM, rfl, rfl, hI'⟩
  · rw [if_neg c1]
    by_cases c2 : 300 < a0
    · rw [if_neg (fun e => by rw [i_le] at e; exact e c2), if_pos (Or.inr c2), if_pos rfl]
      exact ⟨-1, XN, XW, XP, XQ, XH, XM, rfl, rfl, hI'⟩
    · rw [if_pos (i_le.mpr c2), if_neg (show ¬ (a0 < 1 ∨ 300 < a0) from fun q => q.elim c1 c2), if_neg (show ¬ (1 : Int32) = 0 from by decide)]
      obtain ⟨a, ha, rfl⟩ := nI_of (x := a0) (fun e => c1 (Int32.lt_trans e (by decide)))
      have a1 : 1 ≤ a := by
        by_cases z : 1 ≤ a
        · exact z
        · exact absurd ((lt_l2 (a := a) (k := 1) ha (by decide)).mpr (by omega)) c1
      rw [h2, rd_l (k := 0) _ (by omega) (by omega), bnd_s, h3]
      by_cases c3 : a ≤ L
      · rw [if_pos (nI_le c3 (by omega)), if_pos (nI_le c3 (by omega))]
        obtain ⟨YH, M1, k1, k2, k3, k4⟩ := keepJ hR' hH hn
        have m0 : M1 0 = XM 0 := k4 0 (by decide) (by decide)
        rw [k1, bnd_s, n_sub c3, k2, bnd_s, m0, rd_l (k := 0) _ (by omega) (by omega), bnd_s, h3, n_sub c3, wr_l (k := 0) _ _ (by omega) (by omega), bnd_s, sl_s]
        obtain ⟨S', W, P, Q, M', e1, e2, e3, e4, e5, e6⟩ := anewJ (T := T) (L := L - a) (S := XN) (XW := XW) (XP := XP) (XQ := XQ) (XM := va_up M1 0 (upd (XM 0) 0 (nI (L - a)))) (t := t) (sp := sp) (K := wK (wsOf T L)) (sh := fun i => ¬ wkd (wsOf T L) i = 3) (nt := nt) (m := m) (pos := pos) (by omega) (up_eq _ _ _) (u_eq _ _ _) (fun i hi => by
          rw [u_ne _ _ (by omega)]; exact h4 i (by omega)) t1 t2 (by intro z hz; rw [u_ne _ _ (by omega)]; exact t3 z hz) t4.1 t4.2.1 (by intro z hz; rw [u_ne _ _ (by omega)]; exact t4.2.2.1 z hz) (by rw [u_ne _ _ (by omega)]; exact t4.2.2.2.2.2.2.2.2.2.2.2.2.2.2.2) (by rw [u_ne _ _ (by omega)]; exact h13) (by rw [u_ne _ _ (by omega)]; exact h14) hv.1 (by
          obtain ⟨n1, n2, n3, n4, n5, n6⟩ := hN
          refine ⟨n1, by rw [u_ne _ _ (by omega)]; exact n2, fun a ha => ?_, n4, n5, n6⟩
          rw [u_ne _ _ (by omega), u_ne _ _ (by omega)]
          exact n3 a ha) (show 400 ≤ n by omega)
        rw [e1, e2]
        refine ⟨nI (L - a), S', W, P, Q, YH, M', by
          rw [bnd_s]
          dsimp only
          rw [e5.2.1], by rw [bnd_s, rd_l (k := 0) _ (by omega) (by omega), bnd_s, e5.2.2.1], ⟨_, _, e5, e3, e4⟩, hO.rows (by rw [e6 4 (by decide) (by decide), up_ne _ _ (by decide), k4 4 (by decide) (by decide)]) (by rw [e6 5 (by decide) (by decide), up_ne _ _ (by decide), k4 5 (by decide) (by decide)]), k3.rows (by rw [e6 1 (by decide) (by decide), up_ne _ _ (by decide)]) (by rw [e6 2 (by decide) (by decide), up_ne _ _ (by decide)])⟩
      · rw [if_neg (nI_ge (by omega) (by omega)), if_neg (nI_ge (by omega) (by omega))]
        exact ⟨-2, XN, XW, XP, XQ, XH, XM, rfl, rfl, hI'⟩
theorem ok_undo {n : Nat} (hn : 1400 ≤ n) : OK_undo n INV := by
  intro XF XN XA XW XP XQ XO XH XM hI
  obtain ⟨hR, hO, hH⟩ := hI
  obtain ⟨r, YN, YW, YP, YQ, YH, YM, a1, a2, a3, a4, a5⟩ := undoJ (XF := XF) (XN := XN) (XW := XW) (XP := XP) (XQ := XQ) hH hn
  refine ⟨r, YN, YW, YP, YQ, YH, YM, a1, a2, ?_, hO.rows (a4 4 (by decide) (by decide)) (a4 5 (by decide) (by decide)), a3⟩
  rcases a5 with ⟨rfl, rfl, rfl, rfl, rfl⟩ | a5
  · exact hR
  · exact a5
