/-! set, speed, note, unnote -/
theorem RC.upd {w : WS} {t t' sp : Nat → Nat} {S S' : DM} {d d' : Nat → Int32} {j r : Nat} (h : RC w t sp S d j r) (hs : ∀ k, (k = 4 ∨ k = 6 ∨ k = 7 ∨ k = 10 ∨ k = 11 ∨ k = 12) → S' k = S k) (hd : ∀ z, (z = 301 ∨ z = 302 ∨ (330 ≤ z ∧ z ≤ 332) ∨ (340 ≤ z ∧ z ≤ 345)) → d' z = d z) : RC w t' sp S' d' j r := by
  obtain ⟨k1, k2, k3, k4, k5, k6, k7, k8, k9, k10, k11, k12, k13, k14, k15, k16⟩ := h
  refine ⟨k1, ?_, fun z hz => by rw [hd _ (by omega)]; exact k3 z hz, k4, k5, ?_, ?_, ?_, ?_, k10, k11, ?_, ?_, ?_, fun q => ?_, ?_⟩
  · rw [hs 4 (by decide)]; exact k2
  · rw [hs 6 (by decide)]; exact k6
  · rw [hd 301 (by omega)]; exact k7
  · rw [hs 7 (by decide)]; exact k8
  · rw [hd 302 (by omega)]; exact k9
  · exact RLat.same k12 (fun i _ => by rw [hs 10 (by decide)]) (fun z z1 z2 => hd z (by omega))
  · rw [hs 11 (by decide)]; exact k13
  · rw [hd 344 (by omega)]; exact k14
  · rw [hs 11 (by decide), hd 344 (by omega)]; exact k15 q
  · rw [hs 12 (by decide), hd 345 (by omega)]; exact k16
theorem m_set {j : Nat} (hj : j < 7) (x : Int32) : fX6_isSetting (nI j) x = some (if x < lowS j ∨ highS j < x then 0 else 1) := by
  rcases (show j = 0 ∨ j = 1 ∨ j = 2 ∨ j = 3 ∨ j = 4 ∨ j = 5 ∨ j = 6 by omega) with rfl | rfl | rfl | rfl | rfl | rfl | rfl
  · unfold fX6_isSetting
    simp only [sl_s, m_in, bnd_s]
    rw [if_pos (show nI 0 = (0 : Int32) from rfl)]; rfl
  · unfold fX6_isSetting
    simp only [sl_s, m_in, bnd_s]
    rw [if_neg (show ¬ nI 1 = (0 : Int32) from by decide), if_pos (show nI 1 = (1 : Int32) from rfl)]; rfl
  · unfold fX6_isSetting
    simp only [sl_s, m_in, bnd_s]
    rw [if_neg (show ¬ nI 2 = (0 : Int32) from by decide), if_neg (show ¬ nI 2 = (1 : Int32) from by decide), if_pos (show nI 2 = (2 : Int32) from rfl)]; rfl
  · unfold fX6_isSetting
    simp only [sl_s, m_in, bnd_s]
    rw [if_neg (show ¬ nI 3 = (0 : Int32) from by decide), if_neg (show ¬ nI 3 = (1 : Int32) from by decide), if_neg (show ¬ nI 3 = (2 : Int32) from by decide), if_pos (show nI 3 = (3 : Int32) from rfl)]; rfl
  · unfold fX6_isSetting
    simp only [sl_s, m_in, bnd_s]
    rw [if_neg (show ¬ nI 4 = (0 : Int32) from by decide), if_neg (show ¬ nI 4 = (1 : Int32) from by decide), if_neg (show ¬ nI 4 = (2 : Int32) from by decide), if_neg (show ¬ nI 4 = (3 : Int32) from by decide), if_pos (show nI 4 = (4 : Int32) from rfl)]; rfl
  · unfold fX6_isSetting
    simp only [sl_s, m_in, bnd_s]
    rw [if_neg (show ¬ nI 5 = (0 : Int32) from by decide), if_neg (show ¬ nI 5 = (1 : Int32) from by decide), if_neg (show ¬ nI 5 = (2 : Int32) from by decide), if_neg (show ¬ nI 5 = (3 : Int32) from by decide), if_neg (show ¬ nI 5 = (4 : Int32) from by decide), if_pos (show nI 5 = (5 : Int32) from rfl)]; rfl
  · unfold fX6_isSetting
    simp only [sl_s, m_in, bnd_s]
    rw [if_neg (show ¬ nI 6 = (0 : Int32) from by decide), if_neg (show ¬ nI 6 = (1 : Int32) from by decide), if_neg (show ¬ nI 6 = (2 : Int32) from by decide), if_neg (show ¬ nI 6 = (3 : Int32) from by decide), if_neg (show ¬ nI 6 = (4 : Int32) from by decide), if_neg (show ¬ nI 6 = (5 : Int32) from by decide), if_pos (show nI 6 = (6 : Int32) from rfl)]; rfl
theorem m_set_out {y : Int32} (h : y < 0 ∨ ¬ y < 7) (x : Int32) : fX6_isSetting y x = some 0 := by
  have ne : ∀ k : Int32, ¬ (k < 0 ∨ ¬ k < 7) → ¬ y = k := fun k hk e => hk (e ▸ h)
  unfold fX6_isSetting
  simp only [sl_s]
  rw [if_neg (ne 0 (by decide)), if_neg (ne 1 (by decide)), if_neg (ne 2 (by decide)), if_neg (ne 3 (by decide)), if_neg (ne 4 (by decide)), if_neg (ne 5 (by decide)), if_neg (ne 6 (by decide))]
def loN (j : Nat) : Nat := if j = 0 then 1 else if j = 1 then 1 else if j = 2 then 100 else if j = 3 then 100 else if j = 4 then 100 else 0
def hiN (j : Nat) : Nat := if j = 0 then 50 else if j = 1 then 10 else if j = 2 then 400 else if j = 3 then 400 else if j = 4 then 300 else if j = 5 then 50 else 20
theorem lo_hi {j : Nat} (hj : j < 7) : lowS j = nI (loN j) ∧ highS j = nI (hiN j) ∧ loN j ≤ 400 ∧ hiN j ≤ 400 := by
  rcases (show j = 0 ∨ j = 1 ∨ j = 2 ∨ j = 3 ∨ j = 4 ∨ j = 5 ∨ j = 6 by omega) with rfl | rfl | rfl | rfl | rfl | rfl | rfl <;> exact ⟨rfl, rfl, by decide, by decide⟩
theorem VT_set {t : Nat → Nat} (h : VT t) {j b : Nat} (hj : j < 7) (h1 : loN j ≤ b) (h2 : b ≤ hiN j) : VT (fun i => if i = j then b else t i) := by
  unfold VT at h ⊢
  rcases (show j = 0 ∨ j = 1 ∨ j = 2 ∨ j = 3 ∨ j = 4 ∨ j = 5 ∨ j = 6 by omega) with rfl | rfl | rfl | rfl | rfl | rfl | rfl <;> simp [loN, hiN] at h1 h2 ⊢ <;> omega
theorem ok_set {n : Nat} (hn : 1400 ≤ n) : OK_set n INV := by
  intro XF XN XA XW XP XQ XO XH XM a0 a1 hI
  have hI' := hI
  obtain ⟨⟨T, L, hR, hW, hM⟩, hO, hH⟩ := hI
  have hR' := hR
  obtain ⟨h1, h2, h3, h4, ⟨t, sp, j, r, t1, t2, t3, t4⟩, ⟨k, pl, p0, p1, p2, p3⟩, ⟨nt, m, pos, n1, n2, n3, n4, n5, n6⟩, h13, h14⟩ := hR
  unfold fX5_set fX6_set
  by_cases c1 : a0 < 0
  · rw [if_pos c1, m_set_out (Or.inl c1), bnd_s, if_pos rfl]
    exact ⟨-1, XN, XH, XM, rfl, rfl, hI'⟩
  · rw [if_neg c1]
    by_cases c2 : a0 < 7
    · rw [if_pos c2]
      obtain ⟨x, hx, rfl⟩ := nI_of c1
      have hx7 : x < 7 := (lt_l2 (a := x) (k := 7) hx (by decide)).mp c2
      obtain ⟨l1, l2, l3, l4⟩ := lo_hi hx7
      rw [at_in _ hx7 (by omega), bnd_s, m_set hx7, bnd_s, l1, l2]
      by_cases c3 : a1 < nI (loN x)
      · rw [if_pos c3, if_pos (Or.inl c3), if_pos rfl]
        exact ⟨-1, XN, XH, XM, rfl, rfl, hI'⟩
      · rw [if_neg c3, at_in _ hx7 (by omega), bnd_s, l2]
        by_cases c4 : nI (hiN x) < a1
        · rw [if_neg (show ¬ a1 ≤ nI (hiN x) from fun e => by rw [i_le] at e; exact e c4), if_pos (Or.inr c4), if_pos rfl]
          exact ⟨-1, XN, XH, XM, rfl, rfl, hI'⟩
        · rw [if_pos (i_le.mpr c4), if_neg (show ¬ (a1 < nI (loN x) ∨ nI (hiN x) < a1) from fun q => q.elim c3 c4), if_neg (show ¬ (1 : Int32) = 0 from by decide)]
          obtain ⟨b, hb, rfl⟩ := nI_of (x := a1) (fun e => c3 (Int32.lt_of_lt_of_le e (i_le.mpr (nI_pos (by omega)))))
          have b1 : loN x ≤ b := by
            by_cases z : loN x ≤ b
            · exact z
            · exact absurd (nI_lt (by omega) (by omega)) c3
          have b2 : b ≤ hiN x := by
            by_cases z : b ≤ hiN x
            · exact z
            · exact absurd (nI_lt (by omega) (by omega)) c4
          obtain ⟨YH, M1, k1, k2, k3, k4⟩ := keepJ hR' hH hn
          have m0 : M1 0 = XM 0 := k4 0 (by decide) (by decide)
          rw [k1, bnd_s, at_in _ hx7 (by omega), bnd_s, put_in _ _ hx7 (by omega), bnd_s, sl_s, k2, bnd_s, m0, lit_n 333, nI_add, rd_in _ (by omega) (by omega), bnd_s, wr_in _ _ (by omega) (by omega), bnd_s, sl_s, t2 x hx7, t3 x hx7]
          refine ⟨_, _, YH, _, rfl, rfl, INV.of hW hM hO k3 k4 ⟨h1, ?_, ?_, fun i hi => ?_, ⟨fun i => if i = x then b else t i, sp, j, r, VT_set t1 hx7 b1 b2, fun z hz => ?_, fun z hz => ?_, t4.upd (fun k hk => up_ne _ _ (by omega)) (fun z hz => u_ne _ _ (by omega))⟩, ⟨k, pl, p0, ?_, ?_, fun i hi => ?_⟩, ⟨nt, m, pos, n1, ?_, fun a ha => ?_, n4, fun i hi => ?_, n6⟩, ?_, ?_⟩⟩
          · rw [up_ne _ _ (by decide)]; exact h2
          · rw [u_ne _ _ (by omega)]; exact h3
          · rw [up_ne _ _ (by decide), u_ne _ _ (by omega)]; exact h4 i hi
          · rw [up_eq]
            dsimp only
            by_cases y : z = x
            · subst y; rw [u_eq, if_pos rfl]
            · rw [u_ne _ _ y, if_neg y]; exact t2 z hz
          · dsimp only
            by_cases y : z = x
            · subst y; rw [u_eq, if_pos rfl]
            · rw [u_ne _ _ (by omega), if_neg y]; exact t3 z hz
          · rw [up_ne _ _ (by decide)]; exact p1
          · rw [u_ne _ _ (by omega)]; exact p2
          · rw [up_ne _ _ (by decide), u_ne _ _ (by omega)]; exact p3 i hi
          · rw [u_ne _ _ (by omega)]; exact n2
          · rw [u_ne _ _ (by omega), u_ne _ _ (by omega)]; exact n3 a ha
          · rw [up_ne _ _ (by decide)]; exact n5 i hi
          · rw [up_ne _ _ (by decide), u_ne _ _ (by omega)]; exact h13
          · rw [up_ne _ _ (by decide), u_ne _ _ (by omega)]; exact h14
    · rw [if_neg c2, m_set_out (Or.inr c2), bnd_s, if_pos rfl]
      exact ⟨-1, XN, XH, XM, rfl, rfl, hI'⟩
theorem ok_speed {n : Nat} (hn : 1400 ≤ n) : OK_speed n INV := by
  intro XF XN XA XW XP XQ XO XH XM a0 a1 hI
  have hI' := hI
  obtain ⟨⟨T, L, hR, hW, hM⟩, hO, hH⟩ := hI
  have hR' := hR
  obtain ⟨h1, h2, h3, h4, ⟨t, sp, j, r, t1, t2, t3, t4⟩, ⟨k, pl, p0, p1, p2, p3⟩, ⟨nt, m, pos, n1, n2, n3, n4, n5, n6⟩, h13, h14⟩ := hR
  unfold fX5_speed fX6_speed
  rw [m_in, bnd_s, m_in, bnd_s]
  by_cases c1 : a0 < 0
  · rw [if_pos c1, if_pos (Or.inl c1), if_pos rfl]
    exact ⟨-1, XN, XH, XM, rfl, rfl, hI'⟩
  · obtain ⟨x, hx, rfl⟩ := nI_of c1
    rw [if_neg c1]
    by_cases c2 : 3 ≤ nI x
    · have : (2 : Int32) < nI x := Int32.lt_of_lt_of_le (show (2 : Int32) < 3 by decide) c2
      rw [if_pos c2, if_pos (Or.inr this), if_pos rfl]
      exact ⟨-1, XN, XH, XM, rfl, rfl, hI'⟩
    · have hx3 : x < 3 := by
        by_cases z : x < 3
        · exact z
        · exact absurd ((le_l1 (k := 3) (a := x) (by decide) hx).mpr (by omega)) c2
      have e2 : ¬ (nI x < 0 ∨ 2 < nI x) := fun q => q.elim c1 (fun z => by rw [lt_l1 (k := 2) (a := x) (by decide) hx] at z; omega)
      rw [if_neg c2, if_neg e2, if_neg (show ¬ (1 : Int32) = 0 from by decide)]
      by_cases c3 : a1 < 50
      · rw [if_pos c3, if_pos (Or.inl c3), if_pos rfl]
        exact ⟨-1, XN, XH, XM, rfl, rfl, hI'⟩
      · rw [if_neg c3]
        by_cases c4 : 400 < a1
        · rw [if_neg (show ¬ a1 ≤ 400 from fun e => by rw [i_le] at e; exact e c4), if_pos (Or.inr c4), if_pos rfl]
          exact ⟨-1, XN, XH, XM, rfl, rfl, hI'⟩
        · rw [if_pos (i_le.mpr c4), if_neg (show ¬ (a1 < 50 ∨ 400 < a1) from fun q => q.elim c3 c4), if_neg (show ¬ (1 : Int32) = 0 from by decide)]
          obtain ⟨b, hb, rfl⟩ := nI_of (x := a1) (fun e => c3 (Int32.lt_trans e (by decide)))
          have b1 : 50 ≤ b := by
            by_cases z : 50 ≤ b
            · exact z
            · exact absurd ((lt_l2 (a := b) (k := 50) hb (by decide)).mpr (by omega)) c3
          have b2 : b ≤ 400 := by
            by_cases z : b ≤ 400
            · exact z
            · exact absurd ((lt_l1 (k := 400) (a := b) (by decide) hb).mpr (by omega)) c4
          obtain ⟨YH, M1, k1, k2, k3, k4⟩ := keepJ hR' hH hn
          have m0 : M1 0 = XM 0 := k4 0 (by decide) (by decide)
          obtain ⟨q1, q2, q3, q4, q5, q6, q7, q8, q9, q10, q11, q12, q13, q14, q15, q16⟩ := t4
          rw [k1, bnd_s, at_in _ hx3 (by omega), bnd_s, put_in _ _ hx3 (by omega), bnd_s, sl_s, k2, bnd_s, m0, lit_n 330, nI_add, rd_in _ (by omega) (by omega), bnd_s, wr_in _ _ (by omega) (by omega), bnd_s, sl_s, q2 x hx3, q3 x hx3]
          refine ⟨_, _, YH, _, rfl, rfl, INV.of hW hM hO k3 k4 ⟨h1, ?_, ?_, fun i hi => ?_, ⟨t, fun i => if i = x then b else sp i, j, r, t1, ?_, fun z hz => ?_, ⟨fun z hz => ?_, fun z hz => ?_, fun z hz => ?_, q4, q5, ?_, ?_, ?_, ?_, q10, q11, ?_, ?_, ?_, fun y => ?_, ?_⟩⟩, ⟨k, pl, p0, ?_, ?_, fun i hi => ?_⟩, ⟨nt, m, pos, n1, ?_, fun a ha => ?_, n4, fun i hi => ?_, n6⟩, ?_, ?_⟩⟩
          · rw [up_ne _ _ (by decide)]; exact h2
          · rw [u_ne _ _ (by omega)]; exact h3
          · rw [up_ne _ _ (by decide), u_ne _ _ (by omega)]; exact h4 i hi
          · rw [up_ne _ _ (by decide)]; exact t2
          · rw [u_ne _ _ (by omega)]; exact t3 z hz
          · dsimp only
            by_cases y : z = x
            · rw [if_pos y]; exact ⟨b1, b2⟩
            · rw [if_neg y]; exact q1 z hz
          · rw [up_eq]
            dsimp only
            by_cases y : z = x
            · subst y; rw [u_eq, if_pos rfl]
            · rw [u_ne _ _ y, if_neg y]; exact q2 z hz
          · dsimp only
            by_cases y : z = x
            · subst y; rw [u_eq, if_pos rfl]
            · rw [u_ne _ _ (by omega), if_neg y]; exact q3 z hz
          · rw [up_ne _ _ (by decide)]; exact q6
          · rw [u_ne _ _ (by omega)]; exact q7
          · rw [up_ne _ _ (by decide)]; exact q8
          · rw [u_ne _ _ (by omega)]; exact q9
          · exact RLat.same q12 (fun i _ => by rw [up_ne _ _ (by decide)]) (fun z z1 z2 => u_ne _ _ (by omega))
          · rw [up_ne _ _ (by decide)]; exact q13
          · rw [u_ne _ _ (by omega)]; exact q14
          · rw [up_ne _ _ (by decide), u_ne _ _ (by omega)]; exact q15 y
          · rw [up_ne _ _ (by decide), u_ne _ _ (by omega)]; exact q16
          · rw [up_ne _ _ (by decide)]; exact p1
          · rw [u_ne _ _ (by omega)]; exact p2
          · rw [up_ne _ _ (by decide), u_ne _ _ (by omega)]; exact p3 i hi
          · rw [u_ne _ _ (by omega)]; exact n2
          · rw [u_ne _ _ (by omega), u_ne _ _ (by omega)]; exact n3 a ha
          · rw [up_ne _ _ (by decide)]; exact n5 i hi
          · rw [up_ne _ _ (by decide), u_ne _ _ (by omega)]; exact h13
          · rw [up_ne _ _ (by decide), u_ne _ _ (by omega)]; exact h14
