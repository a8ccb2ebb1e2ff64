/-! copies, the history -/
def agS (S S' : DM) : Prop := (∀ i, i < 300 → S' 1 i = S 1 i) ∧ S' 2 0 = S 2 0 ∧ (∀ i, i < 7 → S' 3 i = S 3 i) ∧ (∀ i, i < 3 → S' 4 i = S 4 i) ∧ (∀ i, i < 150 → S' 5 i = S 5 i) ∧ S' 6 0 = S 6 0 ∧ S' 7 0 = S 7 0 ∧ (∀ i, i < 5 → S' 8 i = S 8 i) ∧ S' 9 0 = S 9 0 ∧ (∀ i, i < 3 → S' 10 i = S 10 i) ∧ S' 11 0 = S 11 0 ∧ S' 12 0 = S 12 0 ∧ S' 13 0 = S 13 0 ∧ S' 14 0 = S 14 0
def agD (d d' : Nat → Int32) : Prop := ∀ k, k < 348 → d' k = d k
theorem RC.ag {w : WS} {t sp : Nat → Nat} {S S' : DM} {d d' : Nat → Int32} {j r : Nat} (h : RC w t sp S d j r) (hs : agS S S') (hd : agD d d') : RC w t sp S' d' j r := by
  obtain ⟨k1, k2, k3, k4, k5, k6, k7, k8, k9, k10, k11, k12, k13, k14, k15, k16⟩ := h
  obtain ⟨s1, s2, s3, s4, s5, s6, s7, s8, s9, s10, s11, s12, s13, s14⟩ := hs
  exact ⟨k1, fun z hz => by rw [s4 z hz]; exact k2 z hz, fun z hz => by rw [hd _ (by omega)]; exact k3 z hz, k4, k5, by rw [s6]; exact k6, by rw [hd _ (by omega)]; exact k7, by rw [s7]; exact k8, by rw [hd _ (by omega)]; exact k9, k10, k11, RLat.same k12 s10 (fun z z1 z2 => hd z (by omega)), by rw [s11]; exact k13, by rw [hd _ (by omega)]; exact k14, fun q => by rw [s11, hd _ (by omega)]; exact k15 q, by rw [s12, hd _ (by omega)]; exact k16⟩
theorem RN.ag {T : Nat → Int32} {L : Nat} {S S' : DM} {d d' : Nat → Int32} (h : RN T L S d) (hs : agS S S') (hd : agD d d') : RN T L S' d' := by
  obtain ⟨h1, h2, h3, h4, ⟨t, sp, j, r, t1, t2, t3, t4⟩, ⟨k, pl, p1, p2, p3, p4⟩, ⟨nt, m, pos, n1, n2, n3, n4, n5, n6⟩, h13, h14⟩ := h
  have hs' := hs
  obtain ⟨s1, s2, s3, s4, s5, s6, s7, s8, s9, s10, s11, s12, s13, s14⟩ := hs
  refine ⟨h1, by rw [s2]; exact h2, by rw [hd _ (by omega)]; exact h3, fun i hi => by rw [s1 i (by omega), hd _ (by omega)]; exact h4 i hi, ⟨t, sp, j, r, t1, fun z hz => by rw [s3 z hz]; exact t2 z hz, fun z hz => by rw [hd _ (by omega)]; exact t3 z hz, t4.ag hs' hd⟩, ⟨k, pl, p1, by rw [s9]; exact p2, by rw [hd _ (by omega)]; exact p3, fun i hi => by rw [s8 i (by omega), hd _ (by omega)]; exact p4 i hi⟩, ⟨nt, m, pos, n1, by rw [hd _ (by omega)]; exact n2, fun a ha => by rw [hd _ (by omega), hd _ (by omega)]; exact n3 a ha, n4, fun i hi => by rw [s5 i hi]; exact n5 i hi, n6⟩, by rw [s13, hd _ (by omega)]; exact h13, by rw [s14, hd _ (by omega)]; exact h14⟩
theorem agD.refl (d : Nat → Int32) : agD d d := fun _ _ => rfl
theorem copyRow_ok (N : Nat) (hN : N < 2 ^ 31) (f g : Nat → Int32) : ∃ f' : Nat → Int32, fX5_copyRow N f N g = some f' ∧ ∀ i, i < N → f' i = f i := by
  unfold fX5_copyRow
  rw [if_neg (nI_nlt (Nat.le_refl _) hN), sl_s]
  unfold cpA
  have e : (nI N).toNatClampNeg = N := nI_clamp hN
  rw [if_pos ⟨by decide, by decide, nI_pos hN, by rw [e]; exact Nat.le_of_eq (Nat.zero_add N), by rw [e]; exact Nat.le_of_eq (Nat.zero_add N)⟩, bnd_s]
  refine ⟨_, rfl, fun i hi => ?_⟩
  rw [e]
  simp [va_cpy, hi]
theorem c_copy (S X : DM) (h : X 11 0 = 0 ∨ X 11 0 = 1) : ∃ S' : DM, fX3_copy S X = some S' ∧ agS X S' := by
  unfold fX3_copy
  simp only [sl_s]
  obtain ⟨f1, a1, b1⟩ := copyRow_ok 300 (by decide) (X 1) (S 1)
  rw [a1, bnd_s, show (va_up (va_up S 1 f1) 2 (fun _ => X 2 0)) 3 = S 3 from by rw [up_ne _ _ (by decide), up_ne _ _ (by decide)]]
  obtain ⟨f3, a3, b3⟩ := copyRow_ok 7 (by decide) (X 3) (S 3)
  rw [a3, bnd_s]
  generalize hA : va_up (va_up (va_up S 1 f1) 2 (fun _ => X 2 0)) 3 f3 = A
  obtain ⟨f4, a4, b4⟩ := copyRow_ok 3 (by decide) (X 4) (A 4)
  rw [a4, bnd_s, show (va_up A 4 f4) 5 = A 5 from up_ne _ _ (by decide)]
  obtain ⟨f5, a5, b5⟩ := copyRow_ok 150 (by decide) (X 5) (A 5)
  rw [a5, bnd_s]
  generalize hB : va_up (va_up (va_up (va_up A 4 f4) 5 f5) 6 (fun _ => X 6 0)) 7 (fun _ => X 7 0) = B
  obtain ⟨f8, a8, b8⟩ := copyRow_ok 5 (by decide) (X 8) (B 8)
  rw [a8, bnd_s, show (va_up (va_up B 8 f8) 9 (fun _ => X 9 0)) 10 = B 10 from by rw [up_ne _ _ (by decide), up_ne _ _ (by decide)]]
  obtain ⟨f10, a10, b10⟩ := copyRow_ok 3 (by decide) (X 10) (B 10)
  rw [a10, bnd_s]
  unfold zA
  rw [if_pos h, bnd_s]
  have eA : ∀ k, 3 < k → A k = S k := fun k hk => by rw [← hA, up_ne _ _ (by omega), up_ne _ _ (by omega), up_ne _ _ (by omega)]
  have eB : ∀ k, 7 < k → B k = S k := fun k hk => by rw [← hB, up_ne _ _ (by omega), up_ne _ _ (by omega), up_ne _ _ (by omega), up_ne _ _ (by omega), eA k (by omega)]
  have eB' : ∀ k, k < 4 → B k = A k := fun k hk => by rw [← hB, up_ne _ _ (by omega), up_ne _ _ (by omega), up_ne _ _ (by omega), up_ne _ _ (by omega)]
  generalize hC : va_up (va_up (va_up (va_up (va_up (va_up (va_up B 8 f8) 9 (fun _ => X 9 0)) 10 f10) 11 (fun _ => X 11 0)) 12 (fun _ => X 12 0)) 13 (fun _ => X 13 0)) 14 (fun _ => X 14 0) = C
  have eC : ∀ k, k < 8 → C k = B k := fun k hk => by rw [← hC, up_ne _ _ (by omega), up_ne _ _ (by omega), up_ne _ _ (by omega), up_ne _ _ (by omega), up_ne _ _ (by omega), up_ne _ _ (by omega), up_ne _ _ (by omega)]
  refine ⟨C, rfl, fun i hi => ?_, ?_, fun i hi => ?_, fun i hi => ?_, fun i hi => ?_, ?_, ?_, fun i hi => ?_, ?_, fun i hi => ?_, ?_, ?_, ?_, ?_⟩
  · rw [eC 1 (by decide), eB' 1 (by decide), ← hA, up_ne _ _ (by decide), up_ne _ _ (by decide), up_eq]; exact b1 i hi
  · rw [eC 2 (by decide), eB' 2 (by decide), ← hA, up_ne _ _ (by decide), up_eq]
  · rw [eC 3 (by decide), eB' 3 (by decide), ← hA, up_eq]; exact b3 i hi
  · rw [eC 4 (by decide), ← hB, up_ne _ _ (by decide), up_ne _ _ (by decide), up_ne _ _ (by decide), up_eq]; exact b4 i hi
  · rw [eC 5 (by decide), ← hB, up_ne _ _ (by decide), up_ne _ _ (by decide), up_eq]; exact b5 i hi
  · rw [eC 6 (by decide), ← hB, up_ne _ _ (by decide), up_eq]
  · rw [eC 7 (by decide), ← hB, up_eq]
  · rw [← hC, up_ne _ _ (by decide), up_ne _ _ (by decide), up_ne _ _ (by decide), up_ne _ _ (by decide), up_ne _ _ (by decide), up_ne _ _ (by decide), up_eq]; exact b8 i hi
  · rw [← hC, up_ne _ _ (by decide), up_ne _ _ (by decide), up_ne _ _ (by decide), up_ne _ _ (by decide), up_ne _ _ (by decide), up_eq]
  · rw [← hC, up_ne _ _ (by decide), up_ne _ _ (by decide), up_ne _ _ (by decide), up_ne _ _ (by decide), up_eq]; exact b10 i hi
  · rw [← hC, up_ne _ _ (by decide), up_ne _ _ (by decide), up_ne _ _ (by decide), up_eq]
  · rw [← hC, up_ne _ _ (by decide), up_ne _ _ (by decide), up_eq]
  · rw [← hC, up_ne _ _ (by decide), up_eq]
  · rw [← hC, up_eq]
theorem m_shift_L (n : Nat) (kk : DM → Option DM) : ∀ (k i : Nat), i + k = 1044 → ∀ fu, k < fu → ∀ XM : DM, ∃ X' : DM, fX6_records_L10 n kk fu (nI i) XM = kk X' ∧ (∀ j, i ≤ j → j < 1044 → X' 1 j = XM 1 (j + 348)) ∧ (∀ j, j < i → X' 1 j = XM 1 j) ∧ ∀ r, r ≠ 1 → X' r = XM r := by
  intro k
  induction k with
  | zero =>
    intro i hi fu hfu XM
    obtain ⟨fu, rfl⟩ : ∃ z, fu = z + 1 := ⟨fu - 1, by omega⟩
    unfold fX6_records_L10
    rw [if_pos ((le_l1 (k := 1044) (a := i) (by omega) (by omega)).mpr (by omega))]
    exact ⟨XM, rfl, fun j a b => by omega, fun _ _ => rfl, fun _ _ => rfl⟩
  | succ k ih =>
    intro i hi fu hfu XM
    obtain ⟨fu, rfl⟩ : ∃ z, fu = z + 1 := ⟨fu - 1, by omega⟩
    unfold fX6_records_L10
    rw [if_neg (fun e => absurd ((le_l1 (k := 1044) (a := i) (by omega) (by omega)).mp e) (by omega)), lit_n 348, nI_add, rd_in _ (by omega) (by omega), bnd_s, wr_in _ _ (by omega) (by omega), bnd_s, sl_s, sl_s, nI_1]
    obtain ⟨X', e1, e2, e3, e4⟩ := ih (i + 1) (by omega) fu (by omega) (va_up XM 1 (upd (XM 1) i (XM 1 (i + 348))))
    refine ⟨X', e1, fun j a b => ?_, fun j a => ?_, fun r hr => by rw [e4 r hr, up_ne _ _ hr]⟩
    · by_cases z : j = i
      · subst z; rw [e3 j (by omega), up_eq, u_eq]
      · rw [e2 j (by omega) b, up_eq, u_ne _ _ (by omega)]
    · rw [e3 j (by omega), up_eq, u_ne _ _ (by omega)]
theorem m_rec_L (n : Nat) (kk : DM → Option DM) {h : Nat} (hh : h < 4) : ∀ (k i : Nat), i + k = 348 → ∀ fu, k < fu → ∀ XM : DM, XM 2 0 = nI h → ∃ X' : DM, fX6_records_L51 n kk fu (nI i) XM = kk X' ∧ (∀ j, i ≤ j → j < 348 → X' 1 (348 * h + j) = XM 0 j) ∧ (∀ j, (j < 348 * h + i ∨ 348 * h + 348 ≤ j) → X' 1 j = XM 1 j) ∧ ∀ r, r ≠ 1 → X' r = XM r := by
  intro k
  induction k with
  | zero =>
    intro i hi fu hfu XM h2
    obtain ⟨fu, rfl⟩ : ∃ z, fu = z + 1 := ⟨fu - 1, by omega⟩
    unfold fX6_records_L51
    rw [if_pos ((le_l1 (k := 348) (a := i) (by omega) (by omega)).mpr (by omega))]
    exact ⟨XM, rfl, fun j a b => by omega, fun _ _ => rfl, fun _ _ => rfl⟩
  | succ k ih =>
    intro i hi fu hfu XM h2
    obtain ⟨fu, rfl⟩ : ∃ z, fu = z + 1 := ⟨fu - 1, by omega⟩
    unfold fX6_records_L51
    rw [if_neg (fun e => absurd ((le_l1 (k := 348) (a := i) (by omega) (by omega)).mp e) (by omega)), rd_in _ (by omega) (by omega), bnd_s, h2, lit_n 348, pk_mul, nI_add, wr_in _ _ (by omega) (by omega), bnd_s, sl_s, sl_s, nI_1]
    obtain ⟨X', e1, e2, e3, e4⟩ := ih (i + 1) (by omega) fu (by omega) (va_up XM 1 (upd (XM 1) (348 * h + i) (XM 0 i))) (by rw [up_ne _ _ (by decide)]; exact h2)
    refine ⟨X', e1, fun j a b => ?_, fun j a => ?_, fun r hr => by rw [e4 r hr, up_ne _ _ hr]⟩
    · by_cases z : j = i
      · subst z; rw [e3 _ (by omega), up_eq, u_eq]
      · rw [e2 j (by omega) b, up_ne _ _ (by decide)]
    · rw [e3 j (by omega), up_eq, u_ne _ _ (by omega)]
def RH (XH : HD) (XM : DM) : Prop := ∃ h : Nat, h ≤ 4 ∧ XH.2.1 1 0 = nI h ∧ XM 2 0 = nI h ∧ (∀ i, i < 4 → XH.1 i < 4) ∧ (∀ i j, i < 4 → j < 4 → XH.1 i = XH.1 j → i = j) ∧ ∀ i, i < h → ∃ (T : Nat → Int32) (L : Nat), RN T L (XH.2.2 (XH.1 i)) (fun k => XM 1 (348 * i + k))
theorem keepK {T : Nat → Int32} {L : Nat} {S XM : DM} {XH : HD} (hR : RN T L S (XM 0)) {h : Nat} (hh : h < 4) (h1 : XH.2.1 1 0 = nI h) (h2 : XM 2 0 = nI h) (h3 : ∀ i, i < 4 → XH.1 i < 4) (h4 : ∀ i j, i < 4 → j < 4 → XH.1 i = XH.1 j → i = j) (h5 : ∀ i, i < h → ∃ (T : Nat → Int32) (L : Nat), RN T L (XH.2.2 (XH.1 i)) (fun k => XM 1 (348 * i + k))) {n : Nat} (hn : 400 ≤ n) : ∃ (S' : DM) (X' : DM), fX3_copy (XH.2.2 (XH.1 h)) S = some S' ∧ fX6_records_L51 n (fun XM => some (va_up XM 2 (fun _ => XM 2 0 + 1))) n 0 XM = some X' ∧ RH (XH.1, va_up XH.2.1 1 (fun _ => nI (h + 1)), va_up XH.2.2 (XH.1 h) S') X' ∧ ∀ r, r ≠ 1 → r ≠ 2 → X' r = XM r := by
  have h11 : S 11 0 = 0 ∨ S 11 0 = 1 := by
    obtain ⟨_, _, _, _, ⟨t, sp, j, r, _, _, _, k⟩, _⟩ := hR
    exact k.2.2.2.2.2.2.2.2.2.2.2.2.1
  obtain ⟨S', a1, a2⟩ := c_copy (XH.2.2 (XH.1 h)) S h11
  obtain ⟨X1, b1, b2, b3, b4⟩ := m_rec_L n (fun XM => some (va_up XM 2 (fun _ => XM 2 0 + 1))) hh 348 0 (by omega) n (by omega) XM h2
  refine ⟨S', _, a1, b1, ⟨h + 1, by omega, by dsimp only; rw [up_eq], by rw [up_eq, b4 2 (by decide), h2, nI_1], h3, h4, fun i hi => ?_⟩, fun r r1 r2 => by rw [up_ne _ _ r2, b4 r r1]⟩
  by_cases z : i = h
  · subst z
    refine ⟨T, L, ?_⟩
    dsimp only
    rw [show va_up XH.2.2 (XH.1 i) S' (XH.1 i) = S' from up_eq _ _ _]
    refine hR.ag a2 (fun k hk => ?_)
    try dsimp only
    rw [up_ne _ _ (by decide), b2 k (Nat.zero_le _) hk]
  · obtain ⟨T', L', q⟩ := h5 i (by omega)
    refine ⟨T', L', ?_⟩
    dsimp only
    have ne : XH.1 i ≠ XH.1 h := fun e => z (h4 i h (by omega) hh e)
    rw [show va_up XH.2.2 (XH.1 h) S' (XH.1 i) = XH.2.2 (XH.1 i) from up_ne _ _ ne]
    refine q.ag ⟨fun _ _ => rfl, rfl, fun _ _ => rfl, fun _ _ => rfl, fun _ _ => rfl, rfl, rfl, fun _ _ => rfl, rfl, fun _ _ => rfl, rfl, rfl, rfl, rfl⟩ (fun k hk => ?_)
    try dsimp only
    rw [up_ne _ _ (by decide), b3 _ (by omega)]
theorem keepJ {T : Nat → Int32} {L : Nat} {S XM : DM} {XH : HD} (hR : RN T L S (XM 0)) (hH : RH XH XM) {n : Nat} (hn : 1400 ≤ n) : ∃ (YH : HD) (X' : DM), fX0_keep S XH = some YH ∧ fX6_records n XM = some X' ∧ RH YH X' ∧ ∀ r, r ≠ 1 → r ≠ 2 → X' r = XM r := by
  obtain ⟨h, h0, h1, h2, h3, h4, h5⟩ := hH
  unfold fX0_keep fX6_records
  simp only [sl_s]
  rw [if_pos ⟨h3 0 (by decide), h3 1 (by decide), h3 2 (by decide), h3 3 (by decide)⟩]
  by_cases c : h = 4
  · subst c
    rw [h1, if_neg (show ¬ nI 4 < (4 : Int32) from by decide), h2, if_pos (show nI 4 = (4 : Int32) from rfl)]
    obtain ⟨X1, a1, a2, a3, a4⟩ := m_shift_L n (fun XM => fX6_records_L51 n (fun XM => some (va_up XM 2 (fun _ => XM 2 0 + 1))) n 0 (va_up XM 2 (fun _ => XM 2 0 - 1))) 1044 0 (by omega) n (by omega) XM
    rw [show fX6_records_L10 n (fun XM => fX6_records_L51 n (fun XM => some (va_up XM 2 (fun _ => XM 2 0 + 1))) n 0 (va_up XM 2 (fun _ => XM 2 0 - 1))) n 0 XM = _ from a1]
    try dsimp only
    have e0 : (fX0_dropOldest XH).2.1 1 0 = nI 3 := rfl
    have r0 : ∀ i, i < 4 → (fX0_dropOldest XH).1 i = XH.1 (if i = 3 then 0 else i + 1) := by
      intro i hi
      rcases (show i = 0 ∨ i = 1 ∨ i = 2 ∨ i = 3 by omega) with rfl | rfl | rfl | rfl <;> rfl
    obtain ⟨S', X', b1, b2, b3, b4⟩ := keepK (XH := fX0_dropOldest XH) (XM := va_up X1 2 (fun _ => X1 2 0 - 1)) (S := S) (T := T) (L := L) (by rw [up_ne _ _ (by decide), a4 0 (by decide)]; exact hR) (h := 3) (by decide) e0 (by rw [up_eq, a4 2 (by decide), h2]; rfl) (fun i hi => by rw [r0 i hi]; exact h3 _ (by split <;> omega)) (fun i j hi hj e => by
      rw [r0 i hi, r0 j hj] at e
      have := h4 _ _ (by split <;> omega) (by split <;> omega) e
      split at this <;> split at this <;> omega) (fun i hi => by
      obtain ⟨T', L', q⟩ := h5 (i + 1) (by omega)
      refine ⟨T', L', ?_⟩
      rw [r0 i (by omega), if_neg (by omega)]
      refine RN.ag q ⟨fun _ _ => rfl, rfl, fun _ _ => rfl, fun _ _ => rfl, fun _ _ => rfl, rfl, rfl, fun _ _ => rfl, rfl, fun _ _ => rfl, rfl, rfl, rfl, rfl⟩ (fun k hk => ?_)
      try dsimp only
      rw [up_ne _ _ (by decide), a2 _ (Nat.zero_le _) (by omega)]
      congr 1
      omega) (n := n) (by omega)
    rw [b2, e0]
    rw [show (nI 3).toNatClampNeg = 3 from rfl, if_pos (by decide), b1, bnd_s]
    refine ⟨_, X', rfl, rfl, b3, fun r r1 r2 => by rw [b4 r r1 r2, up_ne _ _ r2, a4 r r1]⟩
  · have hh : h < 4 := by omega
    rw [h1, if_pos ((lt_l2 (a := h) (k := 4) (by omega) (by omega)).mpr hh), h2, if_neg (fun e => c ((eq_l (a := h) (k := 4) (by omega) (by omega)).mp e))]
    obtain ⟨S', X', b1, b2, b3, b4⟩ := keepK hR hh h1 h2 h3 h4 h5 (n := n) (by omega)
    rw [b2, h1, show (nI h).toNatClampNeg = h from nI_clamp (by omega), if_pos (fun q => q.elim (nI_pos (by omega)) (fun e => by omega)), b1, bnd_s, nI_1]
    exact ⟨_, X', rfl, rfl, b3, b4⟩
theorem m_und_L (n : Nat) (kk : DM → Option (Int32 × DM)) {h : Nat} (hh : h < 4) : ∀ (k i : Nat), i + k = 348 → ∀ fu, k < fu → ∀ XM : DM, XM 2 0 = nI h → ∃ X' : DM, fX6_undo_L22 n kk fu (nI i) XM = kk X' ∧ (∀ j, i ≤ j → j < 348 → X' 0 j = XM 1 (348 * h + j)) ∧ (∀ j, j < i → X' 0 j = XM 0 j) ∧ ∀ r, r ≠ 0 → X' r = XM r := by
  intro k
  induction k with
  | zero =>
    intro i hi fu hfu XM h2
    obtain ⟨fu, rfl⟩ : ∃ z, fu = z + 1 := ⟨fu - 1, by omega⟩
    unfold fX6_undo_L22
    rw [if_pos ((le_l1 (k := 348) (a := i) (by omega) (by omega)).mpr (by omega))]
    exact ⟨XM, rfl, fun j a b => by omega, fun _ _ => rfl, fun _ _ => rfl⟩
  | succ k ih =>
    intro i hi fu hfu XM h2
    obtain ⟨fu, rfl⟩ : ∃ z, fu = z + 1 := ⟨fu - 1, by omega⟩
    unfold fX6_undo_L22
    rw [if_neg (fun e => absurd ((le_l1 (k := 348) (a := i) (by omega) (by omega)).mp e) (by omega)), h2, lit_n 348, pk_mul, nI_add, rd_in _ (by omega) (by omega), bnd_s, wr_in _ _ (by omega) (by omega), bnd_s, sl_s, sl_s, nI_1]
    obtain ⟨X', e1, e2, e3, e4⟩ := ih (i + 1) (by omega) fu (by omega) (va_up XM 0 (upd (XM 0) i (XM 1 (348 * h + i)))) (by rw [up_ne _ _ (by decide)]; exact h2)
    refine ⟨X', e1, fun j a b => ?_, fun j a => ?_, fun r hr => by rw [e4 r hr, up_ne _ _ hr]⟩
    · by_cases z : j = i
      · subst z; rw [e3 j (by omega), up_eq, u_eq]
      · rw [e2 j (by omega) b, up_ne _ _ (by decide)]
    · rw [e3 j (by omega), up_eq, u_ne _ _ (by omega)]
theorem undoJ {XF XN XW XP XQ XM : DM} {XH : HD} (hH : RH XH XM) {n : Nat} (hn : 1400 ≤ n) : ∃ (r : Int32) (YN YW YP YQ : DM) (YH : HD) (YM : DM), fX5_undo n XF XN XW XP XQ XH = some (r, YN, YW, YP, YQ, YH) ∧ fX6_undo n XM = some (r, YM) ∧ RH YH YM ∧ (∀ k, 2 < k → k < 9 → YM k = XM k) ∧ ((YN = XN ∧ YW = XW ∧ YP = XP ∧ YQ = XQ ∧ YM = XM) ∨ ∃ (T : Nat → Int32) (L : Nat), RN T L YN (YM 0) ∧ PW (wsOf T L) YW YP YQ ∧ PM (wsOf T L) YM) := by
  obtain ⟨h, h0, h1, h2, h3, h4, h5⟩ := hH
  unfold fX5_undo fX6_undo
  rw [h1, h2]
  by_cases c : h = 0
  · subst c
    rw [if_pos (show nI 0 = (0 : Int32) from rfl), if_pos (show nI 0 = (0 : Int32) from rfl)]
    exact ⟨_, _, _, _, _, _, _, rfl, rfl, ⟨0, h0, h1, h2, h3, h4, h5⟩, fun _ _ _ => rfl, Or.inl ⟨rfl, rfl, rfl, rfl, rfl⟩⟩
  · obtain ⟨h, rfl⟩ : ∃ z, h = z + 1 := ⟨h - 1, by omega⟩
    rw [if_neg (nI_ne0 (by omega) (by omega)), if_neg (nI_ne0 (by omega) (by omega))]
    simp only [sl_s, nI_pred]
    obtain ⟨T, L, q⟩ := h5 h (by omega)
    have hL := q.1
    have h11 : XH.2.2 (XH.1 h) 11 0 = 0 ∨ XH.2.2 (XH.1 h) 11 0 = 1 := by
      obtain ⟨_, _, _, _, ⟨t, sp, j, r, _, _, _, k⟩, _⟩ := q
      exact k.2.2.2.2.2.2.2.2.2.2.2.2.1
    obtain ⟨S', a1, a2⟩ := c_copy XN (XH.2.2 (XH.1 h)) h11
    unfold fX0_restore
    rw [if_pos ⟨h3 0 (by decide), h3 1 (by decide), h3 2 (by decide), h3 3 (by decide)⟩, h1, nI_pred, show (nI h).toNatClampNeg = h from nI_clamp (by omega), if_pos (fun q => q.elim (nI_pos (by omega)) (fun e => by omega)), a1]
    simp only [bnd_s]
    obtain ⟨X1, b1, b2, -, b4⟩ := m_und_L n (fun XM => bnd (fX6_parses n XM) fun X4 => some (X4 2 0, X4)) (show h < 4 by omega) 348 0 (by omega) n (by omega) (va_up XM 2 (fun _ => nI h)) (by rw [up_eq])
    rw [show fX6_undo_L22 n (fun XM => bnd (fX6_parses n XM) fun X4 => some (X4 2 0, X4)) n 0 (va_up XM 2 (fun _ => nI h)) = _ from b1]
    have rn : RN T L S' (X1 0) := q.ag a2 (fun k hk => by rw [b2 k (Nat.zero_le _) hk, up_ne _ _ (by decide)])
    obtain ⟨W, P, Q, c1, c2⟩ := c_read (fr := S' 1) (T := T) hL (fun i hi => (rn.2.2.2.1 i hi).1) (show 400 ≤ n by omega) XW XP XQ
    obtain ⟨M', e1, e2, e3⟩ := m_parses (T := T) hL (show 400 ≤ n by omega) rn.2.2.1 (fun i hi => (rn.2.2.2.1 i hi).2)
    rw [rn.2.1, c1]
    try dsimp only
    rw [e1, bnd_s]
    have m2 : M' 2 0 = nI h := by rw [e3 2 (by decide), b4 2 (by decide), up_eq]
    refine ⟨nI h, S', W, P, Q, (XH.1, va_up XH.2.1 1 (fun _ => nI h), XH.2.2), M', by dsimp only; rw [up_eq], by rw [bnd_s, m2], ⟨h, by omega, by dsimp only; rw [up_eq], m2, h3, h4, fun i hi => ?_⟩, fun k k1 k2 => by rw [e3 k k2, b4 k (by omega), up_ne _ _ (by omega)], Or.inr ⟨T, L, by rw [e3 0 (by decide)]; exact rn, c2, e2⟩⟩
    obtain ⟨T', L', y⟩ := h5 i (by omega)
    refine ⟨T', L', ?_⟩
    rw [e3 1 (by decide), b4 1 (by decide), up_ne _ _ (by decide)]
    exact y
