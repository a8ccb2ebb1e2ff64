/-! how much is left -/
theorem i_ring (a b c : Int32) : a + (b - (c + a)) = b - c := by
  rw [Int32.sub_eq_add_neg b (c + a), Int32.neg_add, Int32.sub_eq_add_neg (-c) a, ← Int32.add_assoc b, Int32.add_comm a, Int32.add_assoc (b + -c), Int32.add_left_neg, Int32.add_zero, Int32.sub_eq_add_neg]
theorem leftB {w : WS} {XW XP XQ M : DM} {t : Nat → Nat} (hW : PW w XW XP XQ) (hM : PM w M) (hv : VS w) (ht : VT t) {n : Nat} (hn : 200 ≤ n) (kk : Int32 → DM → Option (Int32 × DM)) : ∀ (m j r : Nat) (sp : Nat → Nat) (S : DM) (d : Nat → Int32) (u e : Nat) (x1 : Int32), wK w - j ≤ m → RC w t sp S d j r → e ≤ j → u < 2 ^ 31 → 186000 * m ≤ u → PT t (S 3) → MT t d → ∀ fu, m < fu → ∀ fu2, m < fu2 → ∃ (S' : DM) (d' : Nat → Int32) (e' : Int32), fX3_letPass_L4 n XW XP kLP fu (nI u) (nI e) S = some (e', S') ∧ fX6_left_L21 n kk fu2 x1 (va_up M 0 d) = kk (x1 + (S' 12 0 - S 12 0)) (va_up M 0 d') := by
  have hk := hv.1
  intro m
  induction m with
  | zero =>
    intro j r sp S d u e x1 hm h he hu hu2 hT hTM fu hf fu2 hf2
    obtain ⟨fu, rfl⟩ : ∃ z, fu = z + 1 := ⟨fu - 1, by omega⟩
    obtain ⟨fu2, rfl⟩ : ∃ z, fu2 = z + 1 := ⟨fu2 - 1, by omega⟩
    have hj : ¬ j < wK w := by omega
    have h6 : S 6 0 = -1 := by rw [h.2.2.2.2.2.1, oI_ge hj]
    have h301 : d 301 = -1 := by rw [h.2.2.2.2.2.2.1, oI_ge hj]
    refine ⟨va_up S 13 (fun _ => S 13 0 + nI e), d, nI e, ?_, ?_⟩
    · unfold fX3_letPass_L4
      have kk : ∀ x : Int32, kLP x (nI e) S = some (nI e, va_up S 13 (fun _ => S 13 0 + nI e)) := by
        intro x; unfold kLP; rw [if_pos h6]
      by_cases c : (150 : Int32) ≤ nI e
      · rw [if_pos c, kk]
      · rw [if_neg c, if_pos h6, kk]
    · unfold fX6_left_L21
      rw [up_eq, rd_l (k := 301) _ (by omega) (by omega), bnd_s, if_pos h301, up_ne (k := 13) (j := 12) _ _ (by decide), Int32.sub_self]
      congr 1
      exact (Int32.add_zero x1).symm
  | succ m ih =>
    intro j r sp S d u e x1 hm h he hu hu2 hT hTM fu hf fu2 hf2
    by_cases hj : j < wK w
    · obtain ⟨fu, rfl⟩ : ∃ z, fu = z + 1 := ⟨fu - 1, by omega⟩
      obtain ⟨fu2, rfl⟩ : ∃ z, fu2 = z + 1 := ⟨fu2 - 1, by omega⟩
      have hRC := h
      obtain ⟨h1, h2, h3, h4, h5, h6, h7, h8, h9, h10, h11, h12, h13a, h14, h15, h16⟩ := h
      rw [oI_lt hj] at h6 h7
      have hr := h11 hj
      unfold fX3_letPass_L4 fX6_left_L21
      rw [if_neg (fun q => absurd ((le_l1 (k := 150) (a := e) (by omega) (by omega)).mp q) (by omega)), h6, if_neg (nI_ne_m1 (by omega)), h8]
      simp only [sl_s, up_eq]
      rw [if_neg (nI_nlt (by omega) (by omega)), rd_l (k := 301) _ (by omega) (by omega), bnd_s, h7, if_neg (nI_ne_m1 (by omega)), rd_l (k := 302) _ (by omega) (by omega), bnd_s, bnd_s, h9, n_sub (show r ≤ u by omega), nI_1]
      obtain ⟨sp1, S1, d1, r1, a1, a2, a3, a4, a5, a6⟩ := JS hW hM hv ht hT hTM hn hRC hj
      obtain ⟨S2, c1, -, -, -, -, -, c7⟩ := c_step (S := va_up S 12 (fun _ => S 12 0 + nI r)) (sp := sp) hW hv ht (by rw [up_ne _ _ (by decide)]; exact hT) h1 (by rw [up_ne _ _ (by decide)]; exact h2) hn hj (h5 hj) (by rw [up_ne _ _ (by decide)]; exact h6)
      have e12 : S1 = S2 := by
        have q1 := a1 (fun X => some X)
        have q2 := c1 (fun X => some X)
        exact Option.some.inj (q1.symm.trans q2)
      have s12 : S1 12 0 = S 12 0 + nI r := by rw [e12, c7 12 (by decide) (by decide) (by decide) (by decide) (by decide), up_eq]
      have hgo : fX6_goes n (va_up M 0 d) (nI r) = some (nI 1, va_up M 0 d1) := by
        unfold fX6_goes
        obtain ⟨n, rfl⟩ : ∃ z, n = z + 2 := ⟨n - 2, by omega⟩
        unfold fX6_goes_L4
        simp only [sl_s, up_eq, up_up]
        rw [if_neg (nI_nle (by omega) (by omega)), rd_l (k := 301) _ (by omega) (by omega), bnd_s, h7, if_neg (nI_ne_m1 (by omega)), rd_l (k := 302) _ (by omega) (by omega), bnd_s, h9, if_pos (nI_le (Nat.le_refl _) (by omega)), bnd_s, bnd_s, wr_l (k := 302) _ _ (by omega) (by omega), bnd_s, n_sub (Nat.le_refl r), Nat.sub_self]
        rw [rd_l (k := 345) _ (by omega) (by omega), bnd_s, u_ne _ _ (by omega), wr_l (k := 345) _ _ (by omega) (by omega), bnd_s, rd_l (k := 302) _ (by omega) (by omega), bnd_s, u_ne _ _ (by omega), u_eq, if_pos (show nI 0 = (0 : Int32) from rfl), a2, bnd_s]
        unfold fX6_goes_L4
        rw [if_pos (by decide)]
        rfl
      rw [hgo, bnd_s]
      obtain ⟨n1, n2, -, -⟩ := nx_spec w (show j + 1 ≤ wK w by omega)
      have a1' := a1 (fun X27 => fX3_letPass_L4 n XW XP kLP fu (nI (u - r)) (nI (e + 1)) X27)
      unfold cStep at a1'
      rw [show (va_up S 12 (fun _ => S 12 0 + nI r)) 6 0 = nI j from by rw [up_ne _ _ (by decide)]; exact h6] at a1'
      obtain ⟨S', d', e', b1, b2⟩ := ih (nx w (j + 1)) r1 sp1 S1 d1 (u - r) (e + 1) (x1 + nI r) (by omega) a3 (by omega) (by omega) (by omega) (by rw [a5 3 (by decide)]; exact hT) (by intro z hz; rw [a6 _ (by omega)]; exact hTM z hz) fu (by omega) fu2 (by omega)
      refine ⟨S', d', e', ?_, ?_⟩
      · rw [← b1, ← a1']
        simp only [up_ne (k := 12) (j := 6) S _ (by decide), h6]
      · rw [b2, s12]
        congr 1
        rw [Int32.add_assoc, i_ring]
    · exact ih j r sp S d u e x1 (by omega) h he hu (by omega) hT hTM fu (by omega) fu2 (by omega)
theorem ok_left {n : Nat} (hn : 1400 ≤ n) : OK_left n INV := by
  intro XF XN XA XW XP XQ XO XH XM hI
  have hI' := hI
  obtain ⟨⟨T, L, hR, hW, hM⟩, hO, hH⟩ := hI
  obtain ⟨h1, h2, h3, h4, ⟨t, sp, j, r, t1, t2, t3, t4⟩, -, -, h13, h14⟩ := hR
  have hv := wsOf_VS (T := T) h1
  have hk := hv.1
  have h6 := t4.2.2.2.2.2.1
  have h301 := t4.2.2.2.2.2.2.1
  have h11 := t4.2.2.2.2.2.2.2.2.2.2.2.2.1
  unfold fX5_left fX6_left
  rw [rd_l (k := 301) _ (by omega) (by omega), bnd_s]
  by_cases c : XN 6 0 = -1
  · rw [if_pos c, if_pos (show XM 0 301 = -1 from h301.trans (h6.symm.trans c))]
    exact ⟨-2, XA, XM, rfl, rfl, hI'⟩
  · rw [if_neg c, if_neg (show ¬ XM 0 301 = -1 from fun e => c (h6.trans (h301.symm.trans e)))]
    obtain ⟨S1, s1, s2⟩ := c_copy XA XN h11
    obtain ⟨M1, m1, m2, -, m4⟩ := m_keeps_L n 348 0 (by omega) n (by omega) XM
    have m0 : M1 0 = XM 0 := m4 0 (by decide)
    have hM1 : PM (wsOf T L) M1 := hM.rows (fun r hr => m4 r (by omega))
    unfold fX6_keeps
    rw [s1, bnd_s, show fX6_keeps_L2 n n 0 XM = _ from m1, bnd_s, sl_s]
    obtain ⟨S', d', e', b1, b2⟩ := leftB hW hM1 hv t1 (show 200 ≤ n by omega) (fun (x1 : Int32) (XM : DM) => bnd (fX6_restores n XM) fun X7 => some (x1, X7)) (wK (wsOf T L)) j r sp S1 (XM 0) 1000000000 0 0 (by omega) (t4.ag s2 (agD.refl _)) (Nat.zero_le _) (by decide) (by omega) (fun z hz => by rw [s2.2.2.1 z hz]; exact t2 z hz) t3 n (by omega) n (by omega)
    rw [← m0, up0] at b2
    rw [letPass_eq, show fX3_letPass_L4 n XW XP kLP n 1000000000 0 S1 = _ from b1, bnd_s]
    rw [show fX6_left_L21 n (fun (x1 : Int32) (XM : DM) => bnd (fX6_restores n XM) fun X7 => some (x1, X7)) n 0 M1 = _ from b2]
    obtain ⟨M2, y1, y2, -, y4⟩ := m_rest_L n 348 0 (by omega) n (by omega) (va_up M1 0 d')
    try dsimp only
    unfold fX6_restores
    rw [show fX6_restores_L2 n n 0 (va_up M1 0 d') = _ from y1, bnd_s]
    have inv : INV XF XN S' XW XP XQ XO XH M2 := hI'.back (fun k hk => by rw [y2 k (Nat.zero_le _) hk, up_ne _ _ (by decide), m2 k (Nat.zero_le _) hk]) (fun r r1 r2 => by rw [y4 r r1, up_ne _ _ r1, m4 r r2])
    refine ⟨S' 12 0 - XN 12 0, S', M2, rfl, ?_, inv⟩
    rw [s2.2.2.2.2.2.2.2.2.2.2.2.1, Int32.zero_add]
