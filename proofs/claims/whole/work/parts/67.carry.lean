/-! one order carried out -/
def CJ (n : Nat) (T : Nat → Int32) (L : Nat) (XF XW XP S M : DM) (g v : Nat) : Prop := ∃ (b : Bool) (S' M' : DM), fX5_carryOut n XF S XW XP (nI g) (nI v) = some (if b = true then 1 else 0, S') ∧ fX6_carries n M = some (if b = true then 1 else 0, M') ∧ RN T L S' (M' 0) ∧ ∀ r, r ≠ 0 → M' r = M r
theorem RN.note {T : Nat → Int32} {L : Nat} {S : DM} {d d' f' : Nat → Int32} {nt' pos' : Nat → Nat} {m' : Nat} (hR : RN T L S d) (hN : NO (wK (wsOf T L)) (fun i => ¬ wkd (wsOf T L) i = 3) nt' m' pos' f' d') (hd : ∀ k, (k < 309 ∨ 329 < k) → d' k = d k) : RN T L (va_up S 5 f') d' := by
  obtain ⟨h1, h2, h3, h4, ⟨t, sp, j, r, t1, t2, t3, t4⟩, ⟨k, pl, p0, p1, p2, p3⟩, -, h13, h14⟩ := hR
  refine ⟨h1, ?_, ?_, fun i hi => ?_, ⟨t, sp, j, r, t1, ?_, fun z hz => ?_, t4.upd (fun k hk => up_ne _ _ (by omega)) (fun z hz => hd z (by omega))⟩, ⟨k, pl, p0, ?_, ?_, fun i hi => ?_⟩, ⟨nt', m', pos', by rw [up_eq]; exact hN⟩, ?_, ?_⟩
  · rw [up_ne _ _ (by decide)]; exact h2
  · rw [hd 0 (by omega)]; exact h3
  · rw [up_ne _ _ (by decide), hd _ (by omega)]; exact h4 i hi
  · rw [up_ne _ _ (by decide)]; exact t2
  · rw [hd _ (by omega)]; exact t3 z hz
  · rw [up_ne _ _ (by decide)]; exact p1
  · rw [hd _ (by omega)]; exact p2
  · rw [up_ne _ _ (by decide), hd _ (by omega)]; exact p3 i hi
  · rw [up_ne _ _ (by decide), hd _ (by omega)]; exact h13
  · rw [up_ne _ _ (by decide), hd _ (by omega)]; exact h14
theorem cj_b {n : Nat} (hn : 1400 ≤ n) {T : Nat → Int32} {L : Nat} {XF XW XP XQ S M : DM} (hR : RN T L S (M 0)) (hW : PW (wsOf T L) XW XP XQ) (hM : PM (wsOf T L) M) {v : Nat} (h7 : M 7 0 = 98) : CJ n T L XF XW XP S M 98 v := by
  have hR' := hR
  obtain ⟨h1, h2, h3, h4, ⟨t, sp, j, r, t1, t2, t3, t4⟩, ⟨k, pl, p0, p1, p2, p3⟩, ⟨nt, m, pos, n1, n2, n3, n4, n5, n6⟩, h13, h14⟩ := hR
  have hv := wsOf_VS (T := T) h1
  have hk := hv.1
  have g : nI 98 = (98 : Int32) := rfl
  unfold CJ fX5_carryOut fX5_orderError fX6_carries fX3_askError
  rw [if_pos g, if_pos g, if_pos h7, shownBehind_m1 hW hv (show 200 ≤ n by omega), bnd_s, m_firstShown hM hv (show 200 ≤ n by omega), bnd_s]
  by_cases c : nx (wsOf T L) 0 < wK (wsOf T L)
  · have ne : ¬ oI (wK (wsOf T L)) (nx (wsOf T L) 0) = -1 := by rw [oI_lt c]; exact nI_ne_m1 (by omega)
    rw [if_neg ne, if_neg ne, bnd_s, bnd_s, if_pos rfl]
    obtain ⟨sp', S', d', j', r', b1, b2, b3, bj, b4, b5, -, b6, -, b7⟩ := backJ hW hM hv t1 t2 t3 (show 200 ≤ n by omega) t4 h14 c
    rw [up0] at b2
    rw [b1, bnd_s, b2, bnd_s]
    refine ⟨true, S', va_up M 0 d', rfl, rfl, ?_, fun r hr => up_ne _ _ hr⟩
    rw [up_eq]
    refine ⟨h1, ?_, ?_, fun i hi => ?_, ⟨t, sp', j', r', t1, ?_, ?_, b3⟩, ⟨k, pl, p0, ?_, ?_, fun i hi => ?_⟩, ⟨nt, m, pos, n1, ?_, fun a ha => ?_, n4, fun i hi => ?_, n6⟩, ?_, b4⟩
    · rw [b5 2 (by decide) (by decide)]; exact h2
    · rw [b6 0 (by omega) (by omega)]; exact h3
    · rw [b5 1 (by decide) (by decide), b6 _ (by omega) (by omega)]; exact h4 i hi
    · rw [b5 3 (by decide) (by decide)]; exact t2
    · intro z hz; rw [b6 _ (by omega) (by omega)]; exact t3 z hz
    · rw [b5 9 (by decide) (by decide)]; exact p1
    · rw [b6 _ (by omega) (by omega)]; exact p2
    · rw [b5 8 (by decide) (by decide), b6 _ (by omega) (by omega)]; exact p3 i hi
    · rw [b6 _ (by omega) (by omega)]; exact n2
    · rw [b6 _ (by omega) (by omega), b6 _ (by omega) (by omega)]; exact n3 a ha
    · rw [b5 5 (by decide) (by decide)]; exact n5 i hi
    · rw [b5 13 (by decide) (by decide), b7]; exact h13
  · have eq : oI (wK (wsOf T L)) (nx (wsOf T L) 0) = -1 := oI_ge c
    rw [if_pos eq, if_pos eq, bnd_s, bnd_s, if_neg (show ¬ (-2 : Int32) = 0 from by decide)]
    exact ⟨false, S, M, rfl, rfl, hR', fun r _ => rfl⟩
theorem cj_j {n : Nat} (hn : 1400 ≤ n) {T : Nat → Int32} {L : Nat} {XF XW XP XQ S M : DM} (hR : RN T L S (M 0)) (hW : PW (wsOf T L) XW XP XQ) (hM : PM (wsOf T L) M) {v : Nat} (h7 : M 7 0 = 106) (h8 : M 8 0 = nI v) (v2 : v < 1000) : CJ n T L XF XW XP S M 106 v := by
  have hR' := hR
  obtain ⟨h1, h2, h3, h4, ⟨t, sp, j, r, t1, t2, t3, t4⟩, hP, ⟨nt, m, pos, n1, n2, n3, n4, n5, n6⟩, h13, h14⟩ := hR
  have hv := wsOf_VS (T := T) h1
  have hk := hv.1
  have hN := nS_le hv
  have h6 := t4.2.2.2.2.2.1
  have h301 := t4.2.2.2.2.2.2.1
  have g1 : ¬ nI 106 = (98 : Int32) := by decide
  have g2 : nI 106 = (106 : Int32) := rfl
  unfold CJ fX5_carryOut fX5_orderError fX6_carries fX3_leapError fX6_canJump fX6_isSentence
  rw [if_neg g1, if_neg g1, if_pos g2, if_pos g2, if_neg (show ¬ M 7 0 = 98 from by rw [h7]; decide), if_pos h7, h8, c_has2 (N := wnS (wsOf T L)) hW.2.2.1.1, bnd_s, hM.2.1, m_in, bnd_s, bnd_s]
  by_cases c : v < wnS (wsOf T L)
  · have e1 : ¬ (nI v < 0 ∨ nI (wnS (wsOf T L)) ≤ nI v) := by rw [rng2 hN]; exact fun q => q ⟨v, c, rfl⟩
    have e2 : ¬ (nI v < 0 ∨ nI (wnS (wsOf T L)) - 1 < nI v) := by rw [rng hN]; exact fun q => q ⟨v, c, rfl⟩
    obtain ⟨f1, f2, f3⟩ := fsp_spec hv c
    rw [if_neg e1, if_neg e2, if_neg (show ¬ (1 : Int32) = 0 from by decide), if_neg (show ¬ (1 : Int32) = 0 from by decide), m_firstOf hM hv (show 200 ≤ n by omega) (by omega), bnd_s, fsh_eq hv c, rd_l (k := 301) _ (by omega) (by omega), bnd_s, h6, h301, at_in _ (by omega) (by omega), bnd_s, firsts_ok hW hv c, isMark_ok hW hv f1, bnd_s]
    by_cases c1 : j < wK (wsOf T L)
    · have ne : ¬ oI (wK (wsOf T L)) j = -1 := by rw [oI_lt c1]; exact nI_ne_m1 (by omega)
      rw [if_neg ne, if_neg ne]
      by_cases c2 : wkd (wsOf T L) (fsp (wsOf T L) v) = 3
      · rw [if_pos c2, if_pos c2, if_neg (show ¬ (1 : Int32) = 0 from by decide), oI_ge (Nat.lt_irrefl _), if_pos rfl, bnd_s, bnd_s, bnd_s, if_neg (show ¬ (-2 : Int32) = 0 from by decide), if_pos rfl]
        exact ⟨false, S, M, rfl, rfl, hR', fun r _ => rfl⟩
      · rw [if_neg c2, if_neg c2, if_pos rfl, oI_lt f1, if_neg (nI_ne_m1 (by omega)), bnd_s, bnd_s, bnd_s, if_pos rfl, if_neg (show ¬ (1 : Int32) = 0 from by decide)]
        obtain ⟨S', d', r', b1, b2, b3, b4, b5, -, b6, -, b7⟩ := leapJ hW hM hv t1 t2 t3 (show 200 ≤ n by omega) t4 c1 hP c c2
        rw [up0] at b2
        rw [b1, bnd_s, b2, bnd_s]
        refine ⟨true, S', va_up M 0 d', rfl, rfl, ?_, fun r hr => up_ne _ _ hr⟩
        rw [up_eq]
        refine ⟨h1, ?_, ?_, fun i hi => ?_, ⟨t, sp, _, r', t1, ?_, ?_, b3⟩, b4, ⟨nt, m, pos, n1, ?_, fun a ha => ?_, n4, fun i hi => ?_, n6⟩, ?_, ?_⟩
        · rw [b5 2 (by decide) (by decide) (by decide)]; exact h2
        · rw [b6 0 (by omega)]; exact h3
        · rw [b5 1 (by decide) (by decide) (by decide), b6 _ (by omega)]; exact h4 i hi
        · rw [b5 3 (by decide) (by decide) (by decide)]; exact t2
        · intro z hz; rw [b6 _ (by omega)]; exact t3 z hz
        · rw [b6 _ (by omega)]; exact n2
        · rw [b6 _ (by omega), b6 _ (by omega)]; exact n3 a ha
        · rw [b5 5 (by decide) (by decide) (by decide)]; exact n5 i hi
        · rw [b5 13 (by decide) (by decide) (by decide), b7]; exact h13
        · rw [b5 14 (by decide) (by decide) (by decide), b6 _ (by omega)]; exact h14
    · have eq : oI (wK (wsOf T L)) j = -1 := oI_ge c1
      rw [if_pos eq, if_pos eq, ite_self, bnd_s, bnd_s, bnd_s, if_neg (show ¬ (-2 : Int32) = 0 from by decide), if_pos rfl]
      exact ⟨false, S, M, rfl, rfl, hR', fun r _ => rfl⟩
  · have q : ¬ ∃ a, a < wnS (wsOf T L) ∧ nI v = nI a := by
      rintro ⟨a, ha, hav⟩
      have := (nI_eq (by omega) (by omega)).mp hav
      omega
    rw [if_pos ((rng2 hN _).mpr q), if_pos rfl, bnd_s, if_pos ((rng hN _).mpr q), if_pos rfl, bnd_s, bnd_s, if_neg (show ¬ (-1 : Int32) = 0 from by decide), if_pos rfl]
    exact ⟨false, S, M, rfl, rfl, hR', fun r _ => rfl⟩
theorem cj_r {n : Nat} (hn : 1400 ≤ n) {T : Nat → Int32} {L : Nat} {XF XW XP XQ S M : DM} (hR : RN T L S (M 0)) (hW : PW (wsOf T L) XW XP XQ) (hM : PM (wsOf T L) M) {v : Nat} (h7 : M 7 0 = 114) (h8 : M 8 0 = nI v) (v1 : 1 ≤ v) (v2 : v < 1000) : CJ n T L XF XW XP S M 114 v := by
  have hR' := hR
  obtain ⟨h1, h2, h3, h4, ⟨t, sp, j, r, t1, t2, t3, t4⟩, ⟨k, pl, p0, p1, p2, p3⟩, ⟨nt, m, pos, n1, n2, n3, n4, n5, n6⟩, h13, h14⟩ := hR
  have hv := wsOf_VS (T := T) h1
  have hk := hv.1
  have h6 := t4.2.2.2.2.2.1
  have h301 := t4.2.2.2.2.2.2.1
  have g1 : ¬ nI 114 = (98 : Int32) := by decide
  have g2 : ¬ nI 114 = (106 : Int32) := by decide
  have g3 : nI 114 = (114 : Int32) := rfl
  unfold CJ fX5_carryOut fX5_orderError fX6_carries fX3_passError
  rw [if_neg g1, if_neg g1, if_neg g2, if_neg g2, if_pos g3, if_pos g3, if_neg (show ¬ M 7 0 = 98 from by rw [h7]; decide), if_neg (show ¬ M 7 0 = 106 from by rw [h7]; decide), if_pos h7, h8, if_neg (fun z => absurd ((lt_l2 (a := v) (k := 1) (by omega) (by decide)).mp z) (by omega)), if_pos ((le_l2 (a := v) (k := 9999) (by omega) (by decide)).mpr (by omega)), rd_l (k := 301) _ (by omega) (by omega), bnd_s, h301, h6]
  by_cases c3 : j < wK (wsOf T L)
  · have ne : ¬ oI (wK (wsOf T L)) j = -1 := by rw [oI_lt c3]; exact nI_ne_m1 (by omega)
    rw [if_neg ne, if_neg ne, bnd_s, bnd_s, if_pos rfl]
    obtain ⟨S', d', j', r', sp', e', b1, b2, b3, b4, b5, b6⟩ := passB hW hM hv t1 (show 200 ≤ n by omega) (wK (wsOf T L) - j) j r sp S (M 0) v 0 (Nat.le_refl _) t4 (Nat.zero_le _) (by omega) (by rw [h13]; exact Int32.add_zero _) t2 t3 n (by omega) n (by omega)
    rw [up0] at b2
    rw [letPass_eq]
    unfold fX6_goes
    rw [show fX3_letPass_L4 n XW XP kLP n (nI v) 0 S = _ from b1, show fX6_goes_L4 n n (nI v) 0 M = _ from b2, bnd_s, bnd_s]
    refine ⟨true, S', va_up M 0 d', rfl, rfl, ?_, fun r hr => up_ne _ _ hr⟩
    rw [up_eq]
    refine ⟨h1, ?_, ?_, fun i hi => ?_, ⟨t, sp', j', r', t1, ?_, ?_, b3⟩, ⟨k, pl, p0, ?_, ?_, fun i hi => ?_⟩, ⟨nt, m, pos, n1, ?_, fun a ha => ?_, n4, fun i hi => ?_, n6⟩, b4, ?_⟩
    · rw [b5 2 (by decide) (by decide)]; exact h2
    · rw [b6 0 (by omega)]; exact h3
    · rw [b5 1 (by decide) (by decide), b6 _ (by omega)]; exact h4 i hi
    · rw [b5 3 (by decide) (by decide)]; exact t2
    · intro z hz; rw [b6 _ (by omega)]; exact t3 z hz
    · rw [b5 9 (by decide) (by decide)]; exact p1
    · rw [b6 _ (by omega)]; exact p2
    · rw [b5 8 (by decide) (by decide), b6 _ (by omega)]; exact p3 i hi
    · rw [b6 _ (by omega)]; exact n2
    · rw [b6 _ (by omega), b6 _ (by omega)]; exact n3 a ha
    · rw [b5 5 (by decide) (by decide)]; exact n5 i hi
    · rw [b5 14 (by decide) (by decide), b6 _ (by omega)]; exact h14
  · have eq : oI (wK (wsOf T L)) j = -1 := oI_ge c3
    rw [if_pos eq, if_pos eq, bnd_s, bnd_s, if_neg (show ¬ (-2 : Int32) = 0 from by decide)]
    exact ⟨false, S, M, rfl, rfl, hR', fun r _ => rfl⟩
theorem cj_u {n : Nat} (hn : 1400 ≤ n) {T : Nat → Int32} {L : Nat} {XF XW XP XQ S M : DM} (hR : RN T L S (M 0)) (hW : PW (wsOf T L) XW XP XQ) (hM : PM (wsOf T L) M) {v : Nat} (h7 : M 7 0 = 117) : CJ n T L XF XW XP S M 117 v := by
  have hR' := hR
  obtain ⟨h1, h2, h3, h4, ⟨t, sp, j, r, t1, t2, t3, t4⟩, hP, ⟨nt, m, pos, n1, n2, n3, n4, n5, n6⟩, h13, h14⟩ := hR
  have hv := wsOf_VS (T := T) h1
  have hk := hv.1
  have hP' := hP
  obtain ⟨k, pl, p0, p1, p2, p3⟩ := hP'
  have g1 : ¬ nI 117 = (98 : Int32) := by decide
  have g2 : ¬ nI 117 = (106 : Int32) := by decide
  have g3 : ¬ nI 117 = (114 : Int32) := by decide
  have g4 : nI 117 = (117 : Int32) := rfl
  unfold CJ fX5_carryOut fX5_orderError fX6_carries fX3_returnError
  rw [if_neg g1, if_neg g1, if_neg g2, if_neg g2, if_neg g3, if_neg g3, if_pos g4, if_pos g4, if_neg (show ¬ M 7 0 = 98 from by rw [h7]; decide), if_neg (show ¬ M 7 0 = 106 from by rw [h7]; decide), if_neg (show ¬ M 7 0 = 114 from by rw [h7]; decide), if_pos h7, rd_l (k := 303) _ (by omega) (by omega), bnd_s, p1, p2]
  by_cases c : k = 0
  · rw [if_pos (show nI k = 0 from by rw [c]; rfl), if_pos (show nI k = 0 from by rw [c]; rfl), bnd_s, bnd_s, if_neg (show ¬ (-2 : Int32) = 0 from by decide)]
    exact ⟨false, S, M, rfl, rfl, hR', fun r _ => rfl⟩
  · have ne : ¬ nI k = 0 := nI_ne0 (by omega) (by omega)
    rw [if_neg ne, if_neg ne, bnd_s, bnd_s, if_pos rfl]
    obtain ⟨S', d', j', r', b1, b2, b3, bj, b4, b5, -, b6, -, b7⟩ := retJ hW hM hv t1 t2 t3 (show 200 ≤ n by omega) t4 hP (by rw [p1]; exact ne)
    rw [up0] at b2
    rw [b1, bnd_s, b2, bnd_s]
    refine ⟨true, S', va_up M 0 d', rfl, rfl, ?_, fun r hr => up_ne _ _ hr⟩
    rw [up_eq]
    refine ⟨h1, ?_, ?_, fun i hi => ?_, ⟨t, sp, j', r', t1, ?_, ?_, b3⟩, b4, ⟨nt, m, pos, n1, ?_, fun a ha => ?_, n4, fun i hi => ?_, n6⟩, ?_, ?_⟩
    · rw [b5 2 (by decide) (by decide)]; exact h2
    · rw [b6 0 (by omega)]; exact h3
    · rw [b5 1 (by decide) (by decide), b6 _ (by omega)]; exact h4 i hi
    · rw [b5 3 (by decide) (by decide)]; exact t2
    · intro z hz; rw [b6 _ (by omega)]; exact t3 z hz
    · rw [b6 _ (by omega)]; exact n2
    · rw [b6 _ (by omega), b6 _ (by omega)]; exact n3 a ha
    · rw [b5 5 (by decide) (by decide)]; exact n5 i hi
    · rw [b5 13 (by decide) (by decide), b7]; exact h13
    · rw [b5 14 (by decide) (by decide), b6 _ (by omega)]; exact h14
theorem cj_n {n : Nat} (hn : 1400 ≤ n) {T : Nat → Int32} {L : Nat} {XF XW XP XQ S M : DM} (hR : RN T L S (M 0)) (hW : PW (wsOf T L) XW XP XQ) (hM : PM (wsOf T L) M) {v : Nat} (h7 : M 7 0 = 110) (h8 : M 8 0 = nI v) (v1 : 1 ≤ v) (v2 : v ≤ 99) : CJ n T L XF XW XP S M 110 v := by
  have hR' := hR
  obtain ⟨h1, h2, h3, h4, ⟨t, sp, j, r, t1, t2, t3, t4⟩, -, ⟨nt, m, pos, hN⟩, h13, h14⟩ := hR
  have hv := wsOf_VS (T := T) h1
  have hk := hv.1
  have h6 := t4.2.2.2.2.2.1
  have h301 := t4.2.2.2.2.2.2.1
  have hsh := t4.2.2.2.2.1
  have g1 : ¬ nI 110 = (98 : Int32) := by decide
  have g2 : ¬ nI 110 = (106 : Int32) := by decide
  have g3 : ¬ nI 110 = (114 : Int32) := by decide
  have g4 : ¬ nI 110 = (117 : Int32) := by decide
  unfold CJ fX5_carryOut fX5_orderError fX6_carries
  rw [if_neg g1, if_neg g1, if_neg g2, if_neg g2, if_neg g3, if_neg g3, if_neg g4, if_neg g4, if_neg (show ¬ M 7 0 = 98 from by rw [h7]; decide), if_neg (show ¬ M 7 0 = 106 from by rw [h7]; decide), if_neg (show ¬ M 7 0 = 114 from by rw [h7]; decide), if_neg (show ¬ M 7 0 = 117 from by rw [h7]; decide), rd_l (k := 301) _ (by omega) (by omega), bnd_s, bnd_s, h6, h301]
  by_cases c : j < wK (wsOf T L)
  · rw [oI_lt c, if_neg (nI_ne_m1 (by omega))]
    obtain ⟨q1, q2⟩ := noteE hW hM hv hN hn c v1 v2
    have c3 := hsh c
    rw [q1, q2, bnd_s, bnd_s, bnd_s, if_neg c3, if_neg c3]
    by_cases c4 : nt j ≠ 0 ∨ m < 10
    · rw [if_pos c4, if_pos c4, if_pos rfl, if_neg (show ¬ (1 : Int32) = 0 from by decide), bnd_s, h8]
      obtain ⟨d', nt', m', pos', y1, y2, y3⟩ := noteJ M hk hN (show 200 ≤ n by omega) c c3 v1 v2 c4
      rw [up0] at y1
      rw [put_in _ _ (by omega) (by omega), bnd_s, sl_s, y1, bnd_s]
      exact ⟨true, _, _, rfl, rfl, by rw [up_eq]; exact hR'.note y2 y3, fun r hr => up_ne _ _ hr⟩
    · rw [if_neg c4, if_neg c4, if_neg (show ¬ (-3 : Int32) = 0 from by decide), if_pos rfl]
      exact ⟨false, S, M, rfl, rfl, hR', fun r _ => rfl⟩
  · have eq : oI (wK (wsOf T L)) j = -1 := oI_ge c
    have q : ¬ ∃ a, a < wK (wsOf T L) ∧ (-1 : Int32) = nI a := by
      rintro ⟨a, ha, hav⟩
      exact nI_ne_m1 (by omega) hav.symm
    have : fX3_noteError n S XW (-1) (nI v) = some (-1) := by
      unfold fX3_noteError
      rw [c_has4 (N := wK (wsOf T L)) hW.1, if_pos ((rng2 hk _).mpr q), bnd_s, if_pos rfl]
    rw [eq, if_pos rfl, this, bnd_s, bnd_s, if_neg (show ¬ (-1 : Int32) = 0 from by decide)]
    exact ⟨false, S, M, rfl, rfl, hR', fun r _ => rfl⟩
theorem carJ {n : Nat} (hn : 1400 ≤ n) {T : Nat → Int32} {L : Nat} {XF XW XP XQ S M : DM} (hR : RN T L S (M 0)) (hW : PW (wsOf T L) XW XP XQ) (hM : PM (wsOf T L) M) {g d v : Nat} (hg : okO g d v = true) (hv : v < 1000) (h7 : M 7 0 = nI g) (h8 : 0 < d → M 8 0 = nI v) : CJ n T L XF XW XP S M g v := by
  have z := of_decide_eq_true hg
  rcases z with ⟨rfl | rfl, -⟩ | ⟨rfl, z1⟩ | ⟨rfl, z1, z2, z3⟩ | ⟨rfl, z1, z2⟩
  · exact cj_b hn hR hW hM h7
  · exact cj_u hn hR hW hM h7
  · exact cj_j hn hR hW hM h7 (h8 z1) hv
  · exact cj_n hn hR hW hM h7 (h8 z1) z2 z3
  · exact cj_r hn hR hW hM h7 (h8 z1) z2 hv
/-! carry -/
theorem eO_un {c : Nat} {o : Nat → Nat} {p : Nat} (h : ¬ eO c o p = 0) : okO (o p) (dgO c o p) (nuO c o p) = true := by
  by_cases z : p + 1 + dgO c o p < c ∧ o (p + 1 + dgO c o p) = 59 ∧ okO (o p) (dgO c o p) (nuO c o p) = true
  · exact z.2.2
  · exact absurd (if_neg z) h
theorem m_car_end {n fm : Nat} {x1 x2 : Int32} {M : DM} (h : x2 = 0 ∨ M 5 0 ≤ M 6 0) : fX6_carry_L25 n (fm + 1) x1 x2 M = some (x1, M) := by
  unfold fX6_carry_L25
  by_cases c : x2 = 0
  · rw [if_pos c]
  · rw [if_neg c, if_pos (h.resolve_left c)]
theorem carryJ {n : Nat} (hn : 1400 ≤ n) {T : Nat → Int32} {L : Nat} {XF XW XP XQ XO : DM} {XH : HD} {c : Nat} {o : Nat → Nat} (hO : OC c o XO) (hW : PW (wsOf T L) XW XP XQ) : ∀ (m p q : Nat) (S M : DM), RN T L S (M 0) → PM (wsOf T L) M → OM c o M → M 6 0 = nI p → p ≤ c → q ≤ p → c - p ≤ m → gdN c o m p → ∀ fu fm, m < fu → m + 1 < fm → ∃ (r : Int32) (S' M' : DM), fX5_carry_L29 n XF XW XP XO fu (nI q) (nI p) S XH = some (r, S', XH) ∧ fX6_carry_L25 n fm (nI q) 1 M = some (r, M') ∧ RN T L S' (M' 0) ∧ ∀ r, r ≠ 0 → r ≠ 6 → r ≠ 7 → r ≠ 8 → M' r = M r := by
  have hc := hO.1
  intro m
  induction m with
  | zero =>
    intro p q S M hR hM hoM h6 hp hq hm hgd fu fm hfu hfm
    obtain ⟨fu, rfl⟩ : ∃ z, fu = z + 1 := ⟨fu - 1, by omega⟩
    obtain ⟨fm, rfl⟩ : ∃ z, fm = z + 1 := ⟨fm - 1, by omega⟩
    have e : nI c ≤ nI p := nI_le (by omega) (by omega)
    rw [m_car_end (Or.inr (by rw [hoM.2.1, h6]; exact e))]
    unfold fX5_carry_L29
    rw [hO.2.1, if_pos e, ite_self, ite_self]
    exact ⟨_, S, M, rfl, rfl, hR, fun r _ _ _ _ => rfl⟩
  | succ m ih =>
    intro p q S M hR hM hoM h6 hp hq hm hgd fu fm hfu hfm
    obtain ⟨fu, rfl⟩ : ∃ z, fu = z + 1 := ⟨fu - 1, by omega⟩
    obtain ⟨fm, rfl⟩ : ∃ z, fm = z + 1 := ⟨fm - 1, by omega⟩
    by_cases e : c ≤ p
    · have e : nI c ≤ nI p := nI_le (by omega) (by omega)
      rw [m_car_end (Or.inr (by rw [hoM.2.1, h6]; exact e))]
      unfold fX5_carry_L29
      rw [hO.2.1, if_pos e, ite_self, ite_self]
      exact ⟨_, S, M, rfl, rfl, hR, fun r _ _ _ _ => rfl⟩
    · obtain ⟨f, hgd'⟩ := hgd.resolve_left e
      obtain ⟨g1, g2⟩ := eO_gt f
      obtain ⟨M1, k1, k2, k3⟩ := m_order hn hoM (show p < c by omega) h6
      obtain ⟨j6, j7, j8⟩ := k2 f
      have hM1 : PM (wsOf T L) M1 := hM.rows (fun r hr => k3 r (by omega) (by omega) (by omega))
      obtain ⟨b, S', M2, a1, a2, a3, a4⟩ := carJ (XF := XF) hn (by rw [k3 0 (by decide) (by decide) (by decide)]; exact hR) hW hM1 (eO_un f) (nuO_lt c o p) j7 j8
      unfold fX5_carry_L29 fX6_carry_L25
      rw [hO.2.1, hoM.2.1, h6, if_neg (fun z => absurd ((le_l1 (k := 60) (a := q) (by omega) (by omega)).mp z) (by omega)), if_neg (nI_pos (by omega)), if_neg (show ¬ nI c ≤ nI p from nI_ge (by omega) (by omega)), if_neg (show ¬ (1 : Int32) = 0 from by decide), if_neg (show ¬ nI c ≤ nI p from nI_ge (by omega) (by omega)), c_chr hO (by omega), if_pos (show p < c by omega), bnd_s, c_nuO hO hn (by omega), bnd_s, a1, bnd_s, k1, bnd_s]
      try dsimp only
      rw [a2, bnd_s]
      try dsimp only
      simp only [sl_s]
      cases b with
      | false =>
        obtain ⟨fm, rfl⟩ : ∃ z, fm = z + 1 := ⟨fm - 1, by omega⟩
        rw [if_neg (show ¬ false = true from by decide), if_pos rfl, if_pos rfl, m_car_end (Or.inl rfl), show nI q + 0 = nI q from Int32.add_zero _]
        exact ⟨_, S', M2, rfl, rfl, a3, fun r r0 r1 r2 r3 => by rw [a4 r r0, k3 r r1 r2 r3]⟩
      | true =>
        rw [if_pos rfl, if_neg (show ¬ (1 : Int32) = 0 from by decide), if_neg (show ¬ (1 : Int32) = 0 from by decide), c_end hO hn (by omega), bnd_s, if_neg f, nI_1]
        obtain ⟨r, S3, M3, c1, c2, c3, c4⟩ := ih (eO c o p) (q + 1) S' M2 a3 (hM1.rows (fun r hr => a4 r (by omega))) ((hoM.rows (k3 4 (by decide) (by decide) (by decide)) (k3 5 (by decide) (by decide) (by decide))).rows (a4 4 (by decide)) (a4 5 (by decide))) (by rw [a4 6 (by decide)]; exact j6) g2 (by omega) (by omega) hgd' fu fm (by omega) (by omega)
        exact ⟨r, S3, M3, c1, c2, c3, fun r r0 r1 r2 r3 => by rw [c4 r r0 r1 r2 r3, a4 r r0, k3 r r1 r2 r3]⟩
theorem ok_carry {n : Nat} (hn : 1400 ≤ n) : OK_carry n INV := by
  intro XF XN XA XW XP XQ XO XH XM hI
  have hI' := hI
  obtain ⟨⟨T, L, hR, hW, hM⟩, hO, hH⟩ := hI
  obtain ⟨c, o, M', hC, hOM, a1, a2⟩ := faultB hO hn
  have hc := hC.1
  unfold fX5_carry fX6_carry
  rcases a1 with ⟨b1, b2, b3⟩ | ⟨s, s1, b1, b2⟩
  · rw [b1, bnd_s, if_pos rfl, b2, bnd_s]
    try dsimp only
    rw [if_pos rfl]
    have hR' : RN T L XN (M' 0) := by rw [a2 0 (by decide) (by decide) (by decide)]; exact hR
    have hM' : PM (wsOf T L) M' := hM.rows (fun r hr => a2 r (by omega) (by omega) (by omega))
    obtain ⟨YH, M1, k1, k2, k3, k4⟩ := keepJ hR' (hH.rows (a2 1 (by decide) (by decide) (by decide)) (a2 2 (by decide) (by decide) (by decide))) hn
    rw [k1, bnd_s, k2, bnd_s, sl_s]
    have u : ∀ r, r ≠ 6 → va_up M1 6 (fun _ => 0) r = M1 r := fun r hr => up_ne _ _ hr
    obtain ⟨r, S', M3, c1, c2, c3, c4⟩ := carryJ (XF := XF) (XH := YH) hn hC hW c 0 0 XN (va_up M1 6 (fun _ => 0)) (by rw [u 0 (by decide), k4 0 (by decide) (by decide)]; exact hR') (hM'.rows (fun r hr => by rw [u r (by omega), k4 r (by omega) (by omega)])) (hOM.rows (by rw [u 4 (by decide), k4 4 (by decide) (by decide)]) (by rw [u 5 (by decide), k4 5 (by decide) (by decide)])) (by rw [up_eq]; rfl) (by omega) (by omega) (by omega) b3 n n (by omega) (by omega)
    refine ⟨r, S', YH, M3, c1, c2, ⟨T, L, c3, hW, hM'.rows (fun r hr => ?_)⟩, hO.rows ?_ ?_, k3.rows ?_ ?_⟩
    · rw [c4 r (by omega) (by omega) (by omega) (by omega), u r (by omega), k4 r (by omega) (by omega)]
    · rw [c4 4 (by decide) (by decide) (by decide) (by decide), u 4 (by decide), k4 4 (by decide) (by decide), a2 4 (by decide) (by decide) (by decide)]
    · rw [c4 5 (by decide) (by decide) (by decide) (by decide), u 5 (by decide), k4 5 (by decide) (by decide), a2 5 (by decide) (by decide) (by decide)]
    · rw [c4 1 (by decide) (by decide) (by decide) (by decide), u 1 (by decide)]
    · rw [c4 2 (by decide) (by decide) (by decide) (by decide), u 2 (by decide)]
  · rw [b1, bnd_s, if_neg (nI_ne_m1 (by omega)), b2, bnd_s]
    try dsimp only
    rw [if_neg (show ¬ nI s = -4 from fun z => by
      have := congrArg Int32.toInt z
      rw [nI_toInt (by omega)] at this
      have h2 : (-4 : Int32).toInt = -4 := by decide
      omega)]
    exact ⟨-2, XN, XH, M', rfl, rfl, hI'.keep a2⟩
