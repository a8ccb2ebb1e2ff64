/-! a new text -/
def RN (T : Nat → Int32) (L : Nat) (S : DM) (d : Nat → Int32) : Prop := L ≤ 300 ∧ S 2 0 = nI L ∧ d 0 = nI L ∧ (∀ i, i < L → S 1 i = T i ∧ d (1 + i) = T i) ∧ (∃ (t sp : Nat → Nat) (j r : Nat), VT t ∧ PT t (S 3) ∧ MT t d ∧ RC (wsOf T L) t sp S d j r) ∧ RPl (wsOf T L) S d ∧ RNo (wsOf T L) S d ∧ S 13 0 = d 346 ∧ S 14 0 = d 347
abbrev shw (w : WS) (i : Nat) : Prop := ¬ wkd w i = 3
theorem c_fil_L {w : WS} {XW XP XQ : DM} (hW : PW w XW XP XQ) (hv : VS w) (n : Nat) (kk : DM → DM → DM → DM → Option (DM × DM × DM × DM)) : ∀ (k i : Nat), i + k = 150 → ∀ fu, k < fu → ∀ S : DM, ∃ S' : DM, fX3_startAnew_L40 n kk fu (nI i) S XW XP XQ = kk S' XW XP XQ ∧ (∀ j, j < i → S' 5 j = S 5 j) ∧ (∀ j, i ≤ j → j < 150 → S' 5 j = if j < wK w ∧ shw w j then S 5 j else 0) ∧ ∀ r, r ≠ 5 → S' r = S r := by
  have hk := hv.1
  intro k
  induction k with
  | zero =>
    intro i hi fu hfu S
    obtain ⟨fu, rfl⟩ : ∃ z, fu = z + 1 := ⟨fu - 1, by omega⟩
    unfold fX3_startAnew_L40
    rw [if_pos ((le_l1 (k := 150) (a := i) (by omega) (by omega)).mpr (by omega))]
    exact ⟨S, rfl, fun _ _ => rfl, fun j a b => by omega, fun _ _ => rfl⟩
  | succ k ih =>
    intro i hi fu hfu S
    obtain ⟨fu, rfl⟩ : ∃ z, fu = z + 1 := ⟨fu - 1, by omega⟩
    have ih := ih (i + 1) (by omega) fu (by omega)
    unfold fX3_startAnew_L40
    rw [if_neg (fun e => absurd ((le_l1 (k := 150) (a := i) (by omega) (by omega)).mp e) (by omega))]
    simp only [sl_s, nI_1]
    have zero : ¬ (i < wK w ∧ shw w i) → ∃ S' : DM, (bnd (wrA 150 (S 5) (nI i) 0) fun f31 => fX3_startAnew_L40 n kk fu (nI (i + 1)) (va_up S 5 f31) XW XP XQ) = kk S' XW XP XQ ∧ (∀ j, j < i → S' 5 j = S 5 j) ∧ (∀ j, i ≤ j → j < 150 → S' 5 j = if j < wK w ∧ shw w j then S 5 j else 0) ∧ ∀ r, r ≠ 5 → S' r = S r := by
      intro c
      rw [wr_in _ _ (by omega) (by omega), bnd_s]
      obtain ⟨S', e1, e2, e3, e4⟩ := ih (va_up S 5 (upd (S 5) i 0))
      refine ⟨S', e1, fun j hj => ?_, fun j a b => ?_, fun r hr => by rw [e4 r hr, up_ne _ _ hr]⟩
      · rw [e2 j (by omega), up_eq, u_ne _ _ (by omega)]
      · by_cases z : j = i
        · subst z
          rw [e2 j (by omega), up_eq, u_eq, if_neg c]
        · rw [e3 j (by omega) b, up_eq, u_ne _ _ z]
    by_cases c1 : i < wK w
    · rw [has_in hW hv c1, bnd_s, if_neg (by decide), isMark_ok hW hv c1, bnd_s]
      by_cases c2 : wkd w i = 3
      · rw [if_pos c2, if_neg (by decide)]
        exact zero (fun q => q.2 c2)
      · rw [if_neg c2, if_pos rfl]
        obtain ⟨S', e1, e2, e3, e4⟩ := ih S
        refine ⟨S', e1, fun j hj => e2 j (by omega), fun j a b => ?_, e4⟩
        by_cases z : j = i
        · subst z
          rw [e2 j (by omega), if_pos ⟨c1, c2⟩]
        · exact e3 j (by omega) b
    · rw [has_out hW (Or.inr (nI_le (by omega) (by omega))), bnd_s, if_pos rfl]
      exact zero (fun q => c1 q.1)
theorem m_fil_L {w : WS} {M : DM} (hM : PM w M) (hv : VS w) (n : Nat) (kk : Int32 → DM → Option DM) {nt pos : Nat → Nat} {m : Nat} (hm : m ≤ 10) (hp : ∀ a, a < m → pos a < 150) (hd : ∀ a b, a < m → b < m → pos a = pos b → a = b) : ∀ (k a c : Nat) (ps : Nat → Nat) (d : Nat → Int32), a + k = m → c ≤ a → d 309 = nI m → (∀ b, a ≤ b → b < m → d (310 + b) = nI (pos b) ∧ d (320 + b) = nI (nt (pos b))) → (∀ b, b < c → d (310 + b) = nI (ps b) ∧ d (320 + b) = nI (nt (ps b)) ∧ ps b < wK w ∧ shw w (ps b) ∧ ∃ b', b' < a ∧ ps b = pos b') → (∀ b b', b < c → b' < c → ps b = ps b' → b = b') → (∀ b', b' < a → pos b' < wK w → shw w (pos b') → ∃ b, b < c ∧ ps b = pos b') → ∀ fu, k < fu → ∃ (d' : Nat → Int32) (c' : Nat) (ps' : Nat → Nat), fX6_alters_L43 n kk fu (nI c) (nI a) (va_up M 0 d) = kk (nI c') (va_up M 0 d') ∧ c' ≤ m ∧ (∀ b, b < c' → d' (310 + b) = nI (ps' b) ∧ d' (320 + b) = nI (nt (ps' b)) ∧ ps' b < wK w ∧ shw w (ps' b) ∧ ∃ b', b' < m ∧ ps' b = pos b') ∧ (∀ b b', b < c' → b' < c' → ps' b = ps' b' → b = b') ∧ (∀ b', b' < m → pos b' < wK w → shw w (pos b') → ∃ b, b < c' ∧ ps' b = pos b') ∧ (∀ k, (k < 310 ∨ 329 < k) → d' k = d k) := by
  have hk := hv.1
  intro k
  induction k with
  | zero =>
    intro a c ps d ha hc h309 h1 h2 h3 h4 fu hfu
    obtain ⟨fu, rfl⟩ : ∃ z, fu = z + 1 := ⟨fu - 1, by omega⟩
    unfold fX6_alters_L43
    rw [up_eq, rd_l (k := 309) _ (by omega) (by omega), bnd_s, h309, if_pos (nI_le (by omega) (by omega))]
    have : a = m := by omega
    subst this
    exact ⟨d, c, ps, rfl, hc, h2, h3, h4, fun _ _ => rfl⟩
  | succ k ih =>
    intro a c ps d ha hc h309 h1 h2 h3 h4 fu hfu
    obtain ⟨fu, rfl⟩ : ∃ z, fu = z + 1 := ⟨fu - 1, by omega⟩
    obtain ⟨p1, p2⟩ := h1 a (Nat.le_refl _) (by omega)
    have p3 := hp a (by omega)
    unfold fX6_alters_L43
    rw [up_eq, rd_l (k := 309) _ (by omega) (by omega), bnd_s, h309, if_neg (nI_ge (by omega) (by omega)), lit_n 310, nI_add, rd_in _ (by omega) (by omega), bnd_s, p1, show (va_up M 0 d) 9 0 = nI (wK w) from (hM.up d).1]
    simp only [sl_s, nI_1]
    have skip : ¬ (pos a < wK w ∧ shw w (pos a)) → ∃ (d' : Nat → Int32) (c' : Nat) (ps' : Nat → Nat), fX6_alters_L43 n kk fu (nI c) (nI (a + 1)) (va_up M 0 d) = kk (nI c') (va_up M 0 d') ∧ c' ≤ m ∧ (∀ b, b < c' → d' (310 + b) = nI (ps' b) ∧ d' (320 + b) = nI (nt (ps' b)) ∧ ps' b < wK w ∧ shw w (ps' b) ∧ ∃ b', b' < m ∧ ps' b = pos b') ∧ (∀ b b', b < c' → b' < c' → ps' b = ps' b' → b = b') ∧ (∀ b', b' < m → pos b' < wK w → shw w (pos b') → ∃ b, b < c' ∧ ps' b = pos b') ∧ (∀ k, (k < 310 ∨ 329 < k) → d' k = d k) := by
      intro z
      refine ih (a + 1) c ps d (by omega) (by omega) h309 (fun b x y => h1 b (by omega) y) (fun b hb => ?_) h3 (fun b' x y1 y2 => ?_) fu (by omega)
      · obtain ⟨q1, q2, q3, q4, b', q5, q6⟩ := h2 b hb
        exact ⟨q1, q2, q3, q4, b', by omega, q6⟩
      · by_cases e : b' = a
        · subst e; exact absurd ⟨y1, y2⟩ z
        · exact h4 b' (by omega) y1 y2
    by_cases c1 : pos a < wK w
    · rw [if_neg (nI_ge (by omega) (by omega)), m_isShown (hM.up d) hv c1, bnd_s]
      by_cases c2 : wkd w (pos a) = 3
      · rw [if_pos c2, if_pos rfl]
        exact skip (fun q => q.2 c2)
      · rw [if_neg c2, if_neg (by decide)]
        simp only [nI_add]
        rw [wr_in _ _ (by omega) (by omega), bnd_s, up_up, up_eq, lit_n 320]
        simp only [nI_add]
        rw [rd_in _ (by omega) (by omega), bnd_s, u_ne _ _ (by omega), p2, wr_in _ _ (by omega) (by omega), bnd_s, up_up]
        obtain ⟨d', c', ps', e1, e2, e3, e4, e5, e6⟩ := ih (a + 1) (c + 1) (fun b => if b = c then pos a else ps b) (upd (upd d (310 + c) (nI (pos a))) (320 + c) (nI (nt (pos a)))) (by omega) (by omega) (by rw [u_ne _ _ (by omega), u_ne _ _ (by omega)]; exact h309) (fun b x y => by rw [u_ne _ _ (by omega), u_ne _ _ (by omega), u_ne _ _ (by omega), u_ne _ _ (by omega)]; exact h1 b (by omega) y) (fun b hb => by
          try dsimp only
          by_cases e : b = c
          · subst e
            rw [if_pos rfl, u_ne _ _ (by omega), u_eq, u_eq]
            exact ⟨rfl, rfl, c1, c2, a, by omega, rfl⟩
          · rw [if_neg e, u_ne _ _ (by omega), u_ne _ _ (by omega), u_ne _ _ (by omega), u_ne _ _ (by omega)]
            obtain ⟨q1, q2, q3, q4, b', q5, q6⟩ := h2 b (by omega)
            exact ⟨q1, q2, q3, q4, b', by omega, q6⟩) (fun b b' hb hb' hbb => by
          try dsimp only at hbb
          by_cases e : b = c
          · rw [if_pos e] at hbb
            by_cases e' : b' = c
            · omega
            · rw [if_neg e'] at hbb
              obtain ⟨_, _, _, _, z, q5, q6⟩ := h2 b' (by omega)
              have := hd a z (by omega) (by omega) (by rw [hbb, q6])
              omega
          · rw [if_neg e] at hbb
            by_cases e' : b' = c
            · rw [if_pos e'] at hbb
              obtain ⟨_, _, _, _, z, q5, q6⟩ := h2 b (by omega)
              have := hd a z (by omega) (by omega) (by rw [← hbb, q6])
              omega
            · rw [if_neg e'] at hbb
              exact h3 b b' (by omega) (by omega) hbb) (fun b' x y1 y2 => by
          by_cases e : b' = a
          · exact ⟨c, by omega, by rw [if_pos rfl, e]⟩
          · obtain ⟨b, q1, q2⟩ := h4 b' (by omega) y1 y2
            exact ⟨b, by omega, by rw [if_neg (by omega)]; exact q2⟩) fu (by omega)
        exact ⟨d', c', ps', e1, e2, e3, e4, e5, fun k hk => by rw [e6 k hk, u_ne _ _ (by omega), u_ne _ _ (by omega)]⟩
    · rw [if_pos (nI_le (by omega) (by omega))]
      exact skip (fun q => c1 q.1)
theorem fillT (f : Nat → Int32) (v : Int32) {n : Nat} (hn : 10 ≤ n) : ∃ g : Nat → Int32, fX5_fill n 3 f v = some g ∧ ∀ i, i < 3 → g i = v := by
  obtain ⟨n, rfl⟩ : ∃ z, n = z + 4 := ⟨n - 4, by omega⟩
  unfold fX5_fill fX5_fill_L2
  rw [if_neg (by decide), wr_l (k := 0) _ _ (by omega) (by omega), bnd_s, sl_s, show (0 : Int32) + 1 = 1 from rfl]
  unfold fX5_fill_L2
  rw [if_neg (by decide), wr_l (k := 1) _ _ (by omega) (by omega), bnd_s, sl_s, show (1 : Int32) + 1 = 2 from rfl]
  unfold fX5_fill_L2
  rw [if_neg (by decide), wr_l (k := 2) _ _ (by omega) (by omega), bnd_s, sl_s, show (2 : Int32) + 1 = 3 from rfl]
  unfold fX5_fill_L2
  rw [if_pos (by decide)]
  refine ⟨_, rfl, fun i hi => ?_⟩
  rcases (show i = 0 ∨ i = 1 ∨ i = 2 by omega) with rfl | rfl | rfl
  · rw [u_ne _ _ (by omega), u_ne _ _ (by omega), u_eq]
  · rw [u_ne _ _ (by omega), u_eq]
  · rw [u_eq]
theorem anewJ {T : Nat → Int32} {L : Nat} {S XW XP XQ XM : DM} {d : Nat → Int32} {t sp : Nat → Nat} (hL : L ≤ 300) (hX : XM 0 = d) (h0 : d 0 = nI L) (hT : ∀ i, i < L → S 1 i = T i ∧ d (1 + i) = T i) (ht : VT t) (hPT : PT t (S 3)) (hMT : MT t d) (hp : VP sp) (hPV : PV sp (S 4)) (hMV : MV sp d) (h12 : S 12 0 = d 345) (h13 : S 13 0 = d 346) (h14 : S 14 0 = d 347) {K : Nat} {sh : Nat → Prop} {nt : Nat → Nat} {m : Nat} {pos : Nat → Nat} (hK : K ≤ 150) (hN : NO K sh nt m pos (S 5) d) {n : Nat} (hn : 400 ≤ n) : ∃ S' W P Q M' : DM, fX3_startAnew n S XW XP XQ (nI L) = some (S', W, P, Q) ∧ fX6_alters n XM = some M' ∧ PW (wsOf T L) W P Q ∧ PM (wsOf T L) M' ∧ RN T L S' (M' 0) ∧ ∀ r, 0 < r → r < 9 → M' r = XM r := by
  have hv := wsOf_VS (T := T) hL
  have hk := hv.1
  subst hX
  unfold fX3_startAnew fX6_alters
  simp only [sl_s]
  -- the words
  obtain ⟨W, P, Q, w1, hW⟩ := c_read (fr := S 1) (T := T) hL (fun i hi => (hT i hi).1) hn XW XP XQ
  obtain ⟨M1, m1, hM1, m2⟩ := m_parses (T := T) hL hn h0 (fun i hi => (hT i hi).2)
  have m20 : M1 0 = XM 0 := m2 0 (by omega)
  rw [show (va_up S 2 (fun _ => nI L)) 1 = S 1 from up_ne _ _ (by decide), show (va_up S 2 (fun _ => nI L)) 2 0 = nI L from by rw [up_eq], w1, m1]
  simp only [bnd_s]
  -- the class's rows
  obtain ⟨g, g1, g2⟩ := fillT ((va_up (va_up (va_up S 2 (fun _ => nI L)) 9 (fun _ => 0)) 11 (fun _ => 0)) 10) (-1) (show 10 ≤ n by omega)
  rw [g1]
  simp only [bnd_s]
  have s10 : ∀ i, i < 3 → (va_up (va_up (va_up (va_up S 2 (fun _ => nI L)) 9 (fun _ => 0)) 11 (fun _ => 0)) 10 g) 10 i = -1 := fun i hi => by rw [up_eq]; exact g2 i hi
  have s9 : (va_up (va_up (va_up (va_up S 2 (fun _ => nI L)) 9 (fun _ => 0)) 11 (fun _ => 0)) 10 g) 9 0 = 0 := by rw [up_ne _ _ (by decide), up_ne _ _ (by decide), up_eq]
  have s11 : (va_up (va_up (va_up (va_up S 2 (fun _ => nI L)) 9 (fun _ => 0)) 11 (fun _ => 0)) 10 g) 11 0 = 0 := by rw [up_ne _ _ (by decide), up_eq]
  have s2 : (va_up (va_up (va_up (va_up S 2 (fun _ => nI L)) 9 (fun _ => 0)) 11 (fun _ => 0)) 10 g) 2 0 = nI L := by rw [up_ne _ _ (by decide), up_ne _ _ (by decide), up_ne _ _ (by decide), up_eq]
  have sr : ∀ r, r ≠ 2 → r ≠ 9 → r ≠ 10 → r ≠ 11 → (va_up (va_up (va_up (va_up S 2 (fun _ => nI L)) 9 (fun _ => 0)) 11 (fun _ => 0)) 10 g) r = S r := fun r a b c e => by rw [up_ne _ _ c, up_ne _ _ e, up_ne _ _ b, up_ne _ _ a]
  generalize (va_up (va_up (va_up (va_up S 2 (fun _ => nI L)) 9 (fun _ => 0)) 11 (fun _ => 0)) 10 g) = X at s10 s9 s11 s2 sr
  obtain ⟨X', x1, -, x2, x3⟩ := c_fil_L hW hv n (fun XS XW XP XQ => bnd (fX4_shownBehind n XW (-1)) fun r16 => bnd (fX3_becomePresent n XS XW r16) fun X21 => some (X21, XW, XP, XQ)) 150 0 (by omega) n (by omega) X
  rw [show fX3_startAnew_L40 n (fun XS XW XP XQ => bnd (fX4_shownBehind n XW (-1)) fun r16 => bnd (fX3_becomePresent n XS XW r16) fun X21 => some (X21, XW, XP, XQ)) n 0 X W P Q = _ from x1]
  rw [shownBehind_m1 hW hv (by omega), bnd_s]
  -- the reference's rows
  rw [m20, wr_l (k := 303) _ _ (by omega) (by omega), bnd_s, up_eq, wr_l (k := 344) _ _ (by omega) (by omega), bnd_s]
  try simp only [up_up, up_eq]
  rw [wr_l (k := 340) _ _ (by omega) (by omega), bnd_s]
  try simp only [up_up, up_eq]
  rw [m_firstShown (hM1.up _) hv (by omega), bnd_s]
  have f : ∀ z, z ≠ 303 → z ≠ 344 → z ≠ 340 → upd (upd (upd (XM 0) 303 0) 344 0) 340 0 z = XM 0 z := fun z a b c => by rw [u_ne _ _ c, u_ne _ _ b, u_ne _ _ a]
  have f303 : upd (upd (upd (XM 0) 303 0) 344 0) 340 0 303 = 0 := by rw [u_ne _ _ (by omega), u_ne _ _ (by omega), u_eq]
  have f344 : upd (upd (upd (XM 0) 303 0) 344 0) 340 0 344 = 0 := by rw [u_ne _ _ (by omega), u_eq]
  have f340 : upd (upd (upd (XM 0) 303 0) 344 0) 340 0 340 = 0 := u_eq _ _ _
  generalize upd (upd (upd (XM 0) 303 0) 344 0) 340 0 = D at f f303 f344 f340
  obtain ⟨c1, c2, c3, c4, c5, c6⟩ := hN
  have rl : RLat (wsOf T L) (X' 10) D := ⟨0, fun _ => 0, by omega, f340, fun i hi => absurd hi (Nat.not_lt_zero _), fun i hi => by rw [x3 10 (by decide), s10 i hi, if_neg (Nat.not_lt_zero _)], fun i hi => absurd hi (Nat.not_lt_zero _)⟩
  -- the present word, on both sides
  have bec : ∃ (S' : DM) (D' : Nat → Int32) (j r : Nat), fX3_becomePresent n X' W (oI (wK (wsOf T L)) (nx (wsOf T L) 0)) = some S' ∧ fX6_becomes (va_up M1 0 D) (oI (wK (wsOf T L)) (nx (wsOf T L) 0)) = some (va_up M1 0 D') ∧ RC (wsOf T L) t sp S' D' j r ∧ (∀ k, k ≠ 6 → k ≠ 7 → k ≠ 10 → S' k = X' k) ∧ (∀ k, dBe k → D' k = D k) := by
    have nxs := nx_spec (wsOf T L) (Nat.zero_le _)
    by_cases c : nx (wsOf T L) 0 < wK (wsOf T L)
    · rw [oI_lt c]
      obtain ⟨S', D', b1, b2, b3, b4, b5⟩ := BJ (S := X') (d := D) (sp := sp) hW hM1 hv ht (by rw [x3 3 (by decide), sr 3 (by decide) (by decide) (by decide) (by decide)]; exact hPT) (by intro z hz; rw [f _ (by omega) (by omega) (by omega)]; exact hMT z hz) hp (by rw [x3 4 (by decide), sr 4 (by decide) (by decide) (by decide) (by decide)]; exact hPV) (by intro z hz; rw [f _ (by omega) (by omega) (by omega)]; exact hMV z hz) rl (by rw [x3 11 (by decide), s11, f344]) (Or.inl f344) (by rw [x3 12 (by decide), sr 12 (by decide) (by decide) (by decide) (by decide), f 345 (by omega) (by omega) (by omega)]; exact h12) (show 200 ≤ n by omega) c (nxs.2.2.1 c)
      exact ⟨S', D', _, _, b1, b2, b3, b4, b5⟩
    · rw [oI_ge c]
      obtain ⟨S', b1, b2, b3, b4⟩ := c_bp_none (XS := X') hW n
      obtain ⟨D', e1, e2, e3, e4⟩ := m_bec_none (M := M1) (d := D)
      refine ⟨S', D', wK (wsOf T L), 0, b1, e1, ⟨hp, ?_, ?_, Nat.le_refl _, fun q => absurd q (Nat.lt_irrefl _), ?_, ?_, b3, e3, by omega, fun q => absurd q (Nat.lt_irrefl _), ?_, ?_, ?_, fun q => absurd q (Nat.lt_irrefl _), ?_⟩, fun k a b _ => b4 k a b, fun k ⟨a, b, _⟩ => e4 k a b⟩
      · rw [b4 4 (by decide) (by decide), x3 4 (by decide), sr 4 (by decide) (by decide) (by decide) (by decide)]; exact hPV
      · intro z hz; rw [e4 _ (by omega) (by omega), f _ (by omega) (by omega) (by omega)]; exact hMV z hz
      · rw [b2, oI_ge (Nat.lt_irrefl _)]
      · rw [e2, oI_ge (Nat.lt_irrefl _)]
      · exact RLat.same rl (fun i _ => by rw [b4 10 (by decide) (by decide)]) (fun z z1 z2 => e4 z (by omega) (by omega))
      · left; rw [b4 11 (by decide) (by decide), x3 11 (by decide), s11]
      · left; rw [e4 344 (by omega) (by omega), f344]
      · rw [b4 12 (by decide) (by decide), e4 345 (by omega) (by omega), x3 12 (by decide), sr 12 (by decide) (by decide) (by decide) (by decide), f 345 (by omega) (by omega) (by omega)]; exact h12
  obtain ⟨S', D', j, r, b1, b2, b3, b4, b5⟩ := bec
  rw [b1, b2, bnd_s, bnd_s]
  obtain ⟨D2, cc, ps, n1, n2, n3, n4, n5, n6⟩ := m_fil_L hM1 hv n (fun x1 XM => bnd (wrA 348 (XM 0) 309 x1) fun f25 => some (va_up XM 0 f25)) (nt := nt) c1 (fun a ha => by have := (c3 a ha).1; omega) c4 m 0 0 (fun _ => 0) D' (by omega) (Nat.le_refl _) (by rw [b5 309 (by omega), f 309 (by omega) (by omega) (by omega)]; exact c2) (fun b _ hb => by rw [b5 _ (by omega), b5 _ (by omega), f _ (by omega) (by omega) (by omega), f _ (by omega) (by omega) (by omega)]; exact (c3 b hb).2.2.2) (fun b hb => absurd hb (Nat.not_lt_zero _)) (fun b b' hb => absurd hb (Nat.not_lt_zero _)) (fun b' hb => absurd hb (Nat.not_lt_zero _)) n (by omega)
  rw [show fX6_alters_L43 n (fun x1 XM => bnd (wrA 348 (XM 0) 309 x1) fun f25 => some (va_up XM 0 f25)) n 0 0 (va_up M1 0 D') = _ from n1]
  try dsimp only
  rw [up_eq, wr_l (k := 309) _ _ (by omega) (by omega), bnd_s, up_up]
  have gd : ∀ k, (k < 309 ∨ 329 < k) → upd D2 309 (nI cc) k = D' k := fun k hk => by rw [u_ne _ _ (by omega), n6 k (by omega)]
  refine ⟨S', W, P, Q, _, rfl, rfl, hW, hM1.up _, ⟨hL, ?_, ?_, fun i hi => ?_, ⟨t, sp, j, r, ht, ?_, ?_, ?_⟩, ⟨0, fun _ => 0, by omega, ?_, ?_, fun i hi => absurd hi (Nat.not_lt_zero _)⟩, ⟨fun i => if i < wK (wsOf T L) ∧ shw (wsOf T L) i then nt i else 0, cc, ps, by omega, ?_, fun a ha => ?_, n4, fun i hi => ?_, fun i hi hne => ?_⟩, ?_, ?_⟩, fun r z1 z2 => by rw [up_ne _ _ (by omega), m2 r z2]⟩
  · rw [b4 2 (by decide) (by decide) (by decide), x3 2 (by decide), s2]
  · rw [up_eq, gd 0 (by omega), b5 0 (by omega), f 0 (by omega) (by omega) (by omega)]; exact h0
  · rw [up_eq, gd _ (by omega), b5 _ (by omega), f _ (by omega) (by omega) (by omega), b4 1 (by decide) (by decide) (by decide), x3 1 (by decide), sr 1 (by decide) (by decide) (by decide) (by decide)]; exact hT i hi
  · rw [b4 3 (by decide) (by decide) (by decide), x3 3 (by decide), sr 3 (by decide) (by decide) (by decide) (by decide)]; exact hPT
  · intro z hz; rw [up_eq, gd _ (by omega), b5 _ (by omega), f _ (by omega) (by omega) (by omega)]; exact hMT z hz
  · rw [up_eq]
    obtain ⟨k1, k2, k3, k4, k5, k6, k7, k8, k9, k10, k11, k12, k13, k14, k15, k16⟩ := b3
    exact ⟨k1, k2, by intro z hz; rw [gd _ (by omega)]; exact k3 z hz, k4, k5, k6, by rw [gd _ (by omega)]; exact k7, k8, by rw [gd _ (by omega)]; exact k9, k10, k11, RLat.same k12 (fun _ _ => rfl) (fun z z1 z2 => gd z (by omega)), k13, by rw [gd _ (by omega)]; exact k14, fun q => by rw [gd _ (by omega)]; exact k15 q, by rw [gd _ (by omega)]; exact k16⟩
  · rw [b4 9 (by decide) (by decide) (by decide), x3 9 (by decide), s9]; rfl
  · rw [up_eq, gd _ (by omega), b5 303 (by omega), f303]; rfl
  · rw [up_eq, u_eq]
  · dsimp only
    obtain ⟨q1, q2, q3, q4, b', q5, q6⟩ := n3 a ha
    rw [if_pos ⟨q3, q4⟩, up_eq, u_ne _ _ (by omega), u_ne _ _ (by omega)]
    exact ⟨q3, q4, by rw [q6]; exact (c3 b' q5).2.2.1, q1, q2⟩
  · dsimp only
    rw [b4 5 (by decide) (by decide) (by decide), x2 i (Nat.zero_le _) hi]
    obtain ⟨y1, y2⟩ := c5 i hi
    by_cases z : i < wK (wsOf T L) ∧ shw (wsOf T L) i
    · rw [if_pos z, if_pos z, sr 5 (by decide) (by decide) (by decide) (by decide)]; exact ⟨y1, y2⟩
    · rw [if_neg z, if_neg z]; exact ⟨rfl, by omega⟩
  · dsimp only at hne
    by_cases z : i < wK (wsOf T L) ∧ shw (wsOf T L) i
    · rw [if_pos z] at hne
      obtain ⟨a, a1, a2⟩ := c6 i hi hne
      obtain ⟨b, e1, e2⟩ := n5 a a1 (by rw [a2]; exact z.1) (by rw [a2]; exact z.2)
      exact ⟨b, e1, by rw [e2, a2]⟩
    · rw [if_neg z] at hne; exact absurd rfl hne
  · rw [up_eq, gd _ (by omega), b5 346 (by omega), f 346 (by omega) (by omega) (by omega), b4 13 (by decide) (by decide) (by decide), x3 13 (by decide), sr 13 (by decide) (by decide) (by decide) (by decide)]; exact h13
  · rw [up_eq, gd _ (by omega), b5 347 (by omega), f 347 (by omega) (by omega) (by omega), b4 14 (by decide) (by decide) (by decide), x3 14 (by decide), sr 14 (by decide) (by decide) (by decide) (by decide)]; exact h14
