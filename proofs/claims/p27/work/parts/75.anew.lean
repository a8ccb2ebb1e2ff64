/-! p27: altering the text begins anew -/
theorem c_anew {T : Nat → Int32} {L : Nat} {S XW XP XQ : DM} {t sp : Nat → Nat} (hL : L ≤ 300) (hT : ∀ i, i < L → S 1 i = T i) (ht : VT t) (hPT : PT t (S 3)) (hp : VP sp) (hPV : PV sp (S 4)) {n : Nat} (hn : 400 ≤ n) : ∃ S' W P Q : DM, fX3_startAnew n S XW XP XQ (nI L) = some (S', W, P, Q) ∧ PW (wsOf T L) W P Q ∧ S' 2 0 = nI L ∧ (∀ i, i < L → S' 1 i = T i) ∧ S' 3 = S 3 ∧ S' 9 0 = 0 ∧ S' 6 0 = oI (wK (wsOf T L)) (nx (wsOf T L) 0) ∧ ∃ r, CC (wsOf T L) t sp (nx (wsOf T L) 0) r true S' W P Q := by
  have hv := wsOf_VS (T := T) hL
  have hk := hv.1
  unfold fX3_startAnew
  simp only [sl_s]
  obtain ⟨W, P, Q, w1, hW⟩ := c_read (fr := S 1) (T := T) hL hT hn XW XP XQ
  rw [show (va_up S 2 (fun _ => nI L)) 1 = S 1 from up_ne _ _ (by decide), show (va_up S 2 (fun _ => nI L)) 2 0 = nI L from by rw [up_eq], w1]
  simp only [bnd_s]
  obtain ⟨g, g1, g2⟩ := fillT ((va_up (va_up (va_up S 2 (fun _ => nI L)) 9 (fun _ => 0)) 11 (fun _ => 0)) 10) (-1) (show 10 ≤ n by omega)
  rw [g1]
  simp only [bnd_s]
  have s9 : (va_up (va_up (va_up (va_up S 2 (fun _ => nI L)) 9 (fun _ => 0)) 11 (fun _ => 0)) 10 g) 9 0 = 0 := by rw [up_ne _ _ (by decide), up_ne _ _ (by decide), up_eq]
  have s11 : (va_up (va_up (va_up (va_up S 2 (fun _ => nI L)) 9 (fun _ => 0)) 11 (fun _ => 0)) 10 g) 11 0 = 0 := by rw [up_ne _ _ (by decide), up_eq]
  have s2 : (va_up (va_up (va_up (va_up S 2 (fun _ => nI L)) 9 (fun _ => 0)) 11 (fun _ => 0)) 10 g) 2 0 = nI L := by rw [up_ne _ _ (by decide), up_ne _ _ (by decide), up_ne _ _ (by decide), up_eq]
  have sr : ∀ r, r ≠ 2 → r ≠ 9 → r ≠ 10 → r ≠ 11 → (va_up (va_up (va_up (va_up S 2 (fun _ => nI L)) 9 (fun _ => 0)) 11 (fun _ => 0)) 10 g) r = S r := fun r a b c e => by rw [up_ne _ _ c, up_ne _ _ e, up_ne _ _ b, up_ne _ _ a]
  generalize (va_up (va_up (va_up (va_up S 2 (fun _ => nI L)) 9 (fun _ => 0)) 11 (fun _ => 0)) 10 g) = X at s9 s11 s2 sr
  obtain ⟨X', x1, -, x2, x3⟩ := c_fil_L hW hv n (fun XS XW XP XQ => bnd (fX4_shownBehind n XW (-1)) fun r16 => bnd (fX3_becomePresent n XS XW r16) fun X21 => some (X21, XW, XP, XQ)) 150 0 (by omega) n (by omega) X
  rw [show fX3_startAnew_L40 n (fun XS XW XP XQ => bnd (fX4_shownBehind n XW (-1)) fun r16 => bnd (fX3_becomePresent n XS XW r16) fun X21 => some (X21, XW, XP, XQ)) n 0 X W P Q = _ from x1]
  rw [shownBehind_m1 hW hv (by omega), bnd_s]
  obtain ⟨n1, n2, n3, n4⟩ := nx_spec (wsOf T L) (Nat.zero_le (wK (wsOf T L)))
  have bec : ∃ (S' : DM) (r : Nat), fX3_becomePresent n X' W (oI (wK (wsOf T L)) (nx (wsOf T L) 0)) = some S' ∧ S' 6 0 = oI (wK (wsOf T L)) (nx (wsOf T L) 0) ∧ (∀ k, k ≠ 6 → k ≠ 7 → k ≠ 10 → S' k = X' k) ∧ S' 7 0 = nI r ∧ r ≤ 186000 ∧ (nx (wsOf T L) 0 < wK (wsOf T L) → 1 ≤ r) := by
    by_cases c : nx (wsOf T L) 0 < wK (wsOf T L)
    · rw [oI_lt c]
      have hcl := wcl_le (wsOf T L) (nx (wsOf T L) 0)
      obtain ⟨v1, v2⟩ := hp (wcl (wsOf T L) (nx (wsOf T L) 0)) (by omega)
      obtain ⟨S', a1, a2, a3, -, -, -, a7⟩ := c_bp (XS := X') hW hv ht (by rw [x3 3 (by decide), sr 3 (by decide) (by decide) (by decide) (by decide)]; exact hPT) hp (by rw [x3 4 (by decide), sr 4 (by decide) (by decide) (by decide) (by decide)]; exact hPV) (show 200 ≤ n by omega) c
      exact ⟨S', _, a1, a2, a7, a3, wtm_le hv ht c v1, fun _ => wtm_pos hv ht c (by omega) (n3 c)⟩
    · rw [oI_ge c]
      obtain ⟨S', a1, a2, a3, a4⟩ := c_bp_none (XS := X') hW n
      exact ⟨S', 0, a1, a2, fun k z1 z2 _ => a4 k z1 z2, a3, by omega, fun z => absurd z c⟩
  obtain ⟨S', r, b1, b2, b4, b5, b6, b7⟩ := bec
  rw [b1, bnd_s]
  have e3 : S' 3 = S 3 := by rw [b4 3 (by decide) (by decide) (by decide), x3 3 (by decide), sr 3 (by decide) (by decide) (by decide) (by decide)]
  have e4 : S' 4 = S 4 := by rw [b4 4 (by decide) (by decide) (by decide), x3 4 (by decide), sr 4 (by decide) (by decide) (by decide) (by decide)]
  have e11 : S' 11 0 = 0 := by rw [b4 11 (by decide) (by decide) (by decide), x3 11 (by decide), s11]
  refine ⟨S', W, P, Q, rfl, hW, ?_, fun i hi => ?_, e3, ?_, b2, r, hW, hv, ht, by rw [e3]; exact hPT, hp, by rw [e4]; exact hPV, n2, n3, b2, b5, b6, b7, by rw [e11, if_pos rfl]⟩
  · rw [b4 2 (by decide) (by decide) (by decide), x3 2 (by decide), s2]
  · rw [b4 1 (by decide) (by decide) (by decide), x3 1 (by decide), sr 1 (by decide) (by decide) (by decide) (by decide)]; exact hT i hi
  · rw [b4 9 (by decide) (by decide) (by decide), x3 9 (by decide), s9]
theorem x_append {n : Nat} (hn : 1400 ≤ n) {XF XN XA XW XP XQ XO XM : DM} {XH : HD} (hI : INV XF XN XA XW XP XQ XO XH XM) {T : Nat → Int32} {L : Nat} {t sp : Nat → Nat} {j r : Nat} {q : Bool} (hL : L < 300) (hS : XN 2 0 = nI L) (hT : ∀ i, i < L → XN 1 i = T i) (hC : CC (wsOf T L) t sp j r q XN XW XP XQ) {c : Int32} (hc : ¬ (c < 32 ∨ 126 < c)) : ∃ (YN YW YP YQ : DM) (YH : HD) (YM : DM) (h : Nat), fX5_append n XF XN XW XP XQ XH c = some (YW 8 0, YN, YW, YP, YQ, YH) ∧ INV XF YN XA YW YP YQ XO YH YM ∧ KP XN YH h ∧ PW (wsOf (fun i => if i = L then c else T i) (L + 1)) YW YP YQ ∧ YN 2 0 = nI (L + 1) ∧ (∀ i, i < L + 1 → YN 1 i = (fun i => if i = L then c else T i) i) ∧ YN 3 = XN 3 ∧ YN 9 0 = 0 ∧ YN 6 0 = oI (wK (wsOf (fun i => if i = L then c else T i) (L + 1))) (nx (wsOf (fun i => if i = L then c else T i) (L + 1)) 0) ∧ ∃ r, CC (wsOf (fun i => if i = L then c else T i) (L + 1)) t sp (nx (wsOf (fun i => if i = L then c else T i) (L + 1)) 0) r true YN YW YP YQ := by
  obtain ⟨r', YN, YW, YP, YQ, YH, YM, f1, -, hI2⟩ := ok_append hn XF XN XA XW XP XQ XO XH XM c hI
  obtain ⟨KH, h, k1, k2⟩ := keepU hC.h11 hI.2.2
  have hC' := hC
  obtain ⟨hW, hv, ht, hPT, hp, hPV, -⟩ := hC'
  obtain ⟨S', W, P, Q, b1, b2, b3, b4, b5, b6, b7, b8⟩ := c_anew (T := fun i => if i = L then c else T i) (L := L + 1) (S := va_up XN 1 (upd (XN 1) L c)) (XW := XW) (XP := XP) (XQ := XQ) (n := n) (by omega) (fun i hi => by
    try dsimp only
    rw [up_eq]
    by_cases z : i = L
    · subst z; rw [u_eq, if_pos rfl]
    · rw [u_ne _ _ z, if_neg z]; exact hT i (by omega)) ht (by rw [up_ne _ _ (by decide)]; exact hPT) hp (by rw [up_ne _ _ (by decide)]; exact hPV) (by omega)
  have ef : fX5_append n XF XN XW XP XQ XH c = some (W 8 0, S', W, P, Q, KH) := by
    unfold fX5_append
    rw [c_char, bnd_s, if_neg hc, if_neg (show ¬ (1 : Int32) = 0 from by decide), hS, if_pos ((lt_l2 (a := L) (k := 300) (by omega) (by omega)).mpr hL), k1, bnd_s, put_in _ _ hL (by omega), bnd_s, sl_s, up_ne (k := 1) (j := 2) _ _ (by decide), hS, nI_1, b1, bnd_s]
  rw [ef] at f1
  obtain ⟨-, y1, y2, y3, y4, y5⟩ := opt6 f1
  rw [← y1, ← y2, ← y3, ← y4, ← y5] at hI2
  exact ⟨S', W, P, Q, KH, YM, h, ef, hI2, k2, b2, b3, b4, by rw [b5, up_ne _ _ (by decide)], b6, b7, b8⟩
theorem x_cut {n : Nat} (hn : 1400 ≤ n) {XF XN XA XW XP XQ XO XM : DM} {XH : HD} (hI : INV XF XN XA XW XP XQ XO XH XM) {T : Nat → Int32} {L : Nat} {t sp : Nat → Nat} {j r : Nat} {q : Bool} (hL : L < 300) (hS : XN 2 0 = nI (L + 1)) (hT : ∀ i, i < L + 1 → XN 1 i = T i) (hC : CC (wsOf T (L + 1)) t sp j r q XN XW XP XQ) : ∃ (YN YW YP YQ : DM) (YH : HD) (YM : DM) (h : Nat), fX5_cut n XF XN XW XP XQ XH 1 = some (nI L, YN, YW, YP, YQ, YH) ∧ INV XF YN XA YW YP YQ XO YH YM ∧ KP XN YH h ∧ PW (wsOf T L) YW YP YQ := by
  obtain ⟨r', YN, YW, YP, YQ, YH, YM, f1, -, hI2⟩ := ok_cut hn XF XN XA XW XP XQ XO XH XM 1 hI
  obtain ⟨KH, h, k1, k2⟩ := keepU hC.h11 hI.2.2
  have hC' := hC
  obtain ⟨hW, hv, ht, hPT, hp, hPV, -⟩ := hC'
  obtain ⟨S', W, P, Q, b1, b2, b3, b4, b5, b6, b7, -⟩ := c_anew (T := T) (L := L) (S := XN) (XW := XW) (XP := XP) (XQ := XQ) (n := n) (by omega) (fun i hi => hT i (by omega)) ht hPT hp hPV (by omega)
  have ef : fX5_cut n XF XN XW XP XQ XH 1 = some (nI L, S', W, P, Q, KH) := by
    unfold fX5_cut
    rw [if_neg (show ¬ (1 : Int32) < 1 from by decide), if_pos (show (1 : Int32) ≤ 300 from by decide), hS, if_pos ((le_l1 (k := 1) (a := L + 1) (by omega) (by omega)).mpr (by omega)), k1, bnd_s, nI_pred, b1, bnd_s]
    try dsimp only
    rw [b3]
  rw [ef] at f1
  obtain ⟨-, y1, y2, y3, y4, y5⟩ := opt6 f1
  rw [← y1, ← y2, ← y3, ← y4, ← y5] at hI2
  exact ⟨S', W, P, Q, KH, YM, h, ef, hI2, k2, b2⟩
/-! the longest word -/
theorem top_ex (w : WS) (t sp : Nat → Nat) : ∀ K, 1 ≤ K → ∃ i, i < K ∧ ∀ j, j < K → ¬ (wtn w t sp i < wtn w t sp j ∨ (wtn w t sp j = wtn w t sp i ∧ j < i)) := by
  intro K
  induction K with
  | zero => intro h; omega
  | succ K ih =>
    intro _
    by_cases c : K = 0
    · subst c; exact ⟨0, by omega, fun j hj => by rw [show j = 0 by omega]; omega⟩
    · obtain ⟨i, i1, i2⟩ := ih (by omega)
      by_cases z : wtn w t sp i < wtn w t sp K
      · refine ⟨K, by omega, fun j hj => ?_⟩
        by_cases y : j = K
        · subst y; omega
        · have := i2 j (by omega); omega
      · refine ⟨i, by omega, fun j hj => ?_⟩
        by_cases y : j = K
        · subst y; omega
        · exact i2 j (by omega)
theorem c_long_step {w : WS} {XF XN XW XP XQ : DM} {t sp : Nat → Nat} (hW : PW w XW XP XQ) (hv : VS w) (ht : VT t) (hp : VP sp) (hF : ∀ l, l < wK w → XF 5 l = nI (wtn w t sp l)) {n : Nat} (hn : 200 ≤ n) {i : Nat} (hi : i < wK w) (fu : Nat) : fX5_longest_L43 n XN XW (fu + 1) 0 (nI i) XF = if ¬ wkd w i = 3 ∧ smN (rkN w t sp i) (wK w) 0 = 0 then some (nI i, XF) else fX5_longest_L43 n XN XW fu 0 (nI (i + 1)) XF := by
  have hk := hv.1
  conv => lhs; unfold fX5_longest_L43
  rw [hW.1, if_neg (nI_ge (by omega) (by omega)), isMark_ok hW hv hi, bnd_s]
  simp only [sl_s, nI_1]
  by_cases c : wkd w i = 3
  · rw [if_pos c, if_neg (show ¬ (1 : Int32) = 0 from by decide), if_neg (fun z => z.1 c)]
  · have hc : fX5_rankOf n XF XW (nI i) = some (nI (0 + smN (rkN w t sp i) (wK w) 0)) := by
      unfold fX5_rankOf
      rw [at_in _ (by omega) (by omega), bnd_s, hF i hi]
      exact c_rank_L hW hv ht hp hF n hi (wK w) 0 0 (by omega) n (by omega)
    have le := smN_le (f := rkN w t sp i) (C := 1) (wK w) 0 (fun l _ _ => by unfold rkN; split <;> omega)
    rw [if_neg c, if_pos rfl, hc, bnd_s, Nat.zero_add]
    by_cases z : smN (rkN w t sp i) (wK w) 0 = 0
    · rw [if_pos (show nI (smN (rkN w t sp i) (wK w) 0) = 0 from by rw [z]; rfl), if_pos ⟨c, z⟩]
    · rw [if_neg (show ¬ nI (smN (rkN w t sp i) (wK w) 0) = 0 from nI_ne0 (by omega) (by omega)), if_neg (fun y => z y.2)]
theorem nI_ne_m4 {a : Nat} (h : a < 2 ^ 31) : ¬ nI a = (-4 : Int32) := by
  intro e
  have := congrArg Int32.toInt e
  rw [nI_toInt h] at this
  have h2 : (-4 : Int32).toInt = -4 := by decide
  omega
theorem nI_ne_m2 {a : Nat} (h : a < 2 ^ 31) : ¬ nI a = (-2 : Int32) := by
  intro e
  have := congrArg Int32.toInt e
  rw [nI_toInt h] at this
  have h2 : (-2 : Int32).toInt = -2 := by decide
  omega
theorem x_longest {n : Nat} (hn : 1400 ≤ n) {XF XN XW XP XQ : DM} {w : WS} {t sp : Nat → Nat} {j r : Nat} {q : Bool} (hC : CC w t sp j r q XN XW XP XQ) : ∃ (y : Int32) (YF : DM), fX5_longest n XF XN XW 0 = some (y, YF) ∧ (y = -4 ↔ ¬ nx w 0 < wK w) := by
  obtain ⟨hW, hv, ht, hT, hp, hV, -⟩ := hC
  have hk := hv.1
  obtain ⟨n1, n2, n3, n4⟩ := nx_spec w (Nat.zero_le (wK w))
  obtain ⟨YF, y1, y2⟩ := c_fill_L hW hv ht hT hp hV n (fun (x1 : Int32) (XF : DM) => fX5_longest_L43 n XN XW n x1 0 XF) 0 (wK w) 0 (by omega) n (by omega) XF (fun l hl => absurd hl (Nat.not_lt_zero _))
  have e : fX5_longest n XF XN XW 0 = fX5_longest_L43 n XN XW n 0 (nI 0) YF := by
    unfold fX5_longest
    rw [if_pos (show (0 : Int32) ≤ 0 from by decide), sl_s]
    exact y1
  rw [e]
  by_cases c : nx w 0 < wK w
  · obtain ⟨i0, i1, i2⟩ := top_ex w t sp (wK w) (by omega)
    have hsh := n3 c
    have k0 : ¬ wkd w i0 = 3 := by
      intro z
      have z0 : wtn w t sp i0 = 0 := by unfold wtn wtm; rw [if_pos z]
      have hcl := wcl_le w (nx w 0)
      obtain ⟨v1, v2⟩ := hp (wcl w (nx w 0)) (by omega)
      have z1 : 1 ≤ wtn w t sp (nx w 0) := wtm_pos hv ht c (by omega) hsh
      exact i2 (nx w 0) c (Or.inl (by omega))
    have r0 : smN (rkN w t sp i0) (wK w) 0 = 0 := smN_0 (wK w) 0 (fun l _ hl => by unfold rkN; rw [if_neg (i2 l (by omega))])
    have loop : ∀ (k i : Nat), i + k = i0 → ∀ fu, k < fu → ∃ a, a < wK w ∧ fX5_longest_L43 n XN XW fu 0 (nI i) YF = some (nI a, YF) := by
      intro k
      induction k with
      | zero =>
        intro i hi fu hfu
        obtain ⟨fu, rfl⟩ : ∃ z, fu = z + 1 := ⟨fu - 1, by omega⟩
        have : i = i0 := by omega
        subst this
        exact ⟨i, i1, by rw [c_long_step hW hv ht hp y2 (by omega) i1, if_pos ⟨k0, r0⟩]⟩
      | succ k ih =>
        intro i hi fu hfu
        obtain ⟨fu, rfl⟩ : ∃ z, fu = z + 1 := ⟨fu - 1, by omega⟩
        rw [c_long_step hW hv ht hp y2 (by omega) (show i < wK w by omega)]
        by_cases z : ¬ wkd w i = 3 ∧ smN (rkN w t sp i) (wK w) 0 = 0
        · rw [if_pos z]; exact ⟨i, by omega, rfl⟩
        · rw [if_neg z]; exact ih (i + 1) (by omega) fu (by omega)
    obtain ⟨a, a1, a2⟩ := loop i0 0 (by omega) n (by omega)
    exact ⟨nI a, YF, a2, fun z => absurd z (nI_ne_m4 (by omega)), fun z => absurd c z⟩
  · have loop : ∀ (k i : Nat), i + k = wK w → ∀ fu, k < fu → fX5_longest_L43 n XN XW fu 0 (nI i) YF = some (-4, YF) := by
      intro k
      induction k with
      | zero =>
        intro i hi fu hfu
        obtain ⟨fu, rfl⟩ : ∃ z, fu = z + 1 := ⟨fu - 1, by omega⟩
        unfold fX5_longest_L43
        rw [hW.1, if_pos (nI_le (by omega) (by omega))]
      | succ k ih =>
        intro i hi fu hfu
        obtain ⟨fu, rfl⟩ : ∃ z, fu = z + 1 := ⟨fu - 1, by omega⟩
        rw [c_long_step hW hv ht hp y2 (by omega) (show i < wK w by omega), if_neg (fun z => z.1 (n4 i (Nat.zero_le _) (by omega)))]
        exact ih (i + 1) (by omega) fu (by omega)
    exact ⟨-4, YF, loop (wK w) 0 (by omega) n (by omega), fun _ => c, fun _ => rfl⟩
