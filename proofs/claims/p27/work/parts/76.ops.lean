/-! p27: asking back, jumps, returns, speeds, settings -/
theorem spA_le {w : WS} {t sp : Nat → Nat} {q : Nat} {la : Nat → Nat} (hp : VP sp) {c : Nat} (hc : c < 3) : spA w t sp q la c ≤ sp c := by
  obtain ⟨a, b⟩ := hp c hc
  unfold spA
  by_cases h : anyN (fun i => decide (i < q ∧ wcl w (la i) = c)) 3 0 = true
  · rw [if_pos h]; omega
  · rw [if_neg h]; exact Nat.le_refl _
theorem pvs_lt {w : WS} (hv : VS w) : ∀ s, s ≤ wnS w → pvs w s < wK w → wsn w (pvs w s) < s := by
  intro s
  induction s with
  | zero => intro _ h; exact absurd h (by unfold pvs; omega)
  | succ s ih =>
    intro hs h
    rw [show pvs w (s + 1) = if fsh w s < wK w then fsh w s else pvs w s from rfl] at h ⊢
    by_cases c : fsh w s < wK w
    · rw [if_pos c]
      rw [fsh_eq hv (by omega)] at c ⊢
      by_cases z : wkd w (fsp w s) = 3
      · rw [if_pos z] at c; omega
      · rw [if_neg z, (fsp_spec hv (show s < wnS w by omega)).2.1]; omega
    · rw [if_neg c] at h ⊢
      have := ih (by omega) h
      omega
theorem bkT_le {w : WS} (hv : VS w) {j : Nat} (hj : j < wK w) : bkT w j ≤ j := by
  unfold bkT
  rw [if_pos hj]
  have hn := sn_nS hv hj
  by_cases e : j = fsp w (wsn w j)
  · rw [if_pos e]
    by_cases z : pvs w (wsn w j) < wK w
    · rw [if_pos z]
      have h1 := pvs_lt hv _ (Nat.le_of_lt hn) z
      by_cases y : pvs w (wsn w j) ≤ j
      · exact y
      · have := sn_mono hv (show j ≤ pvs w (wsn w j) by omega)
        omega
    · rw [if_neg z]; exact Nat.le_refl _
  · rw [if_neg e]; exact fsp_le hv hj
theorem x_back {n : Nat} (hn : 1400 ≤ n) {XF XN XA XW XP XQ XO XM : DM} {XH : HD} (hI : INV XF XN XA XW XP XQ XO XH XM) : ∃ (T : Nat → Int32) (L : Nat) (t sp : Nat → Nat) (j r : Nat) (q : Bool), CC (wsOf T L) t sp j r q XN XW XP XQ ∧ ((¬ nx (wsOf T L) 0 < wK (wsOf T L) ∧ fX5_back n XF XN XW XP XH = some (-2, XN, XH)) ∨ (nx (wsOf T L) 0 < wK (wsOf T L) ∧ ∃ (S' : DM) (YH : HD) (YM : DM) (sp' : Nat → Nat) (q' : Bool), fX5_back n XF XN XW XP XH = some (nI (bkT (wsOf T L) j), S', YH) ∧ INV XF S' XA XW XP XQ XO YH YM ∧ CC (wsOf T L) t sp' (bkT (wsOf T L) j) (wtn (wsOf T L) t sp' (bkT (wsOf T L) j)) q' S' XW XP XQ ∧ (∀ c, c < 3 → sp' c ≤ sp c) ∧ S' 14 0 = XN 14 0 + 1 ∧ S' 2 0 = XN 2 0)) := by
  obtain ⟨r', YN, YH, YM, f1, -, hI2⟩ := ok_back hn XF XN XA XW XP XQ XO XH XM hI
  obtain ⟨⟨T, L, hR, hW, hM⟩, hO, hH⟩ := hI
  obtain ⟨h1, h2, h3, h4, ⟨t, sp, j, r, t1, t2, t3, t4⟩, hPl, hN, h13, h14⟩ := hR
  have hv := wsOf_VS (T := T) h1
  have hk := hv.1
  obtain ⟨q, hC⟩ := t4.cc hW hv t1 t2
  obtain ⟨KH, h, k1, k2⟩ := keepU hC.h11 hH
  refine ⟨T, L, t, sp, j, r, q, hC, ?_⟩
  unfold fX5_back fX3_askError at f1 ⊢
  rw [shownBehind_m1 hW hv (show 200 ≤ n by omega), bnd_s] at f1 ⊢
  by_cases c : nx (wsOf T L) 0 < wK (wsOf T L)
  · right
    refine ⟨c, ?_⟩
    have ne : ¬ oI (wK (wsOf T L)) (nx (wsOf T L) 0) = -1 := by rw [oI_lt c]; exact nI_ne_m1 (by omega)
    rw [if_neg ne, bnd_s, if_pos rfl, k1, bnd_s] at f1 ⊢
    obtain ⟨g1, g2, g3, g4, g5, g6, g7, g8, g9, g10, g11, ⟨ql, la, l1, l2, l3, l4, l5⟩, g13, g14, g15, g16⟩ := t4
    have hb := bkT_ok hv g5 c
    have hsA : VP (spA (wsOf T L) t sp ql la) := spA_VP g1
    obtain ⟨S1, a1, a2, a3⟩ := c_ask_L hW hv t1 g1 (show 200 ≤ n by omega) l3 (fun XS => bnd (fX3_wordAskedFor n (va_up (va_up XS 11 fun _ => 1) 14 fun _ => (va_up XS 11 fun _ => 1) 14 0 + 1) XW XP) fun r5 => bnd (fX3_becomePresent n (va_up (va_up XS 11 fun _ => 1) 14 fun _ => (va_up XS 11 fun _ => 1) 14 0 + 1) XW r5) fun X10 => some X10) 3 0 (by omega) n (by omega) XN t2 l4 (fun c' h' => by rw [if_neg (by omega)]; exact g2 c' h')
    have hc1 : fX3_askBack n XN XW XP = bnd (fX3_wordAskedFor n (va_up (va_up S1 11 fun _ => 1) 14 fun _ => (va_up S1 11 fun _ => 1) 14 0 + 1) XW XP) fun r5 => bnd (fX3_becomePresent n (va_up (va_up S1 11 fun _ => 1) 14 fun _ => (va_up S1 11 fun _ => 1) 14 0 + 1) XW r5) fun X10 => some X10 := a1
    have g : ∀ k, k ≠ 4 → k ≠ 11 → k ≠ 14 → (va_up (va_up S1 11 fun _ => 1) 14 fun _ => (va_up S1 11 fun _ => 1) 14 0 + 1) k = XN k := fun k z1 z2 z3 => by rw [up_ne _ _ z3, up_ne _ _ z2, a3 k z1]
    have e4 : (va_up (va_up S1 11 fun _ => 1) 14 fun _ => (va_up S1 11 fun _ => 1) 14 0 + 1) 4 = S1 4 := by rw [up_ne _ _ (by decide), up_ne _ _ (by decide)]
    have e11 : (va_up (va_up S1 11 fun _ => 1) 14 fun _ => (va_up S1 11 fun _ => 1) 14 0 + 1) 11 0 = 1 := by rw [up_ne _ _ (by decide), up_eq]
    have e14 : (va_up (va_up S1 11 fun _ => 1) 14 fun _ => (va_up S1 11 fun _ => 1) 14 0 + 1) 14 0 = XN 14 0 + 1 := by rw [up_eq, up_ne _ _ (by decide), a3 14 (by decide)]
    generalize (va_up (va_up S1 11 fun _ => 1) 14 fun _ => (va_up S1 11 fun _ => 1) 14 0 + 1) = X at hc1 g e4 e11 e14
    rw [askFor_ok hW hv (show 200 ≤ n by omega) g5 c (by rw [g 6 (by decide) (by decide) (by decide)]; exact g6), bnd_s] at hc1
    obtain ⟨S', b1, b2, b3, -, -, -, b7⟩ := c_bp (XS := X) hW hv t1 (by rw [g 3 (by decide) (by decide) (by decide)]; exact t2) hsA (by rw [e4]; exact a2) (show 200 ≤ n by omega) hb.1
    rw [b1, bnd_s] at hc1
    rw [hc1, bnd_s] at f1 ⊢
    obtain ⟨-, y1, y2⟩ := opt3 f1
    rw [← y1, ← y2] at hI2
    have hcl := wcl_le (wsOf T L) (bkT (wsOf T L) j)
    obtain ⟨v1, v2⟩ := hsA (wcl (wsOf T L) (bkT (wsOf T L) j)) (by omega)
    refine ⟨S', KH, YM, spA (wsOf T L) t sp ql la, false, by rw [b2], hI2, ⟨hW, hv, t1, ?_, hsA, ?_, by omega, fun _ => hb.2, ?_, b3, wtm_le hv t1 hb.1 v1, fun _ => wtm_pos hv t1 hb.1 (by omega) hb.2, ?_⟩, fun c' h' => spA_le g1 h', ?_, ?_⟩
    · rw [b7 3 (by decide) (by decide) (by decide), g 3 (by decide) (by decide) (by decide)]; exact t2
    · rw [b7 4 (by decide) (by decide) (by decide), e4]; exact a2
    · rw [b2, oI_lt hb.1]
    · rw [b7 11 (by decide) (by decide) (by decide), e11, if_neg (by decide)]
    · rw [b7 14 (by decide) (by decide) (by decide), e14]
    · rw [b7 2 (by decide) (by decide) (by decide), g 2 (by decide) (by decide) (by decide)]
  · left
    refine ⟨c, ?_⟩
    rw [if_pos (oI_ge c), bnd_s, if_neg (show ¬ (-2 : Int32) = 0 from by decide)]
/-- the class's jump: a place is put on the stack -/
theorem c_leapK {w : WS} {S XW XP XQ : DM} {t sp : Nat → Nat} (hW : PW w XW XP XQ) (hv : VS w) (ht : VT t) (hT : PT t (S 3)) (hp : VP sp) (hV : PV sp (S 4)) {n : Nat} (hn : 200 ≤ n) {j : Nat} (hj : j < wK w) (h6 : S 6 0 = nI j) {k : Nat} (hk4 : k ≤ 4) (p1 : S 9 0 = nI k) {s : Nat} (hs : s < wnS w) : ∃ S' : DM, lpC n XW XP (nI s) S = some S' ∧ S' 6 0 = nI (fsp w s) ∧ S' 8 k = nI j ∧ S' 9 0 = nI (k + 1) ∧ S' 2 = S 2 := by
  have hk := hv.1
  have hN := nS_le hv
  obtain ⟨f1, f2, f3⟩ := fsp_spec hv hs
  unfold lpC
  rw [p1, h6, put_in _ _ (by omega) (by omega), bnd_s, at_in _ (by omega) (by omega), bnd_s, firsts_ok hW hv hs]
  have g : ∀ z, z ≠ 8 → z ≠ 9 → z ≠ 11 → (va_up (va_up (va_up S 8 (upd (S 8) k (nI j))) 9 (fun _ => (va_up S 8 (upd (S 8) k (nI j))) 9 0 + 1)) 11 (fun _ => 0)) z = S z := fun z a b c => by rw [up_ne _ _ c, up_ne _ _ b, up_ne _ _ a]
  have g8 : (va_up (va_up (va_up S 8 (upd (S 8) k (nI j))) 9 (fun _ => (va_up S 8 (upd (S 8) k (nI j))) 9 0 + 1)) 11 (fun _ => 0)) 8 = upd (S 8) k (nI j) := by rw [up_ne _ _ (by decide), up_ne _ _ (by decide), up_eq]
  have g9 : (va_up (va_up (va_up S 8 (upd (S 8) k (nI j))) 9 (fun _ => (va_up S 8 (upd (S 8) k (nI j))) 9 0 + 1)) 11 (fun _ => 0)) 9 0 = nI (k + 1) := by rw [up_ne _ _ (by decide), up_eq, up_ne _ _ (by decide), p1, nI_1]
  generalize (va_up (va_up (va_up S 8 (upd (S 8) k (nI j))) 9 (fun _ => (va_up S 8 (upd (S 8) k (nI j))) 9 0 + 1)) 11 (fun _ => 0)) = X at g g8 g9
  obtain ⟨S', a1, a2, -, -, -, -, a7⟩ := c_bp (XS := X) hW hv ht (by rw [g 3 (by decide) (by decide) (by decide)]; exact hT) hp (by rw [g 4 (by decide) (by decide) (by decide)]; exact hV) hn f1
  refine ⟨S', by rw [a1, bnd_s], a2, ?_, ?_, ?_⟩
  · rw [a7 8 (by decide) (by decide) (by decide), g8, u_eq]
  · rw [a7 9 (by decide) (by decide) (by decide), g9]
  · rw [a7 2 (by decide) (by decide) (by decide), g 2 (by decide) (by decide) (by decide)]
theorem x_jump {n : Nat} (hn : 1400 ≤ n) {XF XN XA XW XP XQ XO XM : DM} {XH : HD} (hI : INV XF XN XA XW XP XQ XO XH XM) {T : Nat → Int32} {L : Nat} {t sp : Nat → Nat} {j r : Nat} {q : Bool} (hC : CC (wsOf T L) t sp j r q XN XW XP XQ) {s : Nat} (hs : s < wnS (wsOf T L) ∨ s = 0 ∧ wnS (wsOf T L) = 0) {k : Nat} (hk5 : k ≤ 5) (hk9 : XN 9 0 = nI k) : (∃ x : Int32, x < 0 ∧ fX5_jump n XF XN XW XP XH (nI s) = some (x, XN, XH)) ∨ (s < wnS (wsOf T L) ∧ j < wK (wsOf T L) ∧ ∃ (S' : DM) (YH : HD) (YM : DM), fX5_jump n XF XN XW XP XH (nI s) = some (nI (fsp (wsOf T L) s), S', YH) ∧ INV XF S' XA XW XP XQ XO YH YM ∧ S' 9 0 = nI (if k < 5 then k + 1 else 5) ∧ S' 8 ((if k < 5 then k + 1 else 5) - 1) = nI j ∧ S' 2 0 = XN 2 0) := by
  obtain ⟨r', YN, YH, YM, f1, -, hI2⟩ := ok_jump hn XF XN XA XW XP XQ XO XH XM (nI s) hI
  obtain ⟨KH, h, k1, k2⟩ := keepU hC.h11 hI.2.2
  have hC' := hC
  obtain ⟨hW, hv, ht, hT, hp, hV, h4, h5, h6, h8, h10, h11, h13⟩ := hC'
  have hk := hv.1
  have hN := nS_le hv
  unfold fX5_jump fX3_leapError at f1 ⊢
  rw [c_has2 (N := wnS (wsOf T L)) hW.2.2.1.1, bnd_s] at f1 ⊢
  by_cases c : s < wnS (wsOf T L)
  · obtain ⟨g1, g2, g3⟩ := fsp_spec hv c
    have e1 : ¬ (nI s < 0 ∨ nI (wnS (wsOf T L)) ≤ nI s) := by rw [rng2 hN]; exact fun q => q ⟨s, c, rfl⟩
    rw [if_neg e1, if_neg (show ¬ (1 : Int32) = 0 from by decide), h6, at_in _ (by omega) (by omega), bnd_s, firsts_ok hW hv c, isMark_ok hW hv g1, bnd_s] at f1 ⊢
    by_cases cj : j < wK (wsOf T L)
    · rw [oI_lt cj] at h6
      rw [if_neg (show ¬ oI (wK (wsOf T L)) j = -1 from by rw [oI_lt cj]; exact nI_ne_m1 (by omega))] at f1 ⊢
      by_cases cm : wkd (wsOf T L) (fsp (wsOf T L) s) = 3
      · left
        rw [if_pos cm, if_neg (show ¬ (1 : Int32) = 0 from by decide), bnd_s, if_neg (show ¬ (-2 : Int32) = 0 from by decide)]
        exact ⟨-2, by decide, rfl⟩
      · right
        refine ⟨c, cj, ?_⟩
        rw [if_neg cm, if_pos rfl, bnd_s, if_pos rfl, k1, bnd_s] at f1 ⊢
        have lp : ∃ S' : DM, fX3_leapTo n XN XW XP (nI s) = some S' ∧ S' 6 0 = nI (fsp (wsOf T L) s) ∧ S' 8 ((if k < 5 then k + 1 else 5) - 1) = nI j ∧ S' 9 0 = nI (if k < 5 then k + 1 else 5) ∧ S' 2 = XN 2 := by
          rw [leapTo_eq, hk9]
          by_cases c5 : k < 5
          · rw [if_pos ((lt_l2 (a := k) (k := 5) (by omega) (by omega)).mpr c5), if_pos c5]
            exact c_leapK hW hv ht hT hp hV (show 200 ≤ n by omega) cj h6 (by omega) hk9 c
          · have : k = 5 := by omega
            subst this
            rw [if_neg (show ¬ nI 5 < (5 : Int32) from by decide), if_neg c5]
            obtain ⟨S1, a1, a2, a3, a4⟩ := c_leap_L n XW XP (fun x1 XS => lpC n XW XP x1 (va_up XS 9 (fun _ => 4))) (nI s) 4 1 (by omega) (by omega) n (by omega) XN
            rw [show fX3_leapTo_L10 n XW XP (fun x1 XS => lpC n XW XP x1 (va_up XS 9 (fun _ => 4))) n (nI s) 1 XN = _ from a1]
            try dsimp only
            have g : ∀ z, z ≠ 8 → z ≠ 9 → va_up S1 9 (fun _ => 4) z = XN z := fun z x y => by rw [up_ne _ _ y, a4 z x]
            obtain ⟨S', d1, d2, d3, d4, d5⟩ := c_leapK (S := va_up S1 9 (fun _ => 4)) (k := 4) hW hv ht (by rw [g 3 (by decide) (by decide)]; exact hT) hp (by rw [g 4 (by decide) (by decide)]; exact hV) (show 200 ≤ n by omega) cj (by rw [g 6 (by decide) (by decide)]; exact h6) (Nat.le_refl _) (by rw [up_eq]; rfl) c
            exact ⟨S', d1, d2, d3, d4, by rw [d5, g 2 (by decide) (by decide)]⟩
        obtain ⟨S', b1, b2, b3, b4, b5⟩ := lp
        rw [b1, bnd_s, b2] at f1 ⊢
        obtain ⟨-, y1, y2⟩ := opt3 f1
        rw [← y1, ← y2] at hI2
        exact ⟨S', KH, YM, rfl, hI2, b4, b3, by rw [b5]⟩
    · left
      rw [if_pos (oI_ge cj), bnd_s, if_neg (show ¬ (-2 : Int32) = 0 from by decide)]
      exact ⟨-2, by decide, rfl⟩
  · left
    have e1 : nI s < 0 ∨ nI (wnS (wsOf T L)) ≤ nI s := Or.inr (nI_le (by omega) (by omega))
    rw [if_pos e1, if_pos rfl, bnd_s, if_neg (show ¬ (-1 : Int32) = 0 from by decide)]
    exact ⟨-1, by decide, rfl⟩
theorem x_goBack {n : Nat} (hn : 1400 ≤ n) {XF XN XA XW XP XQ XO XM : DM} {XH : HD} (hI : INV XF XN XA XW XP XQ XO XH XM) {k j : Nat} (hk5 : k + 1 ≤ 5) (hk9 : XN 9 0 = nI (k + 1)) (hk8 : XN 8 k = nI j) : ∃ (S' : DM) (YH : HD) (YM : DM), fX5_goBack n XF XN XW XH = some (nI j, S', YH) ∧ INV XF S' XA XW XP XQ XO YH YM ∧ S' 9 0 = nI k ∧ S' 2 0 = XN 2 0 := by
  obtain ⟨r', YN, YH, YM, f1, -, hI2⟩ := ok_goBack hn XF XN XA XW XP XQ XO XH XM hI
  obtain ⟨⟨T, L, hR, hW, hM⟩, hO, hH⟩ := hI
  obtain ⟨h1, h2, h3, h4, ⟨t, sp, jj, r, t1, t2, t3, t4⟩, ⟨pk, pl, p0, p1, p2, p3⟩, hN, h13, h14⟩ := hR
  have hv := wsOf_VS (T := T) h1
  have hk := hv.1
  obtain ⟨q, hC⟩ := t4.cc hW hv t1 t2
  obtain ⟨KH, h, k1, k2⟩ := keepU hC.h11 hH
  have hpk : pk = k + 1 := (nI_eq (by omega) (by omega)).mp (p1.symm.trans hk9)
  obtain ⟨q1, -, q3, -⟩ := p3 k (by omega)
  have hq : nI (pl k) = nI j := q3.symm.trans hk8
  unfold fX5_goBack fX3_returnError fX3_returnToPlace at f1 ⊢
  simp only [sl_s] at f1 ⊢
  rw [hk9, if_neg (nI_ne0 (by omega) (by omega)), bnd_s, if_pos rfl, k1, bnd_s] at f1 ⊢
  rw [show (nI (k + 1) - 1 : Int32) = nI k from nI_pred k] at f1 ⊢
  have g : ∀ z, z ≠ 9 → z ≠ 11 → va_up (va_up XN 9 (fun _ => nI k)) 11 (fun _ => 0) z = XN z := fun z a b => by rw [up_ne _ _ b, up_ne _ _ a]
  have g9 : va_up (va_up XN 9 (fun _ => nI k)) 11 (fun _ => 0) 9 0 = nI k := by rw [up_ne _ _ (by decide), up_eq]
  generalize va_up (va_up XN 9 (fun _ => nI k)) 11 (fun _ => 0) = X at g g9 f1 ⊢
  rw [g9, at_in _ (by omega) (by omega), bnd_s, g 8 (by decide) (by decide), q3] at f1 ⊢
  obtain ⟨S', a1, a2, -, -, -, -, a7⟩ := c_bp (XS := X) hW hv t1 (by rw [g 3 (by decide) (by decide)]; exact t2) t4.1 (by rw [g 4 (by decide) (by decide)]; exact t4.2.1) (show 200 ≤ n by omega) q1
  rw [a1, bnd_s, bnd_s, a2, hq] at f1 ⊢
  obtain ⟨-, y1, y2⟩ := opt3 f1
  rw [← y1, ← y2] at hI2
  refine ⟨S', KH, YM, rfl, hI2, ?_, ?_⟩
  · rw [a7 9 (by decide) (by decide) (by decide), g9]
  · rw [a7 2 (by decide) (by decide) (by decide), g 2 (by decide) (by decide)]
theorem x_speed {n : Nat} (hn : 1400 ≤ n) {XF XN XA XW XP XQ XO XM : DM} {XH : HD} (hI : INV XF XN XA XW XP XQ XO XH XM) {c v : Nat} (hc : c < 3) (v1 : 50 ≤ v) (v2 : v ≤ 400) : ∃ (S' : DM) (YH : HD) (YM : DM), fX5_speed XF XN XH (nI c) (nI v) = some (XN 4 c, S', YH) ∧ INV XF S' XA XW XP XQ XO YH YM ∧ S' 2 0 = XN 2 0 := by
  obtain ⟨r', YN, YH, YM, f1, -, hI2⟩ := ok_speed hn XF XN XA XW XP XQ XO XH XM (nI c) (nI v) hI
  obtain ⟨T, L, t, sp, j, r, q, hL, hS, hT, hC⟩ := hI.cc
  obtain ⟨KH, h, k1, k2⟩ := keepU hC.h11 hI.2.2
  have ef : fX5_speed XF XN XH (nI c) (nI v) = some (XN 4 c, va_up XN 4 (upd (XN 4) c (nI v)), KH) := by
    unfold fX5_speed
    rw [if_neg (nI_pos (by omega)), if_neg (fun e => absurd ((le_l1 (k := 3) (a := c) (by omega) (by omega)).mp e) (by omega)), if_neg (fun e => absurd ((lt_l2 (a := v) (k := 50) (by omega) (by omega)).mp e) (by omega)), if_pos ((le_l2 (a := v) (k := 400) (by omega) (by omega)).mpr v2), k1, bnd_s, at_in _ hc (by omega), bnd_s, put_in _ _ hc (by omega), bnd_s, sl_s]
  rw [ef] at f1
  obtain ⟨-, y1, y2⟩ := opt3 f1
  rw [← y1, ← y2] at hI2
  exact ⟨_, KH, YM, ef, hI2, by rw [up_ne _ _ (by decide)]⟩
theorem x_set {n : Nat} (hn : 1400 ≤ n) {XF XN XA XW XP XQ XO XM : DM} {XH : HD} (hI : INV XF XN XA XW XP XQ XO XH XM) {v : Nat} (v2 : v ≤ 50) : ∃ (S' : DM) (YH : HD) (YM : DM), fX5_set XF XN XH 5 (nI v) = some (XN 3 5, S', YH) ∧ INV XF S' XA XW XP XQ XO YH YM ∧ S' 2 0 = XN 2 0 := by
  obtain ⟨r', YN, YH, YM, f1, -, hI2⟩ := ok_set hn XF XN XA XW XP XQ XO XH XM 5 (nI v) hI
  obtain ⟨T, L, t, sp, j, r, q, hL, hS, hT, hC⟩ := hI.cc
  obtain ⟨KH, h, k1, k2⟩ := keepU hC.h11 hI.2.2
  have ef : fX5_set XF XN XH 5 (nI v) = some (XN 3 5, va_up XN 3 (upd (XN 3) 5 (nI v)), KH) := by
    unfold fX5_set
    rw [if_neg (show ¬ (5 : Int32) < 0 from by decide), if_pos (show (5 : Int32) < 7 from by decide), at_l (k := 5) _ (by omega) (by omega), bnd_s, show lowS 5 = 0 from rfl, if_neg (nI_pos (show v < 2 ^ 31 by omega)), at_l (k := 5) _ (by omega) (by omega), bnd_s, show highS 5 = 50 from rfl, if_pos ((le_l2 (a := v) (k := 50) (by omega) (by omega)).mpr v2), k1, bnd_s, at_l (k := 5) _ (by omega) (by omega), bnd_s, put_l (k := 5) _ _ (by omega) (by omega), bnd_s, sl_s]
  rw [ef] at f1
  obtain ⟨-, y1, y2⟩ := opt3 f1
  rw [← y1, ← y2] at hI2
  exact ⟨_, KH, YM, ef, hI2, by rw [up_ne _ _ (by decide)]⟩
