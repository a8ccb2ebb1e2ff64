/-! p27: numbers and times agree -/
theorem m1_nI {a : Nat} (h : a < 2 ^ 31) : ¬ nI a ≤ (-1 : Int32) := by
  rw [i_le]
  exact fun e => e (Int32.lt_of_lt_of_le m1_lt0 (i_le.mpr (nI_pos h)))
theorem cnt30c {n : Nat} {XF XN XW XP XQ XO : DM} {XH : HD} {c : Nat} (hc : c < 3) : fX5_count n XF XN XW XP XQ XO XH (30 + nI c) = some (XN 4 c) := by
  rcases (show c = 0 ∨ c = 1 ∨ c = 2 by omega) with rfl | rfl | rfl
  · rw [show (30 : Int32) + nI 0 = 30 from rfl, cnt30]
  · rw [show (30 : Int32) + nI 1 = 31 from rfl, cnt31]
  · rw [show (30 : Int32) + nI 2 = 32 from rfl, cnt32]
section HOLDS
variable {n : Nat} {XF XO : DM} {XH : HD} {w : WS} {t sp : Nat → Nat} {j r : Nat} {q : Bool} {XN XW XP XQ : DM}
theorem hL400_s (hC : CC w t sp j r q XN XW XP XQ) {c : Nat} (hc : c < 3) (kk : Int32 → Int32 → Int32 → Int32 → Int32 → Option Int32) (fu : Nat) (x2 x3 x5 x6 : Int32) : fL_holds_L400 n XF XN XW XP XQ XO XH kk (fu + 1) x2 x3 1 x5 x6 (nI c) = fL_holds_L400 n XF XN XW XP XQ XO XH kk fu x2 x3 1 x5 x6 (nI (c + 1)) := by
  obtain ⟨-, -, -, -, hp, hV, -⟩ := hC
  obtain ⟨v1, v2⟩ := hp c hc
  conv => lhs; unfold fL_holds_L400
  rw [if_neg (fun e => absurd ((le_l1 (k := 3) (a := c) (by omega) (by omega)).mp e) (by omega))]
  refine sl_in (fun j445 e445 => ?_)
  refine sl_in (fun j444 e444 => ?_)
  rw [if_neg (show ¬ (1 : Int32) = 0 from by decide), cnt30c hc, bnd_s, hV c hc, if_neg (fun e => absurd ((lt_l2 (a := sp c) (k := 50) (by omega) (by omega)).mp e) (by omega)), bnd_s, if_neg (fun e => absurd ((lt_l1 (k := 400) (a := sp c) (by omega) (by omega)).mp e) (by omega)), e445]
  try dsimp only
  rw [sl_s, nI_1]
theorem hL400 (hC : CC w t sp j r q XN XW XP XQ) (hn : 200 ≤ n) (kk : Int32 → Int32 → Int32 → Int32 → Int32 → Option Int32) (x2 x3 x5 x6 : Int32) : fL_holds_L400 n XF XN XW XP XQ XO XH kk n x2 x3 1 x5 x6 0 = kk x2 x3 1 x5 x6 := by
  have key : ∀ fu, fL_holds_L400 n XF XN XW XP XQ XO XH kk (fu + 4) x2 x3 1 x5 x6 (nI 0) = kk x2 x3 1 x5 x6 := by
    intro fu
    rw [show fu + 4 = fu + 3 + 1 by omega, hL400_s hC (by omega), show fu + 3 = fu + 2 + 1 by omega, hL400_s hC (by omega), show fu + 2 = fu + 1 + 1 by omega, hL400_s hC (by omega)]
    unfold fL_holds_L400
    rw [if_pos (show (3 : Int32) ≤ nI (0 + 1 + 1 + 1) from by decide)]
  have := key (n - 4)
  rw [show n - 4 + 4 = n by omega] at this
  exact this
theorem hL369 (hC : CC w t sp j r q XN XW XP XQ) (hn : 200 ≤ n) (kk : Int32 → Int32 → Int32 → Int32 → Int32 → Option Int32) (x2 x3 x4 x5 : Int32) : ∀ (k s acc : Nat), s + k = wnS w → ∀ fu, k < fu → fL_holds_L369 n XF XN XW XP XQ XO XH kk fu x2 x3 x4 x5 (nI acc) (nI s) = kk x2 x3 x4 x5 (nI (acc + smN (fun s => smN (fun i => if wsn w i = s then wtn w t sp i else 0) (wK w) 0) k s)) := by
  have e2 : XP 3 0 = nI (wnS w) := hC.1.2.2.1.1
  have hN := nS_le hC.2.1
  intro k
  induction k with
  | zero =>
    intro s acc hs fu hfu
    obtain ⟨fu, rfl⟩ : ∃ z, fu = z + 1 := ⟨fu - 1, by omega⟩
    unfold fL_holds_L369
    rw [cnt2, bnd_s, e2, if_pos (nI_le (by omega) (by omega))]
    rfl
  | succ k ih =>
    intro s acc hs fu hfu
    obtain ⟨fu, rfl⟩ : ∃ z, fu = z + 1 := ⟨fu - 1, by omega⟩
    unfold fL_holds_L369
    rw [cnt2, bnd_s, e2, if_neg (nI_ge (by omega) (by omega)), snt2 hn hC (by omega), bnd_s, sl_s, sl_s, nI_add, nI_1, ih (s + 1) _ (by omega) fu (by omega), smN_s, Nat.add_assoc]
theorem hL335 (hC : CC w t sp j r q XN XW XP XQ) (hn : 200 ≤ n) (kk : Int32 → Int32 → Int32 → Int32 → Option Int32) (x2 x3 x4 : Int32) : ∀ (k s acc : Nat), s + k = wnP w → ∀ fu, k < fu → fL_holds_L335 n XF XN XW XP XQ XO XH kk fu x2 x3 x4 (nI acc) (nI s) = kk x2 x3 x4 (nI (acc + smN (fun s => smN (fun i => if wpg w i = s then wtn w t sp i else 0) (wK w) 0) k s)) := by
  have e2 : XQ 3 0 = nI (wnP w) := hC.1.2.2.2.1
  have hN := nP_le hC.2.1
  intro k
  induction k with
  | zero =>
    intro s acc hs fu hfu
    obtain ⟨fu, rfl⟩ : ∃ z, fu = z + 1 := ⟨fu - 1, by omega⟩
    unfold fL_holds_L335
    rw [cnt3, bnd_s, e2, if_pos (nI_le (by omega) (by omega))]
    rfl
  | succ k ih =>
    intro s acc hs fu hfu
    obtain ⟨fu, rfl⟩ : ∃ z, fu = z + 1 := ⟨fu - 1, by omega⟩
    unfold fL_holds_L335
    rw [cnt3, bnd_s, e2, if_neg (nI_ge (by omega) (by omega)), pag2 hn hC (by omega), bnd_s, sl_s, sl_s, nI_add, nI_1, ih (s + 1) _ (by omega) fu (by omega), smN_s, Nat.add_assoc]
theorem hL54_s {T : Nat → Int32} {L : Nat} (hL : L ≤ 300) (hC : CC (wsOf T L) t sp j r q XN XW XP XQ) (hnt : ∀ i, i < wK (wsOf T L) → wkd (wsOf T L) i = 3 → XN 5 i = 0) {i : Nat} (hi : i < wK (wsOf T L)) (kk : Int32 → Int32 → Int32 → Option Int32) (a b fu : Nat) : fL_holds_L54 n XF XN XW XP XQ XO XH kk (fu + 1) (nI (wK (wsOf T L))) (nI a) (nI b) 1 (nI i) = fL_holds_L54 n XF XN XW XP XQ XO XH kk fu (nI (wK (wsOf T L))) (nI (a + wtn (wsOf T L) t sp i)) (nI (b + (wsOf T L).2 1 i)) 1 (nI (i + 1)) := by
  have hC' := hC
  obtain ⟨hW, hv, ht, hT, hp, hV, -⟩ := hC'
  have hk := hv.1
  have s1 := ws_len T L i
  have s2 := ws_spot T L i
  have s3 := ws_sp0 T L i
  obtain ⟨s4, s5⟩ := wsOf_in2 hi
  have s6 : 0 < i → (wsOf T L).2 0 (i - 1) + (wsOf T L).2 1 (i - 1) < (wsOf T L).2 0 i := fun z => by
    have := ws_sep (T := T) (L := L) (i := i - 1) (by omega)
    rw [show i - 1 + 1 = i by omega] at this
    exact this
  obtain ⟨v0, v1, v2, v3, v4, v5⟩ := hv.2.1 i hi
  have hcl := wcl_le (wsOf T L) i
  have hms := (wms_le hv ht hi).2
  have hmt : t 1 ≤ wms (wsOf T L) t i := Nat.le_max_right _ _
  have ht1 : t 1 ≤ 10 := ht.2.2.2.1
  obtain ⟨p1, p2⟩ := hp (wcl (wsOf T L) i) (by omega)
  have wt0 : wkd (wsOf T L) i = 3 → wtn (wsOf T L) t sp i = 0 := fun c => by unfold wtn wtm; rw [if_pos c]
  have wt1 : ¬ wkd (wsOf T L) i = 3 → 1 ≤ wtn (wsOf T L) t sp i := fun c => wtm_pos hv ht hi (by omega) c
  have wt2 : wtn (wsOf T L) t sp i ≤ 186000 := wtn_le hv ht hp hi
  generalize hw : wsOf T L = w at *
  conv => lhs; unfold fL_holds_L54
  rw [if_neg (nI_ge hi (by omega)), if_neg (show ¬ (1 : Int32) = 0 from by decide), wd4 hC hi, bnd_s, wd8 hC hi, bnd_s, sl_s, nI_add, wd1 hC hi, bnd_s, sl_s, nI_add]
  generalize a + wtn w t sp i = a'
  generalize b + w.2 1 i = b'
  refine sl_in (fun j106 e106 => ?_)
  have J106 : j106 (nI (wK w)) (nI a') (nI b') (nI i) (nI (wkd w i)) (if wkd w i = 3 then 1 else 0) = fL_holds_L54 n XF XN XW XP XQ XO XH kk fu (nI (wK w)) (nI a') (nI b') 1 (nI (i + 1)) := by
    rw [e106]
    try dsimp only
    rw [wd8 hC hi, bnd_s]
    refine sl_in (fun j122 e122 => ?_)
    have J122 : j122 (nI (wK w)) (nI a') (nI b') (nI i) (nI (wkd w i)) (if wkd w i = 3 then 1 else 0) (if wkd w i = 3 then 1 else 0) = fL_holds_L54 n XF XN XW XP XQ XO XH kk fu (nI (wK w)) (nI a') (nI b') 1 (nI (i + 1)) := by
      rw [e122]
      try dsimp only
      refine sl_in (fun j250 e250 => ?_)
      have J250 : j250 (nI (wK w)) (nI a') (nI b') (nI i) (nI (wkd w i)) 1 = fL_holds_L54 n XF XN XW XP XQ XO XH kk fu (nI (wK w)) (nI a') (nI b') 1 (nI (i + 1)) := by
        rw [e250]
        try dsimp only
        refine sl_in (fun j321 e321 => ?_)
        refine sl_in (fun j320 e320 => ?_)
        have J321 : j321 (nI (wK w)) (nI a') (nI b') (nI i) 1 = fL_holds_L54 n XF XN XW XP XQ XO XH kk fu (nI (wK w)) (nI a') (nI b') 1 (nI (i + 1)) := by
          rw [e321]
          try dsimp only
          rw [sl_s, nI_1]
        rw [if_neg (show ¬ (1 : Int32) = 0 from by decide)]
        refine sl_in (fun j274 e274 => ?_)
        have J274 : j274 (nI (wK w)) (nI a') (nI b') (nI i) = fL_holds_L54 n XF XN XW XP XQ XO XH kk fu (nI (wK w)) (nI a') (nI b') 1 (nI (i + 1)) := by
          rw [e274]
          try dsimp only
          rw [wd3 hC hi, bnd_s, wd2 hC hi, bnd_s]
          refine sl_in (fun j313 e313 => ?_)
          have J313 : ∀ c : Int32, nI (wcl w i) = c → j313 (nI (wK w)) (nI a') (nI b') (nI i) (nI (wcl w i)) c = fL_holds_L54 n XF XN XW XP XQ XO XH kk fu (nI (wK w)) (nI a') (nI b') 1 (nI (i + 1)) := by
            intro c hc
            rw [e313]
            try dsimp only
            rw [if_pos hc]
            exact J321
          by_cases c5 : 5 ≤ wln w i
          · rw [if_pos ((le_l1 (k := 5) (a := wln w i) (by omega) (by omega)).mpr c5), bnd_s]
            by_cases c9 : 9 ≤ wln w i
            · rw [if_pos ((le_l1 (k := 9) (a := wln w i) (by omega) (by omega)).mpr c9)]
              exact J313 2 (by rw [show wcl w i = 2 from by unfold wcl; rw [if_neg (by omega), if_neg (by omega)]]; rfl)
            · rw [if_neg (fun e => c9 ((le_l1 (k := 9) (a := wln w i) (by omega) (by omega)).mp e))]
              exact J313 1 (by rw [show wcl w i = 1 from by unfold wcl; rw [if_neg (by omega), if_pos (by omega)]]; rfl)
          · rw [if_neg (fun e => c5 ((le_l1 (k := 5) (a := wln w i) (by omega) (by omega)).mp e))]
            exact J313 0 (by rw [show wcl w i = 0 from by unfold wcl; rw [if_pos (by omega)]]; rfl)
        by_cases c3 : wkd w i < 3
        · rw [if_pos ((lt_l2 (a := wkd w i) (k := 3) (by omega) (by omega)).mpr c3)]
          exact J274
        · rw [if_neg (fun e => c3 ((lt_l2 (a := wkd w i) (k := 3) (by omega) (by omega)).mp e)), wd9 hC hi, bnd_s, hnt i hi (by omega), if_pos rfl]
          exact J274
      refine sl_in (fun j249 e249 => ?_)
      rw [if_pos rfl, wd7 hC hi, bnd_s, cnt21, bnd_s, hT 1 (by omega), if_neg (nI_nlt hmt (by omega)), wd2 hC hi, bnd_s, wd1 hC hi, bnd_s, if_neg (nI_nlt s1 (by omega)), wd10 hC hi, bnd_s]
      refine sl_in (fun j175 e175 => ?_)
      have J175 : j175 (nI (wK w)) (nI a') (nI b') (nI i) (nI (wkd w i)) (if wln w i = 0 then 1 else 0) = fL_holds_L54 n XF XN XW XP XQ XO XH kk fu (nI (wK w)) (nI a') (nI b') 1 (nI (i + 1)) := by
        rw [e175]
        try dsimp only
        rw [wd2 hC hi, bnd_s]
        refine sl_in (fun j190 e190 => ?_)
        have J190 : j190 (nI (wK w)) (nI a') (nI b') (nI i) (nI (wkd w i)) (if wln w i = 0 then 1 else 0) (if wln w i = 0 then 1 else 0) = fL_holds_L54 n XF XN XW XP XQ XO XH kk fu (nI (wK w)) (nI a') (nI b') 1 (nI (i + 1)) := by
          rw [e190]
          try dsimp only
          have sz : ¬ nI (w.2 1 i) ≤ spI (w.2 5 i) := by
            unfold spI
            by_cases c : w.2 5 i = 0
            · rw [if_pos c]; exact m1_nI (by omega)
            · rw [if_neg c]; exact nI_ge (by omega) (by omega)
          rw [if_pos rfl, wd10 hC hi, bnd_s, wd1 hC hi, bnd_s, if_neg sz]
          refine sl_in (fun j245 e245 => ?_)
          have J245 : j245 (nI (wK w)) (nI a') (nI b') (nI i) (nI (wkd w i)) = fL_holds_L54 n XF XN XW XP XQ XO XH kk fu (nI (wK w)) (nI a') (nI b') 1 (nI (i + 1)) := by
            rw [e245]
            try dsimp only
            exact J250
          by_cases c0 : i = 0
          · rw [if_pos (show nI i = 0 from by rw [c0]; rfl)]
            exact J245
          · rw [if_neg (show ¬ nI i = 0 from nI_ne0 (by omega) (by omega)), wd0 hC hi, bnd_s, show (nI i - 1 : Int32) = nI (i - 1) from n_sub (show 1 ≤ i by omega), wd0 hC (show i - 1 < wK w by omega), bnd_s, wd1 hC (show i - 1 < wK w by omega), bnd_s, nI_add, if_neg (nI_ge (s6 (by omega)) (by omega))]
            exact J245
        by_cases c : wln w i = 0
        · rw [if_pos c] at J190
          rw [if_pos (show nI (wln w i) = 0 from by rw [c]; rfl), if_pos c]
          exact J190
        · rw [if_neg c] at J190
          rw [if_neg (show ¬ nI (wln w i) = 0 from nI_ne0 (by omega) (by omega)), if_neg c]
          exact J190
      by_cases c : wln w i = 0
      · rw [if_pos c] at J175
        rw [show spI (w.2 5 i) = -1 from by unfold spI; rw [if_pos (s3.mpr c)], if_neg (show ¬ (0 : Int32) ≤ -1 from by decide)]
        exact J175
      · have z : ¬ w.2 5 i = 0 := fun e => c (s3.mp e)
        rw [if_neg c] at J175
        rw [show spI (w.2 5 i) = nI (w.2 5 i - 1) from by unfold spI; rw [if_neg z], if_pos (show (0 : Int32) ≤ nI (w.2 5 i - 1) from i_le.mpr (nI_pos (by omega)))]
        exact J175
    by_cases c : wkd w i = 3
    · rw [if_pos c] at J122
      rw [wt0 c, if_pos (show nI 0 = (0 : Int32) from rfl), if_pos c]
      exact J122
    · rw [if_neg c] at J122
      have := wt1 c
      rw [if_neg (show ¬ nI (wtn w t sp i) = 0 from nI_ne0 (by omega) (by omega)), if_neg c]
      exact J122
  by_cases c : wkd w i = 3
  · rw [if_pos c] at J106
    rw [if_pos (show nI (wkd w i) = 3 from by rw [c]; rfl)]
    exact J106
  · rw [if_neg c] at J106
    rw [if_neg (fun e => c ((eq_l (a := wkd w i) (k := 3) (by omega) (by omega)).mp e))]
    exact J106
theorem hL54 {T : Nat → Int32} {L : Nat} (hL : L ≤ 300) (hC : CC (wsOf T L) t sp j r q XN XW XP XQ) (hnt : ∀ i, i < wK (wsOf T L) → wkd (wsOf T L) i = 3 → XN 5 i = 0) (kk : Int32 → Int32 → Int32 → Option Int32) : ∀ (k i a b : Nat), i + k = wK (wsOf T L) → ∀ fu, k < fu → fL_holds_L54 n XF XN XW XP XQ XO XH kk fu (nI (wK (wsOf T L))) (nI a) (nI b) 1 (nI i) = kk (nI (a + smN (wtn (wsOf T L) t sp) k i)) (nI (b + smN ((wsOf T L).2 1) k i)) 1 := by
  have hk := hC.2.1.1
  intro k
  induction k with
  | zero =>
    intro i a b hi fu hfu
    obtain ⟨fu, rfl⟩ : ∃ z, fu = z + 1 := ⟨fu - 1, by omega⟩
    unfold fL_holds_L54
    rw [if_pos (nI_le (by omega) (by omega))]
    rfl
  | succ k ih =>
    intro i a b hi fu hfu
    obtain ⟨fu, rfl⟩ : ∃ z, fu = z + 1 := ⟨fu - 1, by omega⟩
    rw [hL54_s hL hC hnt (by omega), ih (i + 1) _ _ (by omega) fu (by omega), smN_s, smN_s, Nat.add_assoc, Nat.add_assoc]
end HOLDS
theorem x_holds {n : Nat} (hn : 1400 ≤ n) {XF XN XA XW XP XQ XO XM : DM} {XH : HD} (hI : INV XF XN XA XW XP XQ XO XH XM) : fL_holds n XF XN XW XP XQ XO XH = some 1 := by
  obtain ⟨⟨T, L, hR, hW, hM⟩, hO, hH⟩ := hI
  obtain ⟨h1, h2, h3, h4, ⟨t, sp, j, r, t1, t2, t3, t4⟩, ⟨pk, pl, p0, p1, p2, p3⟩, ⟨nt, m, pos, hN⟩, h13, h14⟩ := hR
  have hv := wsOf_VS (T := T) h1
  have hk := hv.1
  obtain ⟨q, hC⟩ := t4.cc hW hv t1 t2
  have hnt : ∀ i, i < wK (wsOf T L) → wkd (wsOf T L) i = 3 → XN 5 i = 0 := by
    intro i hi c
    obtain ⟨f1, -⟩ := hN.2.2.2.2.1 i (by omega)
    by_cases z : nt i = 0
    · rw [f1, z]; rfl
    · obtain ⟨a, a1, a2⟩ := hN.2.2.2.2.2 i (by omega) z
      have := (hN.2.2.1 a a1).2.1
      rw [a2] at this
      exact absurd c this
  have hm := hN.1
  have hS := nS_le hv
  have hP := nP_le hv
  have hPS := nP_nS hv
  have hal := ws_all T L
  have e2 : XP 3 0 = nI (wnS (wsOf T L)) := hW.2.2.1.1
  have e3 : XQ 3 0 = nI (wnP (wsOf T L)) := hW.2.2.2.1
  unfold fL_holds
  rw [cnt1, bnd_s, hW.1, cnt2, bnd_s, e2, cnt3, bnd_s, e3]
  refine sl_in (fun j49 e49 => ?_)
  have J49 : j49 (nI (wK (wsOf T L))) 0 0 1 = some 1 := by
    rw [e49]
    try dsimp only
    refine sl_in (fun j329 e329 => ?_)
    rw [show fL_holds_L54 n XF XN XW XP XQ XO XH j329 n (nI (wK (wsOf T L))) 0 0 1 0 = _ from hL54 h1 hC hnt j329 (wK (wsOf T L)) 0 0 0 (by omega) n (by omega), e329]
    try dsimp only
    refine sl_in (fun j363 e363 => ?_)
    rw [show ∀ (x2 x3 : Int32), fL_holds_L335 n XF XN XW XP XQ XO XH j363 n x2 x3 1 0 0 = _ from fun x2 x3 => hL335 hC (show 200 ≤ n by omega) j363 x2 x3 1 (wnP (wsOf T L)) 0 0 (by omega) n (by omega), e363]
    try dsimp only
    refine sl_in (fun j397 e397 => ?_)
    rw [show ∀ (x2 x3 x5 : Int32), fL_holds_L369 n XF XN XW XP XQ XO XH j397 n x2 x3 1 x5 0 0 = _ from fun x2 x3 x5 => hL369 hC (show 200 ≤ n by omega) j397 x2 x3 1 x5 (wnS (wsOf T L)) 0 0 (by omega) n (by omega), e397]
    try dsimp only
    refine sl_in (fun j453 e453 => ?_)
    rw [hL400 hC (show 200 ≤ n by omega), e453]
    try dsimp only
    rw [smN_all (wK (wsOf T L)) 0 (fun i _ hi => pg_nP hv (by omega)), smN_all (wK (wsOf T L)) 0 (fun i _ hi => sn_nS hv (by omega)), Nat.zero_add, Nat.zero_add]
    rw [cnt4w hC, bnd_s, if_neg (show ¬ (1 : Int32) = 0 from by decide), cnt13w (show 200 ≤ n by omega) hC, bnd_s, if_pos rfl, if_pos rfl, if_pos rfl, cnt0, bnd_s, h2, if_neg (nI_nlt hal (by omega))]
    by_cases c : j < wK (wsOf T L)
    · have hkd := (hv.2.1 j c).2.2.2.1
      have hsh := t4.2.2.2.2.1 c
      have hr1 := t4.2.2.2.2.2.2.2.2.2.2.1 c
      have hr2 := t4.2.2.2.2.2.2.2.2.2.1
      rw [if_pos c, if_neg (nI_pos (by omega)), wd4 hC c, bnd_s, if_neg (fun e => absurd ((le_l1 (k := 3) (a := wkd (wsOf T L) j) (by omega) (by omega)).mp e) (by omega)), cnt5w hC, bnd_s, if_pos c, if_neg (nI_nle (by omega) (by omega))]
    · rw [if_neg c, if_pos (show (-4 : Int32) < 0 from by decide)]
  refine sl_in (fun j48 e48 => ?_)
  rw [if_neg (nI_nlt hPS (by omega)), cnt6, bnd_s, p1, if_neg (fun e => absurd ((lt_l1 (k := 5) (a := pk) (by omega) (by omega)).mp e) (by omega)), cnt7, c_cn hv.1 hN (show 200 ≤ n by omega), bnd_s, if_neg (fun e => absurd ((lt_l1 (k := 10) (a := m) (by omega) (by omega)).mp e) (by omega))]
  exact J49
