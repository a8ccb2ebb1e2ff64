/-! p27: the law's steps -/
theorem n_rem {a d : Nat} (ha : a < 2 ^ 31) (h0 : 0 < d) (hd : d < 2 ^ 31) : rmA (nI a) (nI d) = some (nI (a % d)) := by
  unfold rmA
  rw [if_neg (nI_ne0 h0 hd), pk_rem ha h0 hd]
theorem cell_ok {L : Nat} (hL : L ≤ 260) (xs : Nat → Int32) {i : Nat} (hi : i < 1000) : ∃ a, a < 2 ^ 31 ∧ fL_cell L xs (nI i) = some (nI a) := by
  unfold fL_cell
  rw [sl_s]
  by_cases c : L ≤ i
  · rw [if_pos (nI_le c (by omega))]
    obtain ⟨j, h1, h2⟩ := pk_andE ((15485959 * nI i) + 109) (m := 2147483647) 31 (by decide)
    exact ⟨j, h1, congrArg some h2⟩
  · rw [if_neg (nI_ge (by omega) (by omega)), rd_in _ (by omega) (by omega), bnd_s]
    obtain ⟨j, h1, h2⟩ := pk_andE (xs i) (m := 2147483647) 31 (by decide)
    exact ⟨j, h1, congrArg some h2⟩
def SG (z : Option Int32) : Prop := ∃ c : Nat, 32 ≤ c ∧ c ≤ 126 ∧ z = some (nI c)
theorem sign_ok {a : Nat} (ha : a < 2 ^ 31) : SG (fL_sign (nI a)) := by
  unfold fL_sign
  rw [lit_n 9, n_div ha (by omega) (by omega), bnd_s, n_rem ha (by omega) (by omega), bnd_s]
  by_cases c3 : 3 ≤ a % 9
  · rw [if_pos ((le_l1 (k := 3) (a := a % 9) (by omega) (by omega)).mpr c3), bnd_s]
    by_cases d3 : a % 9 = 3
    · rw [if_pos (show nI (a % 9) = 3 from by rw [d3]; rfl)]
      exact ⟨33, by omega, by omega, rfl⟩
    · rw [if_neg (fun e => d3 ((eq_l (a := a % 9) (k := 3) (by omega) (by omega)).mp e)), bnd_s]
      refine sl_P (P := SG) (fun j50 e50 => ?_)
      have J50 : SG (j50 (nI a) (nI (a / 9))) := by
        rw [e50]
        try dsimp only
        rw [n_rem ha (by omega) (by omega), bnd_s]
        refine sl_P (P := SG) (fun j69 e69 => ?_)
        have J69 : SG (j69 (nI a) (nI (a / 9))) := by
          rw [e69]
          try dsimp only
          rw [n_rem ha (by omega) (by omega), bnd_s]
          by_cases d6 : a % 9 = 6
          · rw [if_pos (show nI (a % 9) = 6 from by rw [d6]; rfl), lit_n 10, n_rem (by omega) (by omega) (by omega), bnd_s, lit_n 48, nI_add]
            exact ⟨_, by omega, by omega, rfl⟩
          · rw [if_neg (fun e => d6 ((eq_l (a := a % 9) (k := 6) (by omega) (by omega)).mp e)), lit_n 26, n_rem (by omega) (by omega) (by omega), bnd_s, lit_n 65, nI_add]
            exact ⟨_, by omega, by omega, rfl⟩
        by_cases d5 : a % 9 = 5
        · rw [if_pos (show nI (a % 9) = 5 from by rw [d5]; rfl), lit_n 2, n_rem (by omega) (by omega) (by omega), bnd_s]
          by_cases z : nI (a / 9 % 2) = 0
          · rw [if_pos z]; exact ⟨59, by omega, by omega, rfl⟩
          · rw [if_neg z]; exact J69
        · rw [if_neg (fun e => d5 ((eq_l (a := a % 9) (k := 5) (by omega) (by omega)).mp e))]
          exact J69
      by_cases d4 : a % 9 = 4
      · rw [if_pos (show nI (a % 9) = 4 from by rw [d4]; rfl), lit_n 2, n_rem (by omega) (by omega) (by omega), bnd_s]
        by_cases z : nI (a / 9 % 2) = 0
        · rw [if_pos z]; exact ⟨124, by omega, by omega, rfl⟩
        · rw [if_neg z]; exact J50
      · rw [if_neg (fun e => d4 ((eq_l (a := a % 9) (k := 4) (by omega) (by omega)).mp e))]
        exact J50
  · rw [if_neg (fun e => c3 ((le_l1 (k := 3) (a := a % 9) (by omega) (by omega)).mp e))]
    exact ⟨32, by omega, by omega, rfl⟩
theorem wd5p {XF XN XW XP XQ : DM} {w : WS} (hW : PW w XW XP XQ) (hv : VS w) {i : Nat} (hi : i < wK w) : fX5_word XF XN XW XP XQ (nI i) 5 = some (nI (wsn w i)) := by
  have hl := hv.le hi
  unfold fX5_word
  rw [has_in hW hv hi, bnd_s, if_neg (show ¬ (1 : Int32) = 0 from by decide), if_neg (show ¬ (5 : Int32) < 0 from by decide), if_pos (show (5 : Int32) < 11 from by decide), if_neg (show ¬ (5 : Int32) = 0 from by decide), if_neg (show ¬ (5 : Int32) = 1 from by decide), if_neg (show ¬ (5 : Int32) = 2 from by decide), if_neg (show ¬ (5 : Int32) = 3 from by decide), if_neg (show ¬ (5 : Int32) = 4 from by decide), if_pos (show (5 : Int32) = 5 from rfl), at_in _ (by omega) (by omega), bnd_s, hW.2.2.1.2.1 i hi]
theorem INV.pl {XF XN XA XW XP XQ XO : DM} {XH : HD} {XM : DM} (hI : INV XF XN XA XW XP XQ XO XH XM) : ∃ k, k ≤ 5 ∧ XN 9 0 = nI k := by
  obtain ⟨⟨T, L, hR, hW, hM⟩, hO, hH⟩ := hI
  obtain ⟨h1, h2, h3, h4, h5, ⟨k, pl, p0, p1, p2⟩, h7⟩ := hR
  exact ⟨k, p0, p1⟩
theorem INV.xf {XF YF XN XA YA XW XP XQ XO : DM} {XH : HD} {XM : DM} (hI : INV XF XN XA XW XP XQ XO XH XM) : INV YF XN YA XW XP XQ XO XH XM := hI
/-- the text grows by one character -/
theorem law_grow {n : Nat} (hn : 1400 ≤ n) {L : Nat} (hL : L ≤ 260) (xs : Nat → Int32) {XO : DM} (kk : Int32 → DM → DM → DM → DM → DM → HD → Option Int32) {XF XN XA XW XP XQ XM : DM} {XH : HD} (hI : INV XF XN XA XW XP XQ XO XH XM) {i most : Nat} (hi : i < most) (hm : most ≤ 100) (h2 : XN 2 0 = nI i) (fu : Nat) : ∃ (YN YW YP YQ : DM) (YH : HD) (YM : DM), fL_law_L28 n L xs XO kk (fu + 1) 1 (nI most) (nI i) XF XN XW XP XQ XH = fL_law_L28 n L xs XO kk fu 1 (nI most) (nI (i + 1)) XF YN YW YP YQ YH ∧ INV XF YN XA YW YP YQ XO YH YM ∧ YN 2 0 = nI (i + 1) ∧ YN 3 = XN 3 := by
  obtain ⟨T, Lt, t, sp, j, r, q, g1, g2, g3, hC⟩ := hI.cc
  have e : Lt = i := (nI_eq (by omega) (by omega)).mp (g2.symm.trans h2)
  subst e
  obtain ⟨a, a1, a2⟩ := cell_ok hL xs (show 1 + Lt < 1000 by omega)
  obtain ⟨c, c1, c2, c3⟩ := sign_ok a1
  have hc : ¬ (nI c < 32 ∨ 126 < nI c) := fun z => z.elim (fun y => absurd ((lt_l2 (a := c) (k := 32) (by omega) (by omega)).mp y) (by omega)) (fun y => absurd ((lt_l1 (k := 126) (a := c) (by omega) (by omega)).mp y) (by omega))
  obtain ⟨YN, YW, YP, YQ, YH, YM, h, f1, hI2, -, -, f2, -, f3, -, -, -⟩ := x_append hn hI (show Lt < 300 by omega) g2 g3 hC hc
  refine ⟨YN, YW, YP, YQ, YH, YM, ?_, hI2, f2, f3⟩
  conv => lhs; rw [fL_law_L28]
  rw [if_neg (nI_ge hi (by omega)), if_neg (show ¬ (1 : Int32) = 0 from by decide), show (1 + nI Lt : Int32) = nI (1 + Lt) from nI_add 1 Lt, a2, bnd_s, c3, bnd_s, f1, bnd_s]
  try dsimp only
  rw [cnt1, bnd_s]
  refine sl_in (fun j66 e66 => ?_)
  rw [if_pos rfl, e66]
  try dsimp only
  rw [sl_s, nI_1]
theorem law_L28 {n : Nat} (hn : 1400 ≤ n) {L : Nat} (hL : L ≤ 260) (xs : Nat → Int32) {XO XA XF : DM} (kk : Int32 → DM → DM → DM → DM → DM → HD → Option Int32) {most : Nat} (hm : most ≤ 100) : ∀ (k i : Nat), i + k = most → ∀ fu, k < fu → ∀ (XN XW XP XQ : DM) (XH : HD) (XM : DM), INV XF XN XA XW XP XQ XO XH XM → XN 2 0 = nI i → ∃ (YN YW YP YQ : DM) (YH : HD) (YM : DM), fL_law_L28 n L xs XO kk fu 1 (nI most) (nI i) XF XN XW XP XQ XH = kk 1 XF YN YW YP YQ YH ∧ INV XF YN XA YW YP YQ XO YH YM ∧ YN 2 0 = nI most ∧ YN 3 = XN 3 := by
  intro k
  induction k with
  | zero =>
    intro i hi fu hfu XN XW XP XQ XH XM hI h2
    obtain ⟨fu, rfl⟩ : ∃ z, fu = z + 1 := ⟨fu - 1, by omega⟩
    refine ⟨XN, XW, XP, XQ, XH, XM, ?_, hI, by rw [h2, show i = most by omega], rfl⟩
    rw [fL_law_L28, if_pos (nI_le (by omega) (by omega))]
  | succ k ih =>
    intro i hi fu hfu XN XW XP XQ XH XM hI h2
    obtain ⟨fu, rfl⟩ : ∃ z, fu = z + 1 := ⟨fu - 1, by omega⟩
    obtain ⟨YN, YW, YP, YQ, YH, YM, e1, e2, e3, e4⟩ := law_grow hn hL xs kk hI (show i < most by omega) hm h2 fu
    obtain ⟨ZN, ZW, ZP, ZQ, ZH, ZM, f1, f2, f3, f4⟩ := ih (i + 1) (by omega) fu (by omega) YN YW YP YQ YH YM e2 e3
    exact ⟨ZN, ZW, ZP, ZQ, ZH, ZM, e1.trans f1, f2, f3, f4.trans e4⟩
/-- a step of the law's second loop -/
def LSt (n L : Nat) (xs : Nat → Int32) (XO : DM) (kk : Int32 → DM → DM → DM → DM → DM → HD → Option Int32) (fu i : Nat) (XA : DM) (l2 : Int32) (z : Option Int32) : Prop := ∃ (YF YN YW YP YQ : DM) (YH : HD) (YM : DM), z = fL_law_L112 n L xs XO kk fu 1 (nI (i + 1)) YF YN YW YP YQ YH ∧ INV YF YN XA YW YP YQ XO YH YM ∧ YN 2 0 = l2
theorem law_step {n : Nat} (hn : 1400 ≤ n) {L : Nat} (hL : L ≤ 260) (xs : Nat → Int32) {XO : DM} (kk : Int32 → DM → DM → DM → DM → DM → HD → Option Int32) {XF XN XA XW XP XQ XM : DM} {XH : HD} (hI : INV XF XN XA XW XP XQ XO XH XM) {i : Nat} (hi : i < 24) (fu : Nat) : LSt n L xs XO kk fu i XA (XN 2 0) (fL_law_L112 n L xs XO kk (fu + 1) 1 (nI i) XF XN XW XP XQ XH) := by
  obtain ⟨T, Lt, t, sp, j, r, q, hC, hb⟩ := x_back hn hI
  obtain ⟨hW, hv, ht, hT, hp, hV, -⟩ := id hC
  have hk := hv.1
  have hN := nS_le hv
  obtain ⟨a, a1, a2⟩ := cell_ok hL xs (show 92 + i < 1000 by omega)
  rw [fL_law_L112, if_neg (fun e => absurd ((le_l1 (k := 24) (a := i) (by omega) (by omega)).mp e) (by omega)), if_neg (show ¬ (1 : Int32) = 0 from by decide), show (92 + nI i : Int32) = nI (92 + i) from nI_add 92 i, a2, bnd_s, cnt4w hC, bnd_s, show rmA (nI a) 6 = some (nI (a % 6)) from n_rem (d := 6) (by omega) (by omega) (by omega), bnd_s]
  refine sl_P (P := LSt n L xs XO kk fu i XA (XN 2 0)) (fun j564 e564 => ?_)
  have J564 : ∀ (YF YN YW YP YQ : DM) (YH : HD) (YM : DM), INV YF YN XA YW YP YQ XO YH YM → YN 2 0 = XN 2 0 → LSt n L xs XO kk fu i XA (XN 2 0) (j564 1 (nI i) YF YN YW YP YQ YH) := by
    intro YF YN YW YP YQ YH YM hI2 h2
    rw [e564]
    try dsimp only
    refine sl_P (P := LSt n L xs XO kk fu i XA (XN 2 0)) (fun j580 e580 => ?_)
    refine sl_P (P := LSt n L xs XO kk fu i XA (XN 2 0)) (fun j579 e579 => ?_)
    rw [if_neg (show ¬ (1 : Int32) = 0 from by decide), x_holds hn hI2, bnd_s, if_neg (show ¬ (1 : Int32) = 0 from by decide), e580]
    try dsimp only
    rw [sl_s, nI_1]
    exact ⟨YF, YN, YW, YP, YQ, YH, YM, rfl, hI2, h2⟩
  by_cases v0 : a % 6 = 0
  · rw [if_pos (show nI (a % 6) = 0 from by rw [v0]; rfl), cnt30, bnd_s, cnt31, bnd_s, cnt32, bnd_s, cnt10, bnd_s]
    rcases hb with ⟨c, e⟩ | ⟨c, S', YH, YM, sp', q', e, hI2, hC2, hsp, h14, h2⟩
    · rw [e, bnd_s]
      try dsimp only
      rw [sl_s]
      refine sl_P (P := LSt n L xs XO kk fu i XA (XN 2 0)) (fun j329 e329 => ?_)
      obtain ⟨y, YF, l1, l2⟩ := x_longest hn (XF := XF) hC
      rw [if_pos rfl, l1, bnd_s]
      try dsimp only
      rw [if_pos (l2.mpr c), e329]
      try dsimp only
      exact J564 YF XN XW XP XQ XH XM hI.xf rfl
    · obtain ⟨b1, b2⟩ := bkT_ok hv (fun z => hC.2.2.2.2.2.2.2.1 z) c
      obtain ⟨m, m1, m2, m3⟩ := snt3 (show 200 ≤ n by omega) (XF := XF) hC2 b1 b2
      have p2 := hC2.2.2.2.2.2.1
      have vp := hC2.2.2.2.2.1
      rw [e, bnd_s]
      try dsimp only
      rw [sl_s]
      refine sl_P (P := LSt n L xs XO kk fu i XA (XN 2 0)) (fun j329 e329 => ?_)
      rw [if_neg (nI_ne_m2 (by omega)), cnt10, bnd_s]
      refine sl_P (P := LSt n L xs XO kk fu i XA (XN 2 0)) (fun j328 e328 => ?_)
      rw [if_pos h14]
      refine sl_P (P := LSt n L xs XO kk fu i XA (XN 2 0)) (fun j260 e260 => ?_)
      have sl3 : ∀ c, c < 3 → ¬ XN 4 c < S' 4 c := by
        intro c hc
        have := hsp c hc
        obtain ⟨u1, u2⟩ := hp c hc
        rw [hV c hc, p2 c hc]
        exact nI_nlt this (by omega)
      have J260 : LSt n L xs XO kk fu i XA (XN 2 0) (j260 (nI i) (XN 4 0) (XN 4 1) (XN 4 2) (nI (bkT (wsOf T Lt) j)) XF S' XW XP XQ YH) := by
        rw [e260]
        try dsimp only
        rw [cnt5w hC2, bnd_s, if_pos b1, wd8 hC2 b1, bnd_s, if_pos rfl, cnt30, bnd_s, if_neg (sl3 0 (by omega)), cnt31, bnd_s, if_neg (sl3 1 (by omega)), cnt32, bnd_s, if_neg (sl3 2 (by omega)), wd5 hC2 b1, bnd_s, m3, bnd_s, if_neg (nI_nle (by omega) (by omega)), e329]
        try dsimp only
        exact J564 XF S' XW XP XQ YH YM hI2 h2
      by_cases cj : j < wK (wsOf T Lt)
      · rw [if_pos cj, if_neg (nI_pos (by omega)), if_neg (nI_nlt (bkT_le hv cj) (by omega))]
        exact J260
      · rw [if_neg cj, if_pos (show (-4 : Int32) < 0 from by decide)]
        exact J260
  · rw [if_neg (show ¬ nI (a % 6) = 0 from nI_ne0 (by omega) (by omega))]
    by_cases v1 : a % 6 = 1
    · obtain ⟨k, hk5, hk9⟩ := hI.pl
      rw [if_pos (show nI (a % 6) = 1 from by rw [v1]; rfl), cnt6, bnd_s, cnt2, bnd_s, show XP 3 0 = nI (wnS (wsOf T Lt)) from hW.2.2.1.1]
      refine sl_P (P := LSt n L xs XO kk fu i XA (XN 2 0)) (fun j364 e364 => ?_)
      have J364 : ∀ s, (s < wnS (wsOf T Lt) ∨ s = 0 ∧ wnS (wsOf T Lt) = 0) → LSt n L xs XO kk fu i XA (XN 2 0) (j364 (nI i) (nI a) (if j < wK (wsOf T Lt) then nI j else -4) (XN 9 0) (nI s) XF XN XW XP XQ XH) := by
        intro s hs
        rw [e364]
        try dsimp only
        rcases x_jump hn hI hC hs hk5 hk9 with ⟨x, hx, e⟩ | ⟨hs, hj, S', YH, YM, e, hI2, p9, p8, p2⟩
        · rw [e, bnd_s]
          try dsimp only
          rw [sl_s]
          refine sl_P (P := LSt n L xs XO kk fu i XA (XN 2 0)) (fun j475 e475 => ?_)
          rw [if_neg (fun z => (i_le.mp z) hx), cnt6, bnd_s, if_pos rfl, e475]
          try dsimp only
          exact J564 XF XN XW XP XQ XH XM hI rfl
        · obtain ⟨f1, f2, f3⟩ := fsp_spec hv hs
          rw [e, bnd_s]
          try dsimp only
          rw [sl_s]
          refine sl_P (P := LSt n L xs XO kk fu i XA (XN 2 0)) (fun j475 e475 => ?_)
          rw [if_pos (show (0 : Int32) ≤ nI (fsp (wsOf T Lt) s) from i_le.mpr (nI_pos (by omega))), wd5p hW hv f1, bnd_s, f2]
          refine sl_P (P := LSt n L xs XO kk fu i XA (XN 2 0)) (fun j474 e474 => ?_)
          rw [if_pos rfl, cnt6, bnd_s]
          refine sl_P (P := LSt n L xs XO kk fu i XA (XN 2 0)) (fun j430 e430 => ?_)
          have J430 : ∀ z : Int32, S' 9 0 = z → LSt n L xs XO kk fu i XA (XN 2 0) (j430 (nI i) (nI a) (if j < wK (wsOf T Lt) then nI j else -4) (XN 9 0) (S' 9 0) z XF S' XW XP XQ YH) := by
            intro z hz
            rw [e430]
            try dsimp only
            rw [if_pos hz, show rmA (nI a) 4 = some (nI (a % 4)) from n_rem (d := 4) (by omega) (by omega) (by omega), bnd_s]
            refine sl_P (P := LSt n L xs XO kk fu i XA (XN 2 0)) (fun j470 e470 => ?_)
            have J470 : ∀ (YF YN YW YP YQ : DM) (YH : HD) (YM : DM), INV YF YN XA YW YP YQ XO YH YM → YN 2 0 = XN 2 0 → LSt n L xs XO kk fu i XA (XN 2 0) (j470 (nI i) YF YN YW YP YQ YH) := by
              intro YF YN YW YP YQ YH YM hI3 h3
              rw [e470]
              try dsimp only
              rw [e475]
              try dsimp only
              exact J564 YF YN YW YP YQ YH YM hI3 h3
            by_cases c4 : 0 < nI (a % 4)
            · rw [if_pos c4]
              exact J470 XF S' XW XP XQ YH YM hI2 p2
            · rw [if_neg c4]
              obtain ⟨k', hk'⟩ : ∃ k', (if k < 5 then k + 1 else 5) = k' + 1 := ⟨(if k < 5 then k + 1 else 5) - 1, by split <;> omega⟩
              have k5' : k' + 1 ≤ 5 := by rw [← hk']; split <;> omega
              rw [hk'] at p9 p8
              rw [Nat.add_sub_cancel] at p8
              obtain ⟨S2, ZH, ZM, g1, hI3, g9, g2⟩ := x_goBack hn hI2 k5' p9 p8
              rw [g1, bnd_s]
              try dsimp only
              rw [if_pos (show nI j = (if j < wK (wsOf T Lt) then nI j else -4) from by rw [if_pos hj]), cnt6, bnd_s]
              refine sl_P (P := LSt n L xs XO kk fu i XA (XN 2 0)) (fun j467 e467 => ?_)
              have J467 : ∀ z : Int32, S2 9 0 = z → LSt n L xs XO kk fu i XA (XN 2 0) (j467 (nI i) (S2 9 0) z XF S2 XW XP XQ ZH) := by
                intro z hz
                rw [e467]
                try dsimp only
                rw [if_pos hz]
                exact J470 XF S2 XW XP XQ ZH ZM hI3 (g2.trans p2)
              rw [hk9]
              by_cases c5 : 5 ≤ k
              · rw [if_pos ((le_l1 (k := 5) (a := k) (by omega) (by omega)).mpr c5)]
                rw [if_neg (show ¬ k < 5 by omega)] at hk'
                exact J467 4 (by rw [g9, show k' = 4 by omega]; rfl)
              · rw [if_neg (fun e => c5 ((le_l1 (k := 5) (a := k) (by omega) (by omega)).mp e))]
                rw [if_pos (show k < 5 by omega)] at hk'
                exact J467 (nI k) (by rw [g9, show k' = k by omega])
          by_cases c5 : 5 ≤ k
          · rw [if_pos (show (5 : Int32) ≤ XN 9 0 from by rw [hk9]; exact (le_l1 (k := 5) (a := k) (by omega) (by omega)).mpr c5)]
            exact J430 5 (by rw [p9, if_neg (show ¬ k < 5 by omega)]; rfl)
          · rw [if_neg (show ¬ (5 : Int32) ≤ XN 9 0 from by rw [hk9]; exact fun e => c5 ((le_l1 (k := 5) (a := k) (by omega) (by omega)).mp e))]
            exact J430 (XN 9 0 + 1) (by rw [p9, if_pos (show k < 5 by omega), hk9, nI_1])
      by_cases c0 : wnS (wsOf T Lt) = 0
      · rw [if_pos (show nI (wnS (wsOf T Lt)) = 0 from by rw [c0]; rfl)]
        exact J364 0 (Or.inr ⟨rfl, c0⟩)
      · rw [if_neg (show ¬ nI (wnS (wsOf T Lt)) = 0 from nI_ne0 (by omega) (by omega)), show dvA (nI a) 6 = some (nI (a / 6)) from n_div (d := 6) (by omega) (by omega) (by omega), bnd_s, bnd_s, n_rem (by omega) (by omega) (by omega), bnd_s]
        exact J364 _ (Or.inl (Nat.mod_lt _ (by omega)))
    · rw [if_neg (fun e => v1 ((eq_l (a := a % 6) (k := 1) (by omega) (by omega)).mp e))]
      by_cases v2 : a % 6 = 2
      · have hc3 : a / 6 % 3 < 3 := Nat.mod_lt _ (by omega)
        obtain ⟨S', YH, YM, e, hI2, h2⟩ := x_speed hn hI (c := a / 6 % 3) (v := 50 + a / 18 % 351) hc3 (by omega) (by omega)
        rw [if_pos (show nI (a % 6) = 2 from by rw [v2]; rfl), show dvA (nI a) 6 = some (nI (a / 6)) from n_div (d := 6) (by omega) (by omega) (by omega), bnd_s, show rmA (nI (a / 6)) 3 = some (nI (a / 6 % 3)) from n_rem (d := 3) (by omega) (by omega) (by omega), bnd_s, cnt30c hc3, bnd_s, show dvA (nI a) 18 = some (nI (a / 18)) from n_div (d := 18) (by omega) (by omega) (by omega), bnd_s, show rmA (nI (a / 18)) 351 = some (nI (a / 18 % 351)) from n_rem (d := 351) (by omega) (by omega) (by omega), bnd_s, show (50 + nI (a / 18 % 351) : Int32) = nI (50 + a / 18 % 351) from nI_add 50 _, e, bnd_s]
        refine sl_P (P := LSt n L xs XO kk fu i XA (XN 2 0)) (fun j527 e527 => ?_)
        try dsimp only
        rw [if_pos rfl, e527]
        try dsimp only
        exact J564 XF S' XW XP XQ YH YM hI2 h2
      · have hd : a / 6 % 200 < 200 := Nat.mod_lt _ (by omega)
        have hp1 : a / 1200 % (2 + a / 6 % 200 - 1) < 2 + a / 6 % 200 - 1 := Nat.mod_lt _ (by omega)
        obtain ⟨YN, YW, YP, YQ, YH, YM, e, hI2, h2⟩ := x_parted hn hI (a := 1 + a / 1200 % (2 + a / 6 % 200 - 1)) (b := 2 + a / 6 % 200 - (1 + a / 1200 % (2 + a / 6 % 200 - 1))) (by omega) (by omega) (by omega)
        rw [show 1 + a / 1200 % (2 + a / 6 % 200 - 1) + (2 + a / 6 % 200 - (1 + a / 1200 % (2 + a / 6 % 200 - 1))) = 2 + a / 6 % 200 by omega] at e
        rw [if_neg (fun e => v2 ((eq_l (a := a % 6) (k := 2) (by omega) (by omega)).mp e)), show dvA (nI a) 6 = some (nI (a / 6)) from n_div (d := 6) (by omega) (by omega) (by omega), bnd_s, show rmA (nI (a / 6)) 200 = some (nI (a / 6 % 200)) from n_rem (d := 200) (by omega) (by omega) (by omega), bnd_s, show (2 + nI (a / 6 % 200) : Int32) = nI (2 + a / 6 % 200) from nI_add 2 _, sl_s, show dvA (nI a) 1200 = some (nI (a / 1200)) from n_div (d := 1200) (by omega) (by omega) (by omega), bnd_s, show (nI (2 + a / 6 % 200) - 1 : Int32) = nI (2 + a / 6 % 200 - 1) from n_sub (show 1 ≤ 2 + a / 6 % 200 by omega), n_rem (by omega) (by omega) (by omega), bnd_s, show (1 + nI (a / 1200 % (2 + a / 6 % 200 - 1)) : Int32) = nI (1 + a / 1200 % (2 + a / 6 % 200 - 1)) from nI_add 1 _, e, bnd_s]
        try dsimp only
        rw [sl_s]
        exact J564 XF YN YW YP YQ YH YM hI2 h2
theorem law_L112 {n : Nat} (hn : 1400 ≤ n) {L : Nat} (hL : L ≤ 260) (xs : Nat → Int32) {XO XA : DM} (kk : Int32 → DM → DM → DM → DM → DM → HD → Option Int32) : ∀ (k i : Nat), i + k = 24 → ∀ fu, k < fu → ∀ (XF XN XW XP XQ : DM) (XH : HD) (XM : DM), INV XF XN XA XW XP XQ XO XH XM → ∃ (YF YN YW YP YQ : DM) (YH : HD) (YM : DM), fL_law_L112 n L xs XO kk fu 1 (nI i) XF XN XW XP XQ XH = kk 1 YF YN YW YP YQ YH ∧ INV YF YN XA YW YP YQ XO YH YM ∧ YN 2 0 = XN 2 0 := by
  intro k
  induction k with
  | zero =>
    intro i hi fu hfu XF XN XW XP XQ XH XM hI
    obtain ⟨fu, rfl⟩ : ∃ z, fu = z + 1 := ⟨fu - 1, by omega⟩
    refine ⟨XF, XN, XW, XP, XQ, XH, XM, ?_, hI, rfl⟩
    rw [fL_law_L112, if_pos ((le_l1 (k := 24) (a := i) (by omega) (by omega)).mpr (by omega))]
  | succ k ih =>
    intro i hi fu hfu XF XN XW XP XQ XH XM hI
    obtain ⟨fu, rfl⟩ : ∃ z, fu = z + 1 := ⟨fu - 1, by omega⟩
    obtain ⟨YF, YN, YW, YP, YQ, YH, YM, e1, e2, e3⟩ := law_step hn hL xs kk hI (show i < 24 by omega) fu
    obtain ⟨ZF, ZN, ZW, ZP, ZQ, ZH, ZM, f1, f2, f3⟩ := ih (i + 1) (by omega) fu (by omega) YF YN YW YP YQ YH YM e2
    exact ⟨ZF, ZN, ZW, ZP, ZQ, ZH, ZM, e1.trans f1, f2, f3.trans e3⟩
