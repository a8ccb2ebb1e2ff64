/-! p27: the law answers true -/
theorem law_ok {n : Nat} (hn : 1400 ≤ n) {L : Nat} (hL : L ≤ 260) (xs : Nat → Int32) : fL_lawT n L xs X0D XS0 X0D X0D X0D X0D XH0 = some 1 := by
  obtain ⟨XM, -, hI⟩ := ok_init hn
  obtain ⟨a, a1, a2⟩ := cell_ok hL xs (show 0 < 1000 by omega)
  unfold fL_lawT
  rw [x_holds hn hI, bnd_s, show fL_cell L xs 0 = some (nI a) from a2, bnd_s, show rmA (nI a) 60 = some (nI (a % 60)) from n_rem (d := 60) (by omega) (by omega) (by omega), bnd_s, sl_s, show (30 + nI (a % 60) : Int32) = nI (30 + a % 60) from nI_add 30 _]
  refine sl_in (fun j73 e73 => ?_)
  have hm : 30 + a % 60 ≤ 89 := by have := Nat.mod_lt a (show 0 < 60 by omega); omega
  obtain ⟨most, hmost⟩ : ∃ z, z = 30 + a % 60 := ⟨_, rfl⟩
  rw [← hmost] at hm ⊢
  obtain ⟨YN, YW, YP, YQ, YH, YM, b1, b2, b3, b4⟩ := law_L28 hn hL xs j73 (show most ≤ 100 by omega) most 0 (by omega) n (by omega) XS0 X0D X0D X0D XH0 XM hI rfl
  rw [show fL_law_L28 n L xs X0D j73 n 1 (nI most) 0 X0D XS0 X0D X0D X0D XH0 = _ from b1, e73]
  try dsimp only
  refine sl_in (fun j108 e108 => ?_)
  refine sl_in (fun j107 e107 => ?_)
  obtain ⟨c, c1, c2⟩ := cell_ok hL xs (show 91 < 1000 by omega)
  obtain ⟨ZN, ZH, ZM, s1, hI2, s2⟩ := x_set hn b2 (v := c % 51) (by have := Nat.mod_lt c (show 0 < 51 by omega); omega)
  rw [if_neg (show ¬ (1 : Int32) = 0 from by decide), x_holds hn b2, bnd_s, if_neg (show ¬ (1 : Int32) = 0 from by decide), show fL_cell L xs 91 = some (nI c) from c2, bnd_s, show rmA (nI c) 51 = some (nI (c % 51)) from n_rem (d := 51) (by omega) (by omega) (by omega), bnd_s, s1, bnd_s]
  try dsimp only
  rw [if_pos (show YN 3 5 = 10 from by rw [b4]; rfl), e108]
  try dsimp only
  refine sl_in (fun j587 e587 => ?_)
  obtain ⟨BF, BN, BW, BP, BQ, BH, BM, d1, hI3, d3⟩ := law_L112 hn hL xs j587 24 0 (by omega) n (by omega) X0D ZN YW YP YQ ZH ZM hI2
  rw [show fL_law_L112 n L xs X0D j587 n 1 0 X0D ZN YW YP YQ ZH = _ from d1, e587]
  try dsimp only
  have h2 : BN 2 0 = nI most := by rw [d3, s2, b3]
  obtain ⟨T, Lt, t, sp, j, r, q, g1, g2, g3, hC⟩ := hI3.cc
  have e : Lt = most := (nI_eq (by omega) (by omega)).mp (g2.symm.trans h2)
  subst e
  have hW := hC.1
  -- the blank behind
  obtain ⟨AN, AW, AP, AQ, AH, AM, ha, f1, hI4, -, f2, f3, f4, -, f5, f6, r4, hC4⟩ := x_append hn hI3 (show Lt < 300 by omega) g2 g3 hC (c := 32) (by decide)
  have w1 : wK (wsOf (fun i => if i = Lt then 32 else T i) (Lt + 1)) = wK (wsOf T Lt) := (ws_bl (T := fun i => if i = Lt then 32 else T i) (L := Lt) (if_pos rfl)).trans (ws_cg (fun i hi => if_neg (by omega)))
  have w2 : wK (wsOf (fun i => if i = Lt then 32 else T i) Lt) = wK (wsOf T Lt) := ws_cg (fun i hi => if_neg (by omega))
  obtain ⟨CN, CW, CP, CQ, CH, CM, hc, k1, hI5, kp, k3⟩ := x_cut hn hI4 (show Lt < 300 by omega) f3 f4 hC4
  obtain ⟨DN, DW, DP, DQ, DH, u1, u2, u3⟩ := undoU (XF := BF) (XN := CN) (XW := CW) (XP := CP) (XQ := CQ) kp hC4.h11 (show Lt + 1 ≤ 300 by omega) f3 f4 (show 400 ≤ n by omega)
  obtain ⟨r', EN, EW, EP, EQ, EH, EM, v1, -, hI6⟩ := ok_undo hn BF CN XS0 CW CP CQ X0D CH CM hI5
  rw [u1] at v1
  obtain ⟨-, y1, y2, y3, y4, y5⟩ := opt6 v1
  rw [← y1, ← y2, ← y3, ← y4, ← y5] at hI6
  have hC6 := hC4.ag u2 u3
  have hh := kp.1
  have x6 : DN 6 0 = oI (wK (wsOf (fun i => if i = Lt then 32 else T i) (Lt + 1))) (nx (wsOf (fun i => if i = Lt then 32 else T i) (Lt + 1)) 0) := u2.2.2.2.2.2.1.trans f6
  have hk := hC6.2.1.1
  obtain ⟨y, YF, l1, l2⟩ := x_longest hn (XF := BF) hC6
  rw [cnt0, bnd_s, g2, cnt1, bnd_s, hW.1]
  refine sl_in (fun j669 e669 => ?_)
  refine sl_in (fun j668 e668 => ?_)
  rw [if_neg (show ¬ (1 : Int32) = 0 from by decide), f1, bnd_s]
  try dsimp only
  rw [if_pos (show AW 8 0 = nI (wK (wsOf T Lt)) from by rw [f2.1, w1]), cnt6, bnd_s, if_pos f5, k1, bnd_s]
  try dsimp only
  rw [if_pos rfl, cnt1, bnd_s, if_pos (show CW 8 0 = nI (wK (wsOf T Lt)) from by rw [k3.1, w2]), u1, bnd_s]
  try dsimp only
  rw [if_neg (nI_pos (show hc < 2 ^ 31 by omega)), cnt0, bnd_s, if_pos (show DN 2 0 = nI Lt + 1 from by rw [u2.2.1, f3, nI_1]), e669]
  try dsimp only
  rw [if_neg (show ¬ (1 : Int32) = 0 from by decide), x_holds hn hI6, bnd_s, if_neg (show ¬ (1 : Int32) = 0 from by decide), cnt4, bnd_s, x6]
  refine sl_in (fun j694 e694 => ?_)
  have J694 : ∀ z : Int32, z = (if y = -4 then 1 else 0) → j694 z BF DN DW DP DQ DH = some 1 := by
    intro z hz
    rw [e694]
    try dsimp only
    rw [l1, bnd_s]
    refine sl_in (fun j709 e709 => ?_)
    try dsimp only
    by_cases cy : y = -4
    · rw [if_pos cy] at hz
      rw [if_pos cy, e709]
      try dsimp only
      rw [if_pos hz]
    · rw [if_neg cy] at hz
      rw [if_neg cy, e709]
      try dsimp only
      rw [if_pos hz]
  by_cases cn : nx (wsOf (fun i => if i = Lt then 32 else T i) (Lt + 1)) 0 < wK (wsOf (fun i => if i = Lt then 32 else T i) (Lt + 1))
  · rw [oI_lt cn, if_neg (nI_ne_m1 (by omega)), if_pos (i_le.mpr (nI_pos (by omega)))]
    exact J694 0 (by rw [if_neg (fun z => (l2.mp z) cn)])
  · rw [oI_ge cn, if_pos rfl, if_neg (show ¬ (0 : Int32) ≤ -4 from by decide)]
    exact J694 1 (by rw [if_pos (l2.mpr cn)])
