/-! p27: a change undone; ticks in one go or in two -/
theorem agS.trans {S S1 S2 : DM} (a : agS S S1) (b : agS S1 S2) : agS S S2 := by
  obtain ⟨a1, a2, a3, a4, a5, a6, a7, a8, a9, a10, a11, a12, a13, a14⟩ := a
  obtain ⟨b1, b2, b3, b4, b5, b6, b7, b8, b9, b10, b11, b12, b13, b14⟩ := b
  exact ⟨fun i hi => (b1 i hi).trans (a1 i hi), b2.trans a2, fun i hi => (b3 i hi).trans (a3 i hi), fun i hi => (b4 i hi).trans (a4 i hi), fun i hi => (b5 i hi).trans (a5 i hi), b6.trans a6, b7.trans a7, fun i hi => (b8 i hi).trans (a8 i hi), b9.trans a9, fun i hi => (b10 i hi).trans (a10 i hi), b11.trans a11, b12.trans a12, b13.trans a13, b14.trans a14⟩
theorem CC.h11 {w : WS} {t sp : Nat → Nat} {j r : Nat} {q : Bool} {S XW XP XQ : DM} (h : CC w t sp j r q S XW XP XQ) : S 11 0 = 0 ∨ S 11 0 = 1 := by
  have := h.2.2.2.2.2.2.2.2.2.2.2.2
  cases q
  · right; exact this
  · left; exact this
theorem CC.ag {w : WS} {t sp : Nat → Nat} {j r : Nat} {q : Bool} {S S' XW XP XQ W P Q : DM} (h : CC w t sp j r q S XW XP XQ) (ha : agS S S') (hW : PW w W P Q) : CC w t sp j r q S' W P Q := by
  obtain ⟨-, hv, ht, hT, hp, hV, h4, h5, h6, h8, h10, h11, h13⟩ := h
  obtain ⟨a1, a2, a3, a4, a5, a6, a7, a8, a9, a10, a11, a12, a13, a14⟩ := ha
  exact ⟨hW, hv, ht, fun z hz => by rw [a3 z hz]; exact hT z hz, hp, fun z hz => by rw [a4 z hz]; exact hV z hz, h4, h5, by rw [a6]; exact h6, by rw [a7]; exact h8, h10, h11, by rw [a11]; exact h13⟩
/-- the newest state of the history is S -/
def KP (S : DM) (YH : HD) (h : Nat) : Prop := h < 4 ∧ YH.2.1 1 0 = nI (h + 1) ∧ (∀ i, i < 4 → YH.1 i < 4) ∧ agS S (YH.2.2 (YH.1 h))
theorem keepU {S : DM} {XH : HD} {XM : DM} (h11 : S 11 0 = 0 ∨ S 11 0 = 1) (hH : RH XH XM) : ∃ (YH : HD) (h : Nat), fX0_keep S XH = some YH ∧ KP S YH h := by
  obtain ⟨h, h0, h1, -, h3, -, -⟩ := hH
  unfold fX0_keep
  simp only [sl_s]
  rw [if_pos ⟨h3 0 (by decide), h3 1 (by decide), h3 2 (by decide), h3 3 (by decide)⟩]
  by_cases c : h = 4
  · subst c
    rw [h1, if_neg (show ¬ nI 4 < (4 : Int32) from by decide)]
    have e0 : (fX0_dropOldest XH).2.1 1 0 = nI 3 := rfl
    have r0 : ∀ i, i < 4 → (fX0_dropOldest XH).1 i = XH.1 (if i = 3 then 0 else i + 1) := by
      intro i hi
      rcases (show i = 0 ∨ i = 1 ∨ i = 2 ∨ i = 3 by omega) with rfl | rfl | rfl | rfl <;> rfl
    obtain ⟨S', a1, a2⟩ := c_copy ((fX0_dropOldest XH).2.2 ((fX0_dropOldest XH).1 3)) S h11
    rw [e0, show (nI 3).toNatClampNeg = 3 from rfl, if_pos (by decide), a1, bnd_s]
    refine ⟨_, 3, rfl, by decide, ?_, fun i hi => ?_, ?_⟩
    · dsimp only; rw [up_eq]; rfl
    · dsimp only; rw [r0 i hi]; exact h3 _ (by split <;> omega)
    · dsimp only
      rw [show va_up (fX0_dropOldest XH).2.2 ((fX0_dropOldest XH).1 3) S' ((fX0_dropOldest XH).1 3) = S' from up_eq _ _ _]
      exact a2
  · have hh : h < 4 := by omega
    rw [h1, if_pos ((lt_l2 (a := h) (k := 4) (by omega) (by omega)).mpr hh)]
    obtain ⟨S', a1, a2⟩ := c_copy (XH.2.2 (XH.1 h)) S h11
    rw [h1, show (nI h).toNatClampNeg = h from nI_clamp (by omega), if_pos (fun q => q.elim (nI_pos (by omega)) (fun e => by omega)), a1, bnd_s, nI_1]
    refine ⟨_, h, rfl, hh, ?_, fun i hi => ?_, ?_⟩
    · dsimp only; rw [up_eq]
    · dsimp only; exact h3 i hi
    · dsimp only
      rw [show va_up XH.2.2 (XH.1 h) S' (XH.1 h) = S' from up_eq _ _ _]
      exact a2
theorem undoU {XF XN XW XP XQ : DM} {YH : HD} {h : Nat} {S : DM} {T : Nat → Int32} {L : Nat} (hk : KP S YH h) (h11 : S 11 0 = 0 ∨ S 11 0 = 1) (hL : L ≤ 300) (hS : S 2 0 = nI L) (hT : ∀ i, i < L → S 1 i = T i) {n : Nat} (hn : 400 ≤ n) : ∃ (S' W P Q : DM) (ZH : HD), fX5_undo n XF XN XW XP XQ YH = some (nI h, S', W, P, Q, ZH) ∧ agS S S' ∧ PW (wsOf T L) W P Q := by
  obtain ⟨hh, h1, h3, ha⟩ := hk
  have e11 : YH.2.2 (YH.1 h) 11 0 = 0 ∨ YH.2.2 (YH.1 h) 11 0 = 1 := by rw [ha.2.2.2.2.2.2.2.2.2.2.1]; exact h11
  obtain ⟨S', a1, a2⟩ := c_copy XN (YH.2.2 (YH.1 h)) e11
  have ag : agS S S' := ha.trans a2
  unfold fX5_undo fX0_restore
  rw [h1, if_neg (nI_ne0 (by omega) (by omega)), if_pos ⟨h3 0 (by decide), h3 1 (by decide), h3 2 (by decide), h3 3 (by decide)⟩]
  try rw [h1]
  rw [nI_pred, show (nI h).toNatClampNeg = h from nI_clamp (by omega), if_pos (fun q => q.elim (nI_pos (by omega)) (fun e => by omega)), a1]
  simp only [bnd_s]
  obtain ⟨W, P, Q, c1, c2⟩ := c_read (fr := S' 1) (T := T) hL (fun i hi => by rw [ag.1 i (by omega)]; exact hT i hi) hn XW XP XQ
  rw [ag.2.1, hS, c1]
  try dsimp only
  try simp only [bnd_s]
  refine ⟨S', W, P, Q, (YH.1, va_up YH.2.1 1 (fun _ => nI h), YH.2.2), ?_, ag, c2⟩
  rw [up_eq]
theorem x_run {n : Nat} (hn : 1400 ≤ n) {XF XN XA XW XP XQ XO XM : DM} {XH : HD} (hI : INV XF XN XA XW XP XQ XO XH XM) {w : WS} {t sp : Nat → Nat} {j r : Nat} {q : Bool} (hC : CC w t sp j r q XN XW XP XQ) (hj : j < wK w) {a : Nat} (a1 : 1 ≤ a) (a2 : a ≤ 9999) : ∃ (S' : DM) (YH : HD) (YM : DM) (h : Nat), fX5_run n XF XN XW XP XH (nI a) = some (nI (pg w t (wK w) a j r sp q).1, S', YH) ∧ INV XF S' XA XW XP XQ XO YH YM ∧ KP XN YH h ∧ CC w t (pg w t (wK w) a j r sp q).2.2.2.2.1 (pg w t (wK w) a j r sp q).2.2.1 (pg w t (wK w) a j r sp q).2.2.2.1 (pg w t (wK w) a j r sp q).2.2.2.2.2 S' XW XP XQ ∧ S' 12 0 = XN 12 0 + nI (pg w t (wK w) a j r sp q).2.1 ∧ S' 13 0 = XN 13 0 + nI (pg w t (wK w) a j r sp q).1 ∧ S' 2 0 = XN 2 0 := by
  have hk := hC.2.1.1
  obtain ⟨r', YN, YH, YM, f1, -, hI2⟩ := ok_run hn XF XN XA XW XP XQ XO XH XM (nI a) hI
  obtain ⟨KH, h, k1, k2⟩ := keepU hC.h11 hI.2.2
  obtain ⟨S', b1, b2, b3, b4, b5⟩ := c_pass (show 200 ≤ n by omega) (wK w) j r sp q XN a 0 (by omega) hC (Nat.zero_le _) (by omega) n (by omega)
  rw [Nat.zero_add] at b1 b4
  have ef : fX5_run n XF XN XW XP XH (nI a) = some (nI (pg w t (wK w) a j r sp q).1, S', KH) := by
    unfold fX5_run fX3_passError
    rw [if_neg (fun e => absurd ((lt_l2 (a := a) (k := 1) (by omega) (by omega)).mp e) (by omega)), if_pos ((le_l2 (a := a) (k := 9999) (by omega) (by omega)).mpr a2), hC.2.2.2.2.2.2.2.2.1, oI_lt hj, if_neg (nI_ne_m1 (by omega)), bnd_s, if_pos rfl, k1, bnd_s, letPass_eq, show fX3_letPass_L4 n XW XP kLP n (nI a) 0 XN = _ from b1, bnd_s]
  rw [ef] at f1
  obtain ⟨-, y1, y2⟩ := opt3 f1
  rw [← y1, ← y2] at hI2
  exact ⟨S', KH, YM, h, ef, hI2, k2, b2, b3, b4, by rw [b5 2 (by decide) (by decide)]⟩
theorem pgc_le {w : WS} {t : Nat → Nat} : ∀ (m u j r : Nat) (sp : Nat → Nat) (q : Bool), (pg w t m u j r sp q).1 ≤ m := by
  intro m
  induction m with
  | zero => intro u j r sp q; exact Nat.le_refl _
  | succ m ih =>
    intro u j r sp q
    unfold pg
    by_cases c : j < wK w
    · rw [if_pos c]
      by_cases c2 : u < r
      · rw [if_pos c2]; exact Nat.zero_le _
      · rw [if_neg c2]; exact Nat.succ_le_succ (ih _ _ _ _ _)
    · rw [if_neg c]; exact Nat.zero_le _
def PS (XF XA XO : DM) (l2 : Int32) (z : Option (Int32 × DM × DM × DM × DM × HD)) : Prop := ∃ (YN YW YP YQ : DM) (YH : HD) (YM : DM), z = some (1, YN, YW, YP, YQ, YH) ∧ INV XF YN XA YW YP YQ XO YH YM ∧ YN 2 0 = l2
theorem x_parted {n : Nat} (hn : 1400 ≤ n) {XF XN XA XW XP XQ XO XM : DM} {XH : HD} (hI : INV XF XN XA XW XP XQ XO XH XM) {a b : Nat} (a1 : 1 ≤ a) (b1 : 1 ≤ b) (h9 : a + b ≤ 9999) : PS XF XA XO (XN 2 0) (fL_parted n XF XN XW XP XQ XO XH (nI (a + b)) (nI a)) := by
  obtain ⟨T, L, t, sp, j, r, q, hL, hS, hT, hC⟩ := hI.cc
  have hv := hC.2.1
  have hk := hv.1
  by_cases hj : j < wK (wsOf T L)
  · obtain ⟨S1, H1, M1, h1, e1, I1, kp, C1, e12, e13, e2⟩ := x_run hn hI hC hj (show 1 ≤ a + b by omega) h9
    obtain ⟨r', YN, YW, YP, YQ, YH, YM, f1, -, I2⟩ := ok_undo hn XF S1 XA XW XP XQ XO H1 M1 I1
    obtain ⟨S2, W2, P2, Q2, H2, u1, u2, u3⟩ := undoU (XF := XF) (XN := S1) (XW := XW) (XP := XP) (XQ := XQ) kp hC.h11 hL hS hT (show 400 ≤ n by omega)
    rw [u1] at f1
    obtain ⟨-, y1, y2, y3, y4, y5⟩ := opt6 f1
    rw [← y1, ← y2, ← y3, ← y4, ← y5] at I2
    have C2 := hC.ag u2 u3
    obtain ⟨S3, H3, M3, h3, e3, I3, -, C3, g12, g13, g2⟩ := x_run hn I2 C2 hj (show 1 ≤ a from a1) (by omega)
    have hz := pg_split (w := wsOf T L) (t := t) b b (wK (wsOf T L)) a j r sp q (by omega) (by omega)
    have hE := pgc_le (w := wsOf T L) (t := t) (wK (wsOf T L)) (a + b) j r sp q
    have hh := kp.1
    have x12 : S2 12 0 = XN 12 0 := u2.2.2.2.2.2.2.2.2.2.2.2.1
    have x13 : S2 13 0 = XN 13 0 := u2.2.2.2.2.2.2.2.2.2.2.2.2.1
    have x2 : S2 2 0 = XN 2 0 := u2.2.1
    generalize pg (wsOf T L) t (wK (wsOf T L)) (a + b) j r sp q = z at e1 C1 e12 e13 hz hE
    generalize pg (wsOf T L) t (wK (wsOf T L)) a j r sp q = y at e3 C3 g12 g13 hz
    have p1 := C1.2.2.2.2.2.1
    unfold fL_parted
    rw [e1, bnd_s]
    try dsimp only
    rw [sl_s, if_pos (show (0 : Int32) ≤ nI z.1 from i_le.mpr (nI_pos (by omega))), cnt4w C1, bnd_s, cnt5w C1, bnd_s, cnt8, bnd_s, cnt9, bnd_s, cnt30, bnd_s, cnt31, bnd_s, x_holds hn I1, bnd_s]
    refine sl_P (P := PS XF XA XO (XN 2 0)) (fun j91 e91 => ?_)
    refine sl_P (P := PS XF XA XO (XN 2 0)) (fun j90 e90 => ?_)
    rw [if_neg (show ¬ (1 : Int32) = 0 from by decide), u1, bnd_s]
    try dsimp only
    rw [if_neg (nI_pos (show h1 < 2 ^ 31 by omega)), e91]
    try dsimp only
    rw [e3, bnd_s]
    try dsimp only
    rw [sl_s, cnt4w C3, bnd_s]
    refine sl_P (P := PS XF XA XO (XN 2 0)) (fun j119 e119 => ?_)
    by_cases c3 : y.2.2.1 < wK (wsOf T L)
    · obtain ⟨S4, H4, M4, h4, e4, I4, -, C4, k12, k13, k2⟩ := x_run hn I3 C3 c3 (show 1 ≤ b from b1) (by omega)
      rw [if_pos c3] at hz
      generalize pg (wsOf T L) t (wK (wsOf T L)) b y.2.2.1 y.2.2.2.1 y.2.2.2.2.1 y.2.2.2.2.2 = x at e4 C4 k12 k13 hz
      subst hz
      have p4 := C4.2.2.2.2.2.1
      refine ⟨S4, W2, P2, Q2, H4, M4, ?_, I4, by rw [k2, g2, x2]⟩
      rw [if_pos c3, if_pos (show (0 : Int32) ≤ nI y.2.2.1 from i_le.mpr (nI_pos (by omega))), n_sub (show a ≤ a + b by omega), Nat.add_sub_cancel_left, e4, bnd_s]
      try dsimp only
      rw [e119]
      try dsimp only
      rw [if_neg (show ¬ (1 : Int32) = 0 from by decide), if_pos (show nI y.1 + nI x.1 = nI (jnp y x).1 from nI_add _ _)]
      rw [cnt4w C4, bnd_s, if_pos (show (if x.2.2.1 < wK (wsOf T L) then nI x.2.2.1 else -4) = (if (jnp y x).2.2.1 < wK (wsOf T L) then nI (jnp y x).2.2.1 else -4) from rfl)]
      rw [cnt5w C4, bnd_s, if_pos (show (if x.2.2.1 < wK (wsOf T L) then nI x.2.2.2.1 else -4) = (if (jnp y x).2.2.1 < wK (wsOf T L) then nI (jnp y x).2.2.2.1 else -4) from rfl)]
      rw [cnt8, bnd_s, if_pos (show S4 12 0 = S1 12 0 from by rw [k12, g12, x12, e12, Int32.add_assoc, nI_add]; rfl)]
      rw [cnt9, bnd_s, if_pos (show S4 13 0 = S1 13 0 from by rw [k13, g13, x13, e13, Int32.add_assoc, nI_add]; rfl)]
      rw [cnt30, bnd_s, if_pos (show S4 4 0 = S1 4 0 from (p4 0 (by omega)).trans (p1 0 (by omega)).symm)]
      rw [cnt31, bnd_s, if_pos (show S4 4 1 = S1 4 1 from (p4 1 (by omega)).trans (p1 1 (by omega)).symm)]
    · rw [if_neg c3] at hz
      subst hz
      have p4 := C3.2.2.2.2.2.1
      refine ⟨S3, W2, P2, Q2, H3, M3, ?_, I3, by rw [g2, x2]⟩
      rw [if_neg c3, if_neg (show ¬ (0 : Int32) ≤ -4 from by decide), e119]
      try dsimp only
      rw [if_neg (show ¬ (1 : Int32) = 0 from by decide), if_pos (Int32.add_zero _)]
      rw [cnt4w C3, bnd_s, if_neg c3, if_pos rfl]
      rw [cnt5w C3, bnd_s, if_neg c3, if_pos rfl]
      rw [cnt8, bnd_s, if_pos (show S3 12 0 = S1 12 0 from by rw [g12, x12, e12])]
      rw [cnt9, bnd_s, if_pos (show S3 13 0 = S1 13 0 from by rw [g13, x13, e13])]
      rw [cnt30, bnd_s, if_pos (show S3 4 0 = S1 4 0 from (p4 0 (by omega)).trans (p1 0 (by omega)).symm)]
      rw [cnt31, bnd_s, if_pos (show S3 4 1 = S1 4 1 from (p4 1 (by omega)).trans (p1 1 (by omega)).symm)]
  · have hneg : fX5_run n XF XN XW XP XH (nI (a + b)) = some (-2, XN, XH) := by
      unfold fX5_run fX3_passError
      rw [if_neg (fun e => absurd ((lt_l2 (a := a + b) (k := 1) (by omega) (by omega)).mp e) (by omega)), if_pos ((le_l2 (a := a + b) (k := 9999) (by omega) (by omega)).mpr h9), hC.2.2.2.2.2.2.2.2.1, oI_ge hj, if_pos rfl, bnd_s, if_neg (by decide)]
    refine ⟨XN, XW, XP, XQ, XH, XM, ?_, hI, rfl⟩
    unfold fL_parted
    rw [hneg, bnd_s]
    try dsimp only
    rw [sl_s, if_neg (show ¬ (0 : Int32) ≤ -2 from by decide), cnt4w hC, bnd_s, if_neg hj, if_pos rfl]
