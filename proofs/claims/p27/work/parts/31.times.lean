/-! words and times: the class -/
theorem VS.le {w : WS} (hv : VS w) {i : Nat} (hi : i < wK w) : i < 150 := Nat.lt_of_lt_of_le hi hv.1
theorem isMark_ok {w : WS} {XW XP XQ : DM} (hW : PW w XW XP XQ) (hv : VS w) {i : Nat} (hi : i < wK w) : fX4_isMark XW (nI i) = some (if wkd w i = 3 then 1 else 0) := by
  have h3 := (hW.2.1 i hi).2.2.2.1
  have hb := (hv.2.1 i hi).2.2.2.1
  have hl := hv.le hi
  unfold fX4_isMark
  rw [at_in _ (by omega) (by omega), bnd_s, h3]
  by_cases c : wkd w i = 3
  · rw [if_pos c, if_pos (by rw [c]; rfl)]
  · rw [if_neg c, if_neg (fun e => c ((eq_l (a := wkd w i) (k := 3) (by omega) (by omega)).mp e))]
theorem wcl_le (w : WS) (i : Nat) : wcl w i ≤ 2 := by
  unfold wcl
  by_cases c : wln w i ≤ 4
  · rw [if_pos c]; omega
  · rw [if_neg c]
    by_cases c2 : wln w i ≤ 8
    · rw [if_pos c2]; omega
    · rw [if_neg c2]; omega
theorem classOf_ok {w : WS} {XW XP XQ : DM} (hW : PW w XW XP XQ) (hv : VS w) {i : Nat} (hi : i < wK w) : fX4_classOf XW (nI i) = some (nI (wcl w i)) := by
  have h3 := (hW.2.1 i hi).2.2.1
  have hb := (hv.2.1 i hi).2.2.1
  have hl := hv.le hi
  unfold fX4_classOf wcl
  rw [at_in _ (by omega) (by omega), bnd_s, h3]
  by_cases c : wln w i ≤ 4
  · rw [if_pos c, if_neg (fun e => absurd ((lt_l1 (k := 4) (a := wln w i) (by omega) (by omega)).mp e) (by omega))]; rfl
  · rw [if_neg c, if_pos ((lt_l1 (k := 4) (a := wln w i) (by omega) (by omega)).mpr (by omega))]
    by_cases c2 : wln w i ≤ 8
    · rw [if_pos c2, if_neg (fun e => absurd ((lt_l1 (k := 8) (a := wln w i) (by omega) (by omega)).mp e) (by omega))]; rfl
    · rw [if_neg c2, if_pos ((lt_l1 (k := 8) (a := wln w i) (by omega) (by omega)).mpr (by omega))]; rfl
theorem has_in {w : WS} {XW XP XQ : DM} (hW : PW w XW XP XQ) (hv : VS w) {i : Nat} (hi : i < wK w) : fX4_has XW (nI i) = some 1 := by
  have hl := hv.le hi
  have hk := hv.1
  unfold fX4_has
  rw [if_neg (nI_pos (by omega)), hW.1, if_neg (nI_ge hi (by omega))]
theorem has_out {w : WS} {XW XP XQ : DM} (hW : PW w XW XP XQ) {x : Int32} (h : x < 0 ∨ nI (wK w) ≤ x) : fX4_has XW x = some 0 := by
  unfold fX4_has
  by_cases c : x < 0
  · rw [if_pos c]
  · rw [if_neg c, hW.1, if_pos (h.resolve_left c)]
/-- the settings' row -/
def PT (t : Nat → Nat) (f : Nat → Int32) : Prop := ∀ j, j < 7 → f j = nI (t j)
theorem measureOf_ok {w : WS} {XS XW XP XQ : DM} {t : Nat → Nat} (hW : PW w XW XP XQ) (hv : VS w) (ht : VT t) (hT : PT t (XS 3)) {i : Nat} (hi : i < wK w) : fX3_measureOf XS XW (nI i) = some (nI (wms w t i)) := by
  have h3 := (hW.2.1 i hi).2.2.1
  have hb := (hv.2.1 i hi).2.2.1
  have hl := hv.le hi
  have ht1 : t 1 ≤ 10 := ht.2.2.2.1
  unfold fX3_measureOf wms
  rw [at_in _ (by omega) (by omega), bnd_s, h3, sl_s]
  simp only [at_l (XS 3) (show 1 < 7 by decide) (by decide), bnd_s, sl_s, hT 1 (by decide)]
  by_cases c : wln w i ≤ 10
  · rw [if_pos c, if_pos ((le_l2 (a := wln w i) (k := 10) (by omega) (by omega)).mpr c), n_max (by omega) (by omega)]
  · rw [if_neg c, if_neg (fun e => c ((le_l2 (a := wln w i) (k := 10) (by omega) (by omega)).mp e))]
    rw [show nI (wln w i) - 10 + 1 = nI (wln w i - 9) from by rw [lit_n 10, lit_n 1, n_sub (by omega), nI_add]; congr 1; omega]
    rw [lit_n 2, n_div (by omega) (by omega) (by omega), bnd_s, n_sub (by omega), n_max (by omega) (by omega)]
theorem percentOf_ok {w : WS} {XS XW XP XQ : DM} {t : Nat → Nat} (hW : PW w XW XP XQ) (hv : VS w) (ht : VT t) (hT : PT t (XS 3)) {i : Nat} (hi : i < wK w) : fX3_percentOf XS XW (nI i) = some (nI (wpc w t i)) := by
  have h3 := (hW.2.1 i hi).2.2.2.1
  have h4 := (hW.2.1 i hi).2.2.2.2.1
  have hb := (hv.2.1 i hi).2.2.2.1
  have hb4 := (hv.2.1 i hi).2.2.2.2.1
  have hl := hv.le hi
  obtain ⟨-, -, -, -, h21, h22, h31, h32, h41, h42, -⟩ := ht
  unfold fX3_percentOf wpc
  rw [at_in _ (by omega) (by omega), bnd_s, h3]
  simp only [sl_s]
  have fin : ∀ q : Nat, 100 ≤ q → q ≤ 400 → (bnd (fX5_at 150 (XW 4) (nI i)) fun r6 => if r6 = 1 then bnd (fX5_at 7 (XS 3) 4) fun r12 => bnd (dvA (nI q * r12) 100) fun v17 => some v17 else some (nI q)) = some (nI (if wfg w i = 1 then q * t 4 / 100 else q)) := by
    intro q a b
    rw [at_in _ (by omega) (by omega), bnd_s, h4]
    by_cases c : wfg w i = 1
    · rw [if_pos c, if_pos (by rw [c]; rfl), at_l (XS 3) (show 4 < 7 by decide) (by decide), bnd_s, hT 4 (by decide), pk_mul]
      have e2 : q * t 4 ≤ 400 * 300 := Nat.mul_le_mul b h42
      rw [lit_n 100, n_div (by omega) (by omega) (by omega), bnd_s]
    · rw [if_neg c, if_neg (fun e => c ((eq_l (a := wfg w i) (k := 1) (by omega) (by omega)).mp e))]
  by_cases c1 : wkd w i = 1
  · rw [if_pos (by rw [c1]; rfl), at_l (XS 3) (show 2 < 7 by decide) (by decide), bnd_s, hT 2 (by decide)]
    refine (fin _ h21 h22).trans ?_
    simp only [c1, if_true]
  · rw [if_neg (fun e => c1 ((eq_l (a := wkd w i) (k := 1) (by omega) (by omega)).mp e))]
    by_cases c2 : wkd w i = 2
    · rw [if_pos (by rw [c2]; rfl), at_l (XS 3) (show 3 < 7 by decide) (by decide), bnd_s, hT 3 (by decide)]
      refine (fin _ h31 h32).trans ?_
      simp only [c1, c2, if_true, if_false, show ¬ (2 : Nat) = 1 by decide]
    · rw [if_neg (fun e => c2 ((eq_l (a := wkd w i) (k := 2) (by omega) (by omega)).mp e))]
      refine (fin 100 (by omega) (by omega)).trans ?_
      simp only [c1, c2, if_false]
theorem wtm_le {w : WS} {t : Nat → Nat} {i v : Nat} (hv : VS w) (ht : VT t) (hi : i < wK w) (h1 : 50 ≤ v) : wtm w t i v ≤ 186000 := by
  have h := (wpr_le hv ht hi).2.2
  unfold wtm
  by_cases c : wkd w i = 3
  · rw [if_pos c]; omega
  · rw [if_neg c]
    have h5 : 50 * 186000 ≤ v * 186000 := Nat.mul_le_mul_right _ h1
    have h6 : (wms w t i * t 0 * wpc w t i + v - 1) / v < 186001 := by
      rw [Nat.div_lt_iff_lt_mul (by omega)]
      omega
    omega
theorem wtm_pos {w : WS} {t : Nat → Nat} {i v : Nat} (hv : VS w) (ht : VT t) (hi : i < wK w) (h1 : 1 ≤ v) (hs : ¬ wkd w i = 3) : 1 ≤ wtm w t i v := by
  have h := (wpr_le hv ht hi).1
  unfold wtm
  rw [if_neg hs, Nat.le_div_iff_mul_le (by omega)]
  omega
theorem timeWith_ok {w : WS} {XS XW XP XQ : DM} {t : Nat → Nat} (hW : PW w XW XP XQ) (hv : VS w) (ht : VT t) (hT : PT t (XS 3)) {i v : Nat} (hi : i < wK w) (h1 : 1 ≤ v) (h2 : v ≤ 400) : fX3_timeWith XS XW (nI i) (nI v) = some (nI (wtm w t i v)) := by
  obtain ⟨p1, p2, p3⟩ := wpr_le hv ht hi
  unfold fX3_timeWith wtm
  rw [if_neg (nI_nle (by omega) (by omega)), isMark_ok hW hv hi, bnd_s]
  by_cases c : wkd w i = 3
  · rw [if_pos c, if_pos c, if_neg (by decide)]; rfl
  · rw [if_neg c, if_neg c, if_pos rfl, measureOf_ok hW hv ht hT hi, bnd_s, at_l (XS 3) (show 0 < 7 by decide) (by decide), bnd_s, hT 0 (by decide), percentOf_ok hW hv ht hT hi, bnd_s, sl_s, pk_mul, pk_mul, nI_add, lit_n 1, n_sub (by omega), n_div (by omega) (by omega) (by omega), bnd_s]
/-- the speeds: ranges -/
def VP (sp : Nat → Nat) : Prop := ∀ j, j < 3 → 50 ≤ sp j ∧ sp j ≤ 400
def PV (sp : Nat → Nat) (f : Nat → Int32) : Prop := ∀ j, j < 3 → f j = nI (sp j)
theorem speedOf_ok {w : WS} {XS XW XP XQ : DM} {sp : Nat → Nat} (hW : PW w XW XP XQ) (hv : VS w) (hV : PV sp (XS 4)) {i : Nat} (hi : i < wK w) : fX3_speedOf XS XW (nI i) = some (nI (sp (wcl w i))) := by
  have h2 := wcl_le w i
  unfold fX3_speedOf
  rw [classOf_ok hW hv hi, bnd_s, at_in _ (by omega) (by omega), bnd_s, hV _ (by omega)]
/-- the time of a word now -/
def wtn (w : WS) (t sp : Nat → Nat) (i : Nat) : Nat := wtm w t i (sp (wcl w i))
theorem timeOf_ok {w : WS} {XS XW XP XQ : DM} {t sp : Nat → Nat} (hW : PW w XW XP XQ) (hv : VS w) (ht : VT t) (hT : PT t (XS 3)) (hp : VP sp) (hV : PV sp (XS 4)) {i : Nat} (hi : i < wK w) : fX3_timeOf XS XW (nI i) = some (nI (wtn w t sp i)) := by
  have h2 := wcl_le w i
  obtain ⟨a, b⟩ := hp (wcl w i) (by omega)
  unfold fX3_timeOf wtn
  rw [speedOf_ok hW hv hV hi, bnd_s, timeWith_ok hW hv ht hT hi (by omega) b, bnd_s]
/-! words and times: the reference -/
theorem m_isShown {w : WS} {XM : DM} (hM : PM w XM) (hv : VS w) {i : Nat} (hi : i < wK w) : fX6_isShown XM (nI i) = some (if wkd w i = 3 then 0 else 1) := by
  have h3 := (hM.2.2.2 i hi).2.2.2.1
  have hb := (hv.2.1 i hi).2.2.2.1
  have hl := hv.le hi
  unfold fX6_isShown
  rw [rd_in _ (by omega) (by omega), bnd_s, h3]
  by_cases c : wkd w i = 3
  · rw [if_pos c, if_pos (by rw [c]; rfl)]
  · rw [if_neg c, if_neg (fun e => c ((eq_l (a := wkd w i) (k := 3) (by omega) (by omega)).mp e))]
theorem m_classOf {w : WS} {XM : DM} (hM : PM w XM) (hv : VS w) {i : Nat} (hi : i < wK w) : fX6_classOf XM (nI i) = some (nI (wcl w i)) := by
  have h3 := (hM.2.2.2 i hi).2.2.1
  have hb := (hv.2.1 i hi).2.2.1
  have hl := hv.le hi
  unfold fX6_classOf wcl
  rw [rd_in _ (by omega) (by omega), bnd_s, h3]
  by_cases c : wln w i ≤ 4
  · rw [if_pos c, if_neg (fun e => absurd ((le_l1 (k := 5) (a := wln w i) (by omega) (by omega)).mp e) (by omega))]; rfl
  · rw [if_neg c, if_pos ((le_l1 (k := 5) (a := wln w i) (by omega) (by omega)).mpr (by omega)), bnd_s]
    by_cases c2 : wln w i ≤ 8
    · rw [if_pos c2, if_neg (fun e => absurd ((le_l1 (k := 9) (a := wln w i) (by omega) (by omega)).mp e) (by omega))]; rfl
    · rw [if_neg c2, if_pos ((le_l1 (k := 9) (a := wln w i) (by omega) (by omega)).mpr (by omega))]; rfl
/-- the reference's settings and speeds -/
def MT (t : Nat → Nat) (d : Nat → Int32) : Prop := ∀ j, j < 7 → d (333 + j) = nI (t j)
def MV (sp : Nat → Nat) (d : Nat → Int32) : Prop := ∀ j, j < 3 → d (330 + j) = nI (sp j)
theorem m_measureOf {w : WS} {XM : DM} {t : Nat → Nat} (hM : PM w XM) (hv : VS w) (ht : VT t) (hT : MT t (XM 0)) {i : Nat} (hi : i < wK w) : fX6_measureOf XM (nI i) = some (nI (wms w t i)) := by
  have h3 := (hM.2.2.2 i hi).2.2.1
  have hb := (hv.2.1 i hi).2.2.1
  have hl := hv.le hi
  have ht1 : t 1 ≤ 10 := ht.2.2.2.1
  unfold fX6_measureOf wms
  rw [rd_in _ (by omega) (by omega), bnd_s, h3]
  simp only [sl_s]
  have fin : ∀ q : Nat, q ≤ 300 → (bnd (rdA 348 (XM 0) 334) fun v4 => if v4 ≤ nI q then some (nI q) else bnd (rdA 348 (XM 0) 334) fun v8 => some v8) = some (nI (max q (t 1))) := by
    intro q a
    rw [rd_l (k := 334) _ (by omega) (by omega), bnd_s, hT 1 (by omega)]
    by_cases c : t 1 ≤ q
    · rw [if_pos ((nI_leI (by omega) (by omega)).mpr c), Nat.max_eq_left c]
    · rw [if_neg (fun e => c ((nI_leI (by omega) (by omega)).mp e)), bnd_s, Nat.max_eq_right (by omega)]
  by_cases c : wln w i ≤ 10
  · rw [if_pos c, if_pos ((le_l2 (a := wln w i) (k := 10) (by omega) (by omega)).mpr c), fin _ hb]
  · rw [if_neg c, if_neg (fun e => c ((le_l2 (a := wln w i) (k := 10) (by omega) (by omega)).mp e)), lit_n 9, n_sub (by omega), lit_n 2, n_div (by omega) (by omega) (by omega), bnd_s, n_sub (by omega), fin _ (by omega)]
theorem m_timeBy {w : WS} {XM : DM} {t : Nat → Nat} (hM : PM w XM) (hv : VS w) (ht : VT t) (hT : MT t (XM 0)) {i v : Nat} (hi : i < wK w) (h1 : 1 ≤ v) (h2 : v ≤ 400) : fX6_timeBy XM (nI i) (nI v) = some (nI (wtm w t i v)) := by
  have h3 := (hM.2.2.2 i hi).2.2.2.1
  have h4 := (hM.2.2.2 i hi).2.2.2.2.1
  have hb := (hv.2.1 i hi).2.2.2.1
  have hb4 := (hv.2.1 i hi).2.2.2.2.1
  have hl := hv.le hi
  obtain ⟨p1, p2, p3⟩ := wpr_le hv ht hi
  have hT2 := ht
  obtain ⟨-, -, -, -, h21, h22, h31, h32, h41, h42, -⟩ := hT2
  unfold fX6_timeBy wtm
  rw [rd_in _ (by omega) (by omega), bnd_s, h3]
  by_cases c : wkd w i = 3
  · rw [if_pos c, if_pos (by rw [c]; rfl)]; rfl
  · rw [if_neg c, if_neg (fun e => c ((eq_l (a := wkd w i) (k := 3) (by omega) (by omega)).mp e)), bnd_s]
    simp only [sl_s]
    have fin : ∀ q : Nat, 100 ≤ q → q ≤ 400 → wpc w t i = (if wfg w i = 1 then q * t 4 / 100 else q) → (bnd (rdA 151 (XM 16) (nI i)) fun v8 => if v8 = 0 then bnd (fX6_measureOf XM (nI i)) fun r11 => bnd (rdA 348 (XM 0) 333) fun v16 => bnd (dvA (r11 * v16 * nI q + nI v - 1) (nI v)) fun v19 => some v19 else bnd (rdA 348 (XM 0) 337) fun v23 => bnd (dvA (nI q * v23) 100) fun v26 => bnd (fX6_measureOf XM (nI i)) fun r11 => bnd (rdA 348 (XM 0) 333) fun v16 => bnd (dvA (r11 * v16 * v26 + nI v - 1) (nI v)) fun v19 => some v19) = some (nI ((wms w t i * t 0 * wpc w t i + v - 1) / v)) := by
      intro q a b hq
      rw [rd_in _ (by omega) (by omega), bnd_s, h4]
      have tail : ∀ z : Nat, z = wpc w t i → (bnd (fX6_measureOf XM (nI i)) fun r11 => bnd (rdA 348 (XM 0) 333) fun v16 => bnd (dvA (r11 * v16 * nI z + nI v - 1) (nI v)) fun v19 => some v19) = some (nI ((wms w t i * t 0 * wpc w t i + v - 1) / v)) := by
        intro z hz
        subst hz
        rw [m_measureOf hM hv ht hT hi, bnd_s, rd_l (k := 333) _ (by omega) (by omega), bnd_s, hT 0 (by omega), pk_mul, pk_mul, nI_add, lit_n 1, n_sub (by omega), n_div (by omega) (by omega) (by omega), bnd_s]
      by_cases cf : wfg w i = 1
      · rw [if_neg (by rw [cf]; decide), rd_l (k := 337) _ (by omega) (by omega), bnd_s, hT 4 (by omega), pk_mul]
        have e2 : q * t 4 ≤ 400 * 300 := Nat.mul_le_mul b h42
        rw [lit_n 100, n_div (by omega) (by omega) (by omega), bnd_s]
        exact tail _ (by rw [hq, if_pos cf])
      · rw [if_pos (by rw [show wfg w i = 0 by omega]; rfl)]
        exact tail _ (by rw [hq, if_neg cf])
    by_cases c0 : wkd w i = 0
    · rw [if_pos (by rw [c0]; rfl)]
      exact fin 100 (by omega) (by omega) (by unfold wpc; simp [c0])
    · rw [if_neg (fun e => c0 ((eq_l (a := wkd w i) (k := 0) (by omega) (by omega)).mp e)), bnd_s, lit_n 334, nI_add, rd_in (XM 0) (by omega) (by omega), bnd_s]
      by_cases c1 : wkd w i = 1
      · rw [c1, show XM 0 (334 + 1) = nI (t 2) from hT 2 (by omega)]
        exact fin _ h21 h22 (by unfold wpc; simp [c1])
      · rw [show wkd w i = 2 by omega, show XM 0 (334 + 2) = nI (t 3) from hT 3 (by omega)]
        exact fin _ h31 h32 (by unfold wpc; simp [show wkd w i = 2 by omega])
theorem m_timeOf {w : WS} {XM : DM} {t sp : Nat → Nat} (hM : PM w XM) (hv : VS w) (ht : VT t) (hT : MT t (XM 0)) (hp : VP sp) (hV : MV sp (XM 0)) {i : Nat} (hi : i < wK w) : fX6_timeOf XM (nI i) = some (nI (wtn w t sp i)) := by
  have h2 := wcl_le w i
  obtain ⟨a, b⟩ := hp (wcl w i) (by omega)
  unfold fX6_timeOf wtn
  rw [m_classOf hM hv hi, bnd_s, lit_n 330, nI_add, rd_in _ (by omega) (by omega), bnd_s, hV _ (by omega), m_timeBy hM hv ht hT hi (by omega) b, bnd_s]
