/-! p27: what the questions answer -/
theorem cnt0 {n : Nat} {XF XN XW XP XQ XO : DM} {XH : HD} : fX5_count n XF XN XW XP XQ XO XH 0 = some (XN 2 0) := by
  unfold fX5_count
  simp only [sl_s]
  rw [if_pos (show (0 : Int32) < 20 from by decide), if_pos (show (0 : Int32) < 30 from by decide), if_pos True.intro]
theorem cnt1 {n : Nat} {XF XN XW XP XQ XO : DM} {XH : HD} : fX5_count n XF XN XW XP XQ XO XH 1 = some (XW 8 0) := by
  unfold fX5_count
  simp only [sl_s]
  rw [if_pos (show (1 : Int32) < 20 from by decide), if_pos (show (1 : Int32) < 30 from by decide), if_neg (show ¬ (1 : Int32) = 0 from by decide), if_pos True.intro]
theorem cnt2 {n : Nat} {XF XN XW XP XQ XO : DM} {XH : HD} : fX5_count n XF XN XW XP XQ XO XH 2 = some (XP 3 0) := by
  unfold fX5_count
  simp only [sl_s]
  rw [if_pos (show (2 : Int32) < 20 from by decide), if_pos (show (2 : Int32) < 30 from by decide), if_neg (show ¬ (2 : Int32) = 0 from by decide), if_neg (show ¬ (2 : Int32) = 1 from by decide), if_pos True.intro]
theorem cnt3 {n : Nat} {XF XN XW XP XQ XO : DM} {XH : HD} : fX5_count n XF XN XW XP XQ XO XH 3 = some (XQ 3 0) := by
  unfold fX5_count
  simp only [sl_s]
  rw [if_pos (show (3 : Int32) < 20 from by decide), if_pos (show (3 : Int32) < 30 from by decide), if_neg (show ¬ (3 : Int32) = 0 from by decide), if_neg (show ¬ (3 : Int32) = 1 from by decide), if_neg (show ¬ (3 : Int32) = 2 from by decide), if_pos True.intro]
theorem cnt4 {n : Nat} {XF XN XW XP XQ XO : DM} {XH : HD} : fX5_count n XF XN XW XP XQ XO XH 4 = some (if XN 6 0 = -1 then -4 else XN 6 0) := by
  unfold fX5_count
  simp only [sl_s]
  rw [if_pos (show (4 : Int32) < 20 from by decide), if_pos (show (4 : Int32) < 30 from by decide), if_neg (show ¬ (4 : Int32) = 0 from by decide), if_neg (show ¬ (4 : Int32) = 1 from by decide), if_neg (show ¬ (4 : Int32) = 2 from by decide), if_neg (show ¬ (4 : Int32) = 3 from by decide), if_pos True.intro]
  by_cases c : XN 6 0 = -1
  · rw [if_pos c, if_pos c]
  · rw [if_neg c, if_neg c]
theorem cnt5 {n : Nat} {XF XN XW XP XQ XO : DM} {XH : HD} : fX5_count n XF XN XW XP XQ XO XH 5 = some (if XN 6 0 = -1 then -4 else XN 7 0) := by
  unfold fX5_count
  simp only [sl_s]
  rw [if_pos (show (5 : Int32) < 20 from by decide), if_pos (show (5 : Int32) < 30 from by decide), if_neg (show ¬ (5 : Int32) = 0 from by decide), if_neg (show ¬ (5 : Int32) = 1 from by decide), if_neg (show ¬ (5 : Int32) = 2 from by decide), if_neg (show ¬ (5 : Int32) = 3 from by decide), if_neg (show ¬ (5 : Int32) = 4 from by decide), if_pos True.intro]
  by_cases c : XN 6 0 = -1
  · rw [if_pos c, if_pos c]
  · rw [if_neg c, if_neg c]
theorem cnt6 {n : Nat} {XF XN XW XP XQ XO : DM} {XH : HD} : fX5_count n XF XN XW XP XQ XO XH 6 = some (XN 9 0) := by
  unfold fX5_count
  simp only [sl_s]
  rw [if_pos (show (6 : Int32) < 20 from by decide), if_pos (show (6 : Int32) < 30 from by decide), if_neg (show ¬ (6 : Int32) = 0 from by decide), if_neg (show ¬ (6 : Int32) = 1 from by decide), if_neg (show ¬ (6 : Int32) = 2 from by decide), if_neg (show ¬ (6 : Int32) = 3 from by decide), if_neg (show ¬ (6 : Int32) = 4 from by decide), if_neg (show ¬ (6 : Int32) = 5 from by decide), if_pos True.intro]
theorem cnt7 {n : Nat} {XF XN XW XP XQ XO : DM} {XH : HD} : fX5_count n XF XN XW XP XQ XO XH 7 = fX3_countNotes n XN := by
  unfold fX5_count
  simp only [sl_s]
  rw [if_pos (show (7 : Int32) < 20 from by decide), if_pos (show (7 : Int32) < 30 from by decide), if_neg (show ¬ (7 : Int32) = 0 from by decide), if_neg (show ¬ (7 : Int32) = 1 from by decide), if_neg (show ¬ (7 : Int32) = 2 from by decide), if_neg (show ¬ (7 : Int32) = 3 from by decide), if_neg (show ¬ (7 : Int32) = 4 from by decide), if_neg (show ¬ (7 : Int32) = 5 from by decide), if_neg (show ¬ (7 : Int32) = 6 from by decide), if_pos True.intro]
  cases fX3_countNotes n XN <;> rfl
theorem cnt8 {n : Nat} {XF XN XW XP XQ XO : DM} {XH : HD} : fX5_count n XF XN XW XP XQ XO XH 8 = some (XN 12 0) := by
  unfold fX5_count
  simp only [sl_s]
  rw [if_pos (show (8 : Int32) < 20 from by decide), if_pos (show (8 : Int32) < 30 from by decide), if_neg (show ¬ (8 : Int32) = 0 from by decide), if_neg (show ¬ (8 : Int32) = 1 from by decide), if_neg (show ¬ (8 : Int32) = 2 from by decide), if_neg (show ¬ (8 : Int32) = 3 from by decide), if_neg (show ¬ (8 : Int32) = 4 from by decide), if_neg (show ¬ (8 : Int32) = 5 from by decide), if_neg (show ¬ (8 : Int32) = 6 from by decide), if_neg (show ¬ (8 : Int32) = 7 from by decide), if_pos True.intro]
theorem cnt9 {n : Nat} {XF XN XW XP XQ XO : DM} {XH : HD} : fX5_count n XF XN XW XP XQ XO XH 9 = some (XN 13 0) := by
  unfold fX5_count
  simp only [sl_s]
  rw [if_pos (show (9 : Int32) < 20 from by decide), if_pos (show (9 : Int32) < 30 from by decide), if_neg (show ¬ (9 : Int32) = 0 from by decide), if_neg (show ¬ (9 : Int32) = 1 from by decide), if_neg (show ¬ (9 : Int32) = 2 from by decide), if_neg (show ¬ (9 : Int32) = 3 from by decide), if_neg (show ¬ (9 : Int32) = 4 from by decide), if_neg (show ¬ (9 : Int32) = 5 from by decide), if_neg (show ¬ (9 : Int32) = 6 from by decide), if_neg (show ¬ (9 : Int32) = 7 from by decide), if_neg (show ¬ (9 : Int32) = 8 from by decide), if_pos True.intro]
theorem cnt10 {n : Nat} {XF XN XW XP XQ XO : DM} {XH : HD} : fX5_count n XF XN XW XP XQ XO XH 10 = some (XN 14 0) := by
  unfold fX5_count
  simp only [sl_s]
  rw [if_pos (show (10 : Int32) < 20 from by decide), if_pos (show (10 : Int32) < 30 from by decide), if_neg (show ¬ (10 : Int32) = 0 from by decide), if_neg (show ¬ (10 : Int32) = 1 from by decide), if_neg (show ¬ (10 : Int32) = 2 from by decide), if_neg (show ¬ (10 : Int32) = 3 from by decide), if_neg (show ¬ (10 : Int32) = 4 from by decide), if_neg (show ¬ (10 : Int32) = 5 from by decide), if_neg (show ¬ (10 : Int32) = 6 from by decide), if_neg (show ¬ (10 : Int32) = 7 from by decide), if_neg (show ¬ (10 : Int32) = 8 from by decide), if_neg (show ¬ (10 : Int32) = 9 from by decide), if_pos True.intro]
theorem cnt13 {n : Nat} {XF XN XW XP XQ XO : DM} {XH : HD} : fX5_count n XF XN XW XP XQ XO XH 13 = fX3_timeOfAll n XN XW 0 (XW 8 0 - 1) := by
  unfold fX5_count
  simp only [sl_s]
  rw [if_pos (show (13 : Int32) < 20 from by decide), if_pos (show (13 : Int32) < 30 from by decide), if_neg (show ¬ (13 : Int32) = 0 from by decide), if_neg (show ¬ (13 : Int32) = 1 from by decide), if_neg (show ¬ (13 : Int32) = 2 from by decide), if_neg (show ¬ (13 : Int32) = 3 from by decide), if_neg (show ¬ (13 : Int32) = 4 from by decide), if_neg (show ¬ (13 : Int32) = 5 from by decide), if_neg (show ¬ (13 : Int32) = 6 from by decide), if_neg (show ¬ (13 : Int32) = 7 from by decide), if_neg (show ¬ (13 : Int32) = 8 from by decide), if_neg (show ¬ (13 : Int32) = 9 from by decide), if_neg (show ¬ (13 : Int32) = 10 from by decide), if_neg (show ¬ (13 : Int32) = 11 from by decide), if_neg (show ¬ (13 : Int32) = 12 from by decide), if_pos True.intro]
  cases fX3_timeOfAll n XN XW 0 (XW 8 0 - 1) <;> rfl
theorem cnt21 {n : Nat} {XF XN XW XP XQ XO : DM} {XH : HD} : fX5_count n XF XN XW XP XQ XO XH 21 = some (XN 3 1) := by
  unfold fX5_count
  simp only [sl_s]
  rw [if_neg (show ¬ (21 : Int32) < 20 from by decide), if_neg (show ¬ (27 : Int32) ≤ 21 from by decide), show (21 : Int32) - 20 = 1 from by decide, at_l (k := 1) _ (by omega) (by omega), bnd_s]
theorem cnt30 {n : Nat} {XF XN XW XP XQ XO : DM} {XH : HD} : fX5_count n XF XN XW XP XQ XO XH 30 = some (XN 4 0) := by
  unfold fX5_count
  simp only [sl_s]
  rw [if_neg (show ¬ (30 : Int32) < 20 from by decide), if_pos (show (27 : Int32) ≤ 30 from by decide), if_neg (show ¬ (30 : Int32) < 30 from by decide), if_neg (show ¬ (33 : Int32) ≤ 30 from by decide), show (30 : Int32) - 30 = 0 from by decide, at_l (k := 0) _ (by omega) (by omega), bnd_s]
theorem cnt31 {n : Nat} {XF XN XW XP XQ XO : DM} {XH : HD} : fX5_count n XF XN XW XP XQ XO XH 31 = some (XN 4 1) := by
  unfold fX5_count
  simp only [sl_s]
  rw [if_neg (show ¬ (31 : Int32) < 20 from by decide), if_pos (show (27 : Int32) ≤ 31 from by decide), if_neg (show ¬ (31 : Int32) < 30 from by decide), if_neg (show ¬ (33 : Int32) ≤ 31 from by decide), show (31 : Int32) - 30 = 1 from by decide, at_l (k := 1) _ (by omega) (by omega), bnd_s]
theorem cnt32 {n : Nat} {XF XN XW XP XQ XO : DM} {XH : HD} : fX5_count n XF XN XW XP XQ XO XH 32 = some (XN 4 2) := by
  unfold fX5_count
  simp only [sl_s]
  rw [if_neg (show ¬ (32 : Int32) < 20 from by decide), if_pos (show (27 : Int32) ≤ 32 from by decide), if_neg (show ¬ (32 : Int32) < 30 from by decide), if_neg (show ¬ (33 : Int32) ≤ 32 from by decide), show (32 : Int32) - 30 = 2 from by decide, at_l (k := 2) _ (by omega) (by omega), bnd_s]
theorem wd0 {XF : DM} {w : WS} {t sp : Nat → Nat} {j r : Nat} {q : Bool} {XN XW XP XQ : DM} (hC : CC w t sp j r q XN XW XP XQ) {i : Nat} (hi : i < wK w) : fX5_word XF XN XW XP XQ (nI i) 0 = some (nI (w.2 0 i)) := by
  obtain ⟨hW, hv, ht, hT, hp, hV, -⟩ := hC
  have hl := hv.le hi
  unfold fX5_word
  rw [has_in hW hv hi, bnd_s, if_neg (show ¬ (1 : Int32) = 0 from by decide), if_neg (show ¬ (0 : Int32) < 0 from by decide), if_pos (show (0 : Int32) < 11 from by decide), if_pos (show (0 : Int32) = 0 from rfl), at_in _ (by omega) (by omega), bnd_s, (hW.2.1 i hi).1]
theorem wd1 {XF : DM} {w : WS} {t sp : Nat → Nat} {j r : Nat} {q : Bool} {XN XW XP XQ : DM} (hC : CC w t sp j r q XN XW XP XQ) {i : Nat} (hi : i < wK w) : fX5_word XF XN XW XP XQ (nI i) 1 = some (nI (w.2 1 i)) := by
  obtain ⟨hW, hv, ht, hT, hp, hV, -⟩ := hC
  have hl := hv.le hi
  unfold fX5_word
  rw [has_in hW hv hi, bnd_s, if_neg (show ¬ (1 : Int32) = 0 from by decide), if_neg (show ¬ (1 : Int32) < 0 from by decide), if_pos (show (1 : Int32) < 11 from by decide), if_neg (show ¬ (1 : Int32) = 0 from by decide), if_pos (show (1 : Int32) = 1 from rfl), at_in _ (by omega) (by omega), bnd_s, (hW.2.1 i hi).2.1]
theorem wd2 {XF : DM} {w : WS} {t sp : Nat → Nat} {j r : Nat} {q : Bool} {XN XW XP XQ : DM} (hC : CC w t sp j r q XN XW XP XQ) {i : Nat} (hi : i < wK w) : fX5_word XF XN XW XP XQ (nI i) 2 = some (nI (wln w i)) := by
  obtain ⟨hW, hv, ht, hT, hp, hV, -⟩ := hC
  have hl := hv.le hi
  unfold fX5_word
  rw [has_in hW hv hi, bnd_s, if_neg (show ¬ (1 : Int32) = 0 from by decide), if_neg (show ¬ (2 : Int32) < 0 from by decide), if_pos (show (2 : Int32) < 11 from by decide), if_neg (show ¬ (2 : Int32) = 0 from by decide), if_neg (show ¬ (2 : Int32) = 1 from by decide), if_pos (show (2 : Int32) = 2 from rfl), at_in _ (by omega) (by omega), bnd_s, (hW.2.1 i hi).2.2.1]
theorem wd3 {XF : DM} {w : WS} {t sp : Nat → Nat} {j r : Nat} {q : Bool} {XN XW XP XQ : DM} (hC : CC w t sp j r q XN XW XP XQ) {i : Nat} (hi : i < wK w) : fX5_word XF XN XW XP XQ (nI i) 3 = some (nI (wcl w i)) := by
  obtain ⟨hW, hv, ht, hT, hp, hV, -⟩ := hC
  have hl := hv.le hi
  unfold fX5_word
  rw [has_in hW hv hi, bnd_s, if_neg (show ¬ (1 : Int32) = 0 from by decide), if_neg (show ¬ (3 : Int32) < 0 from by decide), if_pos (show (3 : Int32) < 11 from by decide), if_neg (show ¬ (3 : Int32) = 0 from by decide), if_neg (show ¬ (3 : Int32) = 1 from by decide), if_neg (show ¬ (3 : Int32) = 2 from by decide), if_pos (show (3 : Int32) = 3 from rfl), classOf_ok hW hv hi, bnd_s]
theorem wd4 {XF : DM} {w : WS} {t sp : Nat → Nat} {j r : Nat} {q : Bool} {XN XW XP XQ : DM} (hC : CC w t sp j r q XN XW XP XQ) {i : Nat} (hi : i < wK w) : fX5_word XF XN XW XP XQ (nI i) 4 = some (nI (wkd w i)) := by
  obtain ⟨hW, hv, ht, hT, hp, hV, -⟩ := hC
  have hl := hv.le hi
  unfold fX5_word
  rw [has_in hW hv hi, bnd_s, if_neg (show ¬ (1 : Int32) = 0 from by decide), if_neg (show ¬ (4 : Int32) < 0 from by decide), if_pos (show (4 : Int32) < 11 from by decide), if_neg (show ¬ (4 : Int32) = 0 from by decide), if_neg (show ¬ (4 : Int32) = 1 from by decide), if_neg (show ¬ (4 : Int32) = 2 from by decide), if_neg (show ¬ (4 : Int32) = 3 from by decide), if_pos (show (4 : Int32) = 4 from rfl), at_in _ (by omega) (by omega), bnd_s, (hW.2.1 i hi).2.2.2.1]
theorem wd5 {XF : DM} {w : WS} {t sp : Nat → Nat} {j r : Nat} {q : Bool} {XN XW XP XQ : DM} (hC : CC w t sp j r q XN XW XP XQ) {i : Nat} (hi : i < wK w) : fX5_word XF XN XW XP XQ (nI i) 5 = some (nI (wsn w i)) := by
  obtain ⟨hW, hv, ht, hT, hp, hV, -⟩ := hC
  have hl := hv.le hi
  unfold fX5_word
  rw [has_in hW hv hi, bnd_s, if_neg (show ¬ (1 : Int32) = 0 from by decide), if_neg (show ¬ (5 : Int32) < 0 from by decide), if_pos (show (5 : Int32) < 11 from by decide), if_neg (show ¬ (5 : Int32) = 0 from by decide), if_neg (show ¬ (5 : Int32) = 1 from by decide), if_neg (show ¬ (5 : Int32) = 2 from by decide), if_neg (show ¬ (5 : Int32) = 3 from by decide), if_neg (show ¬ (5 : Int32) = 4 from by decide), if_pos (show (5 : Int32) = 5 from rfl), at_in _ (by omega) (by omega), bnd_s, hW.2.2.1.2.1 i hi]
theorem wd7 {XF : DM} {w : WS} {t sp : Nat → Nat} {j r : Nat} {q : Bool} {XN XW XP XQ : DM} (hC : CC w t sp j r q XN XW XP XQ) {i : Nat} (hi : i < wK w) : fX5_word XF XN XW XP XQ (nI i) 7 = some (nI (wms w t i)) := by
  obtain ⟨hW, hv, ht, hT, hp, hV, -⟩ := hC
  have hl := hv.le hi
  unfold fX5_word
  rw [has_in hW hv hi, bnd_s, if_neg (show ¬ (1 : Int32) = 0 from by decide), if_neg (show ¬ (7 : Int32) < 0 from by decide), if_pos (show (7 : Int32) < 11 from by decide), if_neg (show ¬ (7 : Int32) = 0 from by decide), if_neg (show ¬ (7 : Int32) = 1 from by decide), if_neg (show ¬ (7 : Int32) = 2 from by decide), if_neg (show ¬ (7 : Int32) = 3 from by decide), if_neg (show ¬ (7 : Int32) = 4 from by decide), if_neg (show ¬ (7 : Int32) = 5 from by decide), if_neg (show ¬ (7 : Int32) = 6 from by decide), if_pos (show (7 : Int32) = 7 from rfl), measureOf_ok hW hv ht hT hi, bnd_s]
theorem wd8 {XF : DM} {w : WS} {t sp : Nat → Nat} {j r : Nat} {q : Bool} {XN XW XP XQ : DM} (hC : CC w t sp j r q XN XW XP XQ) {i : Nat} (hi : i < wK w) : fX5_word XF XN XW XP XQ (nI i) 8 = some (nI (wtn w t sp i)) := by
  obtain ⟨hW, hv, ht, hT, hp, hV, -⟩ := hC
  have hl := hv.le hi
  unfold fX5_word
  rw [has_in hW hv hi, bnd_s, if_neg (show ¬ (1 : Int32) = 0 from by decide), if_neg (show ¬ (8 : Int32) < 0 from by decide), if_pos (show (8 : Int32) < 11 from by decide), if_neg (show ¬ (8 : Int32) = 0 from by decide), if_neg (show ¬ (8 : Int32) = 1 from by decide), if_neg (show ¬ (8 : Int32) = 2 from by decide), if_neg (show ¬ (8 : Int32) = 3 from by decide), if_neg (show ¬ (8 : Int32) = 4 from by decide), if_neg (show ¬ (8 : Int32) = 5 from by decide), if_neg (show ¬ (8 : Int32) = 6 from by decide), if_neg (show ¬ (8 : Int32) = 7 from by decide), if_pos (show (8 : Int32) = 8 from rfl), timeOf_ok hW hv ht hT hp hV hi, bnd_s]
theorem wd9 {XF : DM} {w : WS} {t sp : Nat → Nat} {j r : Nat} {q : Bool} {XN XW XP XQ : DM} (hC : CC w t sp j r q XN XW XP XQ) {i : Nat} (hi : i < wK w) : fX5_word XF XN XW XP XQ (nI i) 9 = some (XN 5 i) := by
  obtain ⟨hW, hv, ht, hT, hp, hV, -⟩ := hC
  have hl := hv.le hi
  unfold fX5_word
  rw [has_in hW hv hi, bnd_s, if_neg (show ¬ (1 : Int32) = 0 from by decide), if_neg (show ¬ (9 : Int32) < 0 from by decide), if_pos (show (9 : Int32) < 11 from by decide), if_neg (show ¬ (9 : Int32) = 0 from by decide), if_neg (show ¬ (9 : Int32) = 1 from by decide), if_neg (show ¬ (9 : Int32) = 2 from by decide), if_neg (show ¬ (9 : Int32) = 3 from by decide), if_neg (show ¬ (9 : Int32) = 4 from by decide), if_neg (show ¬ (9 : Int32) = 5 from by decide), if_neg (show ¬ (9 : Int32) = 6 from by decide), if_neg (show ¬ (9 : Int32) = 7 from by decide), if_neg (show ¬ (9 : Int32) = 8 from by decide), if_pos (show (9 : Int32) = 9 from rfl), at_in _ (by omega) (by omega), bnd_s]
theorem wd10 {XF : DM} {w : WS} {t sp : Nat → Nat} {j r : Nat} {q : Bool} {XN XW XP XQ : DM} (hC : CC w t sp j r q XN XW XP XQ) {i : Nat} (hi : i < wK w) : fX5_word XF XN XW XP XQ (nI i) 10 = some (spI (w.2 5 i)) := by
  obtain ⟨hW, hv, ht, hT, hp, hV, -⟩ := hC
  have hl := hv.le hi
  unfold fX5_word
  rw [has_in hW hv hi, bnd_s, if_neg (show ¬ (1 : Int32) = 0 from by decide), if_neg (show ¬ (10 : Int32) < 0 from by decide), if_pos (show (10 : Int32) < 11 from by decide), if_neg (show ¬ (10 : Int32) = 0 from by decide), if_neg (show ¬ (10 : Int32) = 1 from by decide), if_neg (show ¬ (10 : Int32) = 2 from by decide), if_neg (show ¬ (10 : Int32) = 3 from by decide), if_neg (show ¬ (10 : Int32) = 4 from by decide), if_neg (show ¬ (10 : Int32) = 5 from by decide), if_neg (show ¬ (10 : Int32) = 6 from by decide), if_neg (show ¬ (10 : Int32) = 7 from by decide), if_neg (show ¬ (10 : Int32) = 8 from by decide), if_neg (show ¬ (10 : Int32) = 9 from by decide), at_in _ (by omega) (by omega), bnd_s, (hW.2.1 i hi).2.2.2.2.2]
theorem snt2 {n : Nat} (hn : 200 ≤ n) {XF : DM} {w : WS} {t sp : Nat → Nat} {j r : Nat} {q : Bool} {XN XW XP XQ : DM} (hC : CC w t sp j r q XN XW XP XQ) {s : Nat} (hs : s < wnS w) : fX5_sentence n XF XN XW XP (nI s) 2 = some (nI (smN (fun i => if wsn w i = s then wtn w t sp i else 0) (wK w) 0)) := by
  obtain ⟨hW, hv, ht, hT, hp, hV, -⟩ := hC
  have hk := hv.1
  have hN := nS_le hv
  obtain ⟨a, k, k1, k2, k3⟩ := sn_str hv hs
  obtain ⟨f1, f2⟩ := str_first hW.2.2.1 k1 k2 k3
  have e1 : ¬ (nI s < 0 ∨ nI (wnS w) ≤ nI s) := by rw [rng2 hN]; exact fun q => q ⟨s, hs, rfl⟩
  unfold fX5_sentence
  rw [c_has2 (N := wnS w) hW.2.2.1.1, bnd_s, if_neg e1, if_neg (show ¬ (1 : Int32) = 0 from by decide), if_neg (show ¬ (2 : Int32) < 0 from by decide), if_pos (show (2 : Int32) < 4 from by decide), at_in _ (by omega) (by omega), bnd_s, at_in _ (by omega) (by omega), bnd_s, f1, f2, if_neg (show ¬ (2 : Int32) = 3 from by decide), c_spanP hW hv ht hT hp hV hn k1 k2, bnd_s, if_neg (show ¬ (2 : Int32) = 0 from by decide), if_neg (show ¬ (2 : Int32) = 1 from by decide), smN_str k2 k3]
theorem snt3 {n : Nat} (hn : 200 ≤ n) {XF : DM} {w : WS} {t sp : Nat → Nat} {j r : Nat} {q : Bool} {XN XW XP XQ : DM} (hC : CC w t sp j r q XN XW XP XQ) {i : Nat} (hi : i < wK w) (hsh : ¬ wkd w i = 3) : ∃ m, 1 ≤ m ∧ m ≤ 150 ∧ fX5_sentence n XF XN XW XP (nI (wsn w i)) 3 = some (nI m) := by
  obtain ⟨hW, hv, ht, hT, hp, hV, -⟩ := hC
  have hk := hv.1
  have hN := nS_le hv
  have hs := sn_nS hv hi
  obtain ⟨a, k, k1, k2, k3⟩ := sn_str hv hs
  obtain ⟨f1, f2⟩ := str_first hW.2.2.1 k1 k2 k3
  have e1 : ¬ (nI (wsn w i) < 0 ∨ nI (wnS w) ≤ nI (wsn w i)) := by rw [rng2 hN]; exact fun q => q ⟨_, hs, rfl⟩
  have hi2 := (k3 i hi).mp rfl
  refine ⟨smN (shn w) k a, ?_, ?_, ?_⟩
  · obtain ⟨z, hz⟩ : ∃ z, k = (i - a) + (z + 1) := ⟨k - (i - a) - 1, by omega⟩
    rw [hz, smN_add, smN_s, show a + (i - a) = i by omega, show shn w i = 1 from if_neg hsh]
    omega
  · have := smN_le (f := shn w) (C := 1) k a (fun i _ _ => by unfold shn; split <;> omega)
    omega
  · unfold fX5_sentence
    rw [c_has2 (N := wnS w) hW.2.2.1.1, bnd_s, if_neg e1, if_neg (show ¬ (1 : Int32) = 0 from by decide), if_neg (show ¬ (3 : Int32) < 0 from by decide), if_pos (show (3 : Int32) < 4 from by decide), at_in _ (by omega) (by omega), bnd_s, at_in _ (by omega) (by omega), bnd_s, f1, f2, if_pos (show (3 : Int32) = 3 from rfl), c_sha hW hv hn k1 k2, bnd_s]
theorem pag2 {n : Nat} (hn : 200 ≤ n) {XF : DM} {w : WS} {t sp : Nat → Nat} {j r : Nat} {q : Bool} {XN XW XP XQ : DM} (hC : CC w t sp j r q XN XW XP XQ) {s : Nat} (hs : s < wnP w) : fX5_page n XF XN XW XP XQ (nI s) 2 = some (nI (smN (fun i => if wpg w i = s then wtn w t sp i else 0) (wK w) 0)) := by
  obtain ⟨hW, hv, ht, hT, hp, hV, -⟩ := hC
  have hk := hv.1
  have hN := nP_le hv
  obtain ⟨a, k, k1, k2, k3⟩ := pg_str hv hs
  obtain ⟨f1, f2⟩ := str_first hW.2.2.2 k1 k2 k3
  have e1 : ¬ (nI s < 0 ∨ nI (wnP w) ≤ nI s) := by rw [rng2 hN]; exact fun q => q ⟨s, hs, rfl⟩
  unfold fX5_page
  rw [c_has2 (N := wnP w) hW.2.2.2.1, bnd_s, if_neg e1, if_neg (show ¬ (1 : Int32) = 0 from by decide), if_neg (show ¬ (2 : Int32) < 0 from by decide), if_pos (show (2 : Int32) < 4 from by decide), at_in _ (by omega) (by omega), bnd_s, at_in _ (by omega) (by omega), bnd_s, f1, f2, if_neg (show ¬ (2 : Int32) = 3 from by decide), c_spanP hW hv ht hT hp hV hn k1 k2, bnd_s, if_neg (show ¬ (2 : Int32) = 0 from by decide), if_neg (show ¬ (2 : Int32) = 1 from by decide), smN_str k2 k3]
theorem cnt13w {n : Nat} (hn : 200 ≤ n) {XF XO : DM} {XH : HD} {w : WS} {t sp : Nat → Nat} {j r : Nat} {q : Bool} {XN XW XP XQ : DM} (hC : CC w t sp j r q XN XW XP XQ) : fX5_count n XF XN XW XP XQ XO XH 13 = some (nI (smN (wtn w t sp) (wK w) 0)) := by
  obtain ⟨hW, hv, ht, hT, hp, hV, -⟩ := hC
  rw [cnt13, hW.1]
  have := c_toa hW hv ht hT hp hV hn (a := 0) (k := wK w) (by omega)
  rw [Nat.zero_add] at this
  exact this
theorem cnt4w {n : Nat} {XF XO : DM} {XH : HD} {w : WS} {t sp : Nat → Nat} {j r : Nat} {q : Bool} {XN XW XP XQ : DM} (hC : CC w t sp j r q XN XW XP XQ) : fX5_count n XF XN XW XP XQ XO XH 4 = some (if j < wK w then nI j else -4) := by
  have hk := hC.2.1.1
  rw [cnt4, hC.2.2.2.2.2.2.2.2.1]
  by_cases c : j < wK w
  · rw [oI_lt c, if_neg (nI_ne_m1 (by omega)), if_pos c]
  · rw [oI_ge c, if_pos rfl, if_neg c]
theorem cnt5w {n : Nat} {XF XO : DM} {XH : HD} {w : WS} {t sp : Nat → Nat} {j r : Nat} {q : Bool} {XN XW XP XQ : DM} (hC : CC w t sp j r q XN XW XP XQ) : fX5_count n XF XN XW XP XQ XO XH 5 = some (if j < wK w then nI r else -4) := by
  have hk := hC.2.1.1
  rw [cnt5, hC.2.2.2.2.2.2.2.2.1, hC.2.2.2.2.2.2.2.2.2.1]
  by_cases c : j < wK w
  · rw [oI_lt c, if_neg (nI_ne_m1 (by omega)), if_pos c]
  · rw [oI_ge c, if_pos rfl, if_neg c]
