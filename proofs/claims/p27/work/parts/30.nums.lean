/-! pure ground: numbers, rows -/
theorem bnd_s {α β : Type} (a : α) (k : α → Option β) : bnd (some a) k = k a := rfl
theorem sl_s {α β : Type} (x : α) (k : α → β) : sl x k = k x := rfl
theorem lit_n (k : Nat) : (OfNat.ofNat k : Int32) = nI k := rfl
theorem rd_in {N j : Nat} (f : Nat → Int32) (h : j < N) (hN : N < 2 ^ 31) : rdA N f (nI j) = some (f j) := by
  unfold rdA
  rw [if_pos (nI_in h hN), nI_clamp (by omega)]
theorem rd_l {N k : Nat} (f : Nat → Int32) (h : k < N) (hN : N < 2 ^ 31) : rdA N f (OfNat.ofNat k : Int32) = some (f k) := rd_in f h hN
theorem wr_in {N j : Nat} (f : Nat → Int32) (v : Int32) (h : j < N) (hN : N < 2 ^ 31) : wrA N f (nI j) v = some (upd f j v) := by
  unfold wrA
  rw [if_pos (nI_in h hN), nI_clamp (by omega)]
theorem wr_l {N k : Nat} (f : Nat → Int32) (v : Int32) (h : k < N) (hN : N < 2 ^ 31) : wrA N f (OfNat.ofNat k : Int32) v = some (upd f k v) := wr_in f v h hN
theorem at_in {N j : Nat} (f : Nat → Int32) (h : j < N) (hN : N < 2 ^ 31) : fX5_at N f (nI j) = some (f j) := by
  unfold fX5_at
  rw [if_neg (nI_pos (by omega)), if_neg (nI_ge h hN), rd_in f h hN]
  rfl
theorem at_l {N k : Nat} (f : Nat → Int32) (h : k < N) (hN : N < 2 ^ 31) : fX5_at N f (OfNat.ofNat k : Int32) = some (f k) := at_in f h hN
theorem put_in {N j : Nat} (f : Nat → Int32) (v : Int32) (h : j < N) (hN : N < 2 ^ 31) : fX5_put N f (nI j) v = some (upd f j v) := by
  unfold fX5_put
  rw [if_neg (nI_pos (by omega)), if_neg (nI_ge h hN), wr_in f v h hN]
  rfl
theorem put_l {N k : Nat} (f : Nat → Int32) (v : Int32) (h : k < N) (hN : N < 2 ^ 31) : fX5_put N f (OfNat.ofNat k : Int32) v = some (upd f k v) := put_in f v h hN
theorem nI_ne_m1 {a : Nat} (h : a < 2 ^ 31) : ¬ nI a = -1 := by
  intro e
  have := congrArg Int32.toInt e
  rw [nI_toInt h] at this
  have h2 : (-1 : Int32).toInt = -1 := by decide
  omega
theorem m1_lt0 : (-1 : Int32) < 0 := by decide
theorem n_sub {a b : Nat} (h : b ≤ a) : nI a - nI b = nI (a - b) := pk_sub h
theorem n_div {a d : Nat} (ha : a < 2 ^ 31) (h0 : 0 < d) (hd : d < 2 ^ 31) : dvA (nI a) (nI d) = some (nI (a / d)) := by
  unfold dvA
  rw [if_neg (nI_ne0 h0 hd), pk_div ha h0 hd]
theorem n_max {a b : Nat} (ha : a < 2 ^ 31) (hb : b < 2 ^ 31) : (if nI a < nI b then nI b else nI a) = nI (max a b) := by
  by_cases h : a < b
  · rw [if_pos ((nI_ltI ha hb).mpr h), Nat.max_eq_right (by omega)]
  · rw [if_neg (fun e => h ((nI_ltI ha hb).mp e)), Nat.max_eq_left (by omega)]
theorem n_min {a b : Nat} (ha : a < 2 ^ 31) (hb : b < 2 ^ 31) : (if nI b < nI a then nI b else nI a) = nI (min a b) := by
  by_cases h : b < a
  · rw [if_pos ((nI_ltI hb ha).mpr h), Nat.min_eq_right (by omega)]
  · rw [if_neg (fun e => h ((nI_ltI hb ha).mp e)), Nat.min_eq_left (by omega)]
theorem ne_lt {a b : Nat} (ha : a < 2 ^ 31) (hb : b < 2 ^ 31) : nI a = nI b ↔ a = b := nI_eq ha hb
theorem eq_l {a k : Nat} (ha : a < 2 ^ 31) (hb : k < 2 ^ 31) : nI a = (OfNat.ofNat k : Int32) ↔ a = k := nI_eq ha hb
theorem lt_l1 {k a : Nat} (hb : k < 2 ^ 31) (ha : a < 2 ^ 31) : (OfNat.ofNat k : Int32) < nI a ↔ k < a := nI_ltI hb ha
theorem lt_l2 {a k : Nat} (ha : a < 2 ^ 31) (hb : k < 2 ^ 31) : nI a < (OfNat.ofNat k : Int32) ↔ a < k := nI_ltI ha hb
theorem le_l1 {k a : Nat} (hb : k < 2 ^ 31) (ha : a < 2 ^ 31) : (OfNat.ofNat k : Int32) ≤ nI a ↔ k ≤ a := nI_leI hb ha
theorem le_l2 {a k : Nat} (ha : a < 2 ^ 31) (hb : k < 2 ^ 31) : nI a ≤ (OfNat.ofNat k : Int32) ↔ a ≤ k := nI_leI ha hb
/-! the words of a text: how many, and eight properties of each (0 start, 1 size, 2 length, 3 kind, 4 figure, 5 spot + 1, 6 sentence, 7 page) -/
abbrev WS : Type := Nat × (Nat → Nat → Nat)
abbrev wK (w : WS) : Nat := w.1
abbrev wln (w : WS) : Nat → Nat := w.2 2
abbrev wkd (w : WS) : Nat → Nat := w.2 3
abbrev wfg (w : WS) : Nat → Nat := w.2 4
abbrev wsn (w : WS) : Nat → Nat := w.2 6
abbrev wpg (w : WS) : Nat → Nat := w.2 7
def wnS (w : WS) : Nat := if wK w = 0 then 0 else wsn w (wK w - 1) + 1
def wnP (w : WS) : Nat := if wK w = 0 then 0 else wpg w (wK w - 1) + 1
def spI (k : Nat) : Int32 := if k = 0 then -1 else nI (k - 1)
/-- what holds of the words of any text -/
def VS (w : WS) : Prop := wK w ≤ 150 ∧ (∀ i, i < wK w → w.2 0 i ≤ 300 ∧ w.2 1 i ≤ 300 ∧ wln w i ≤ 300 ∧ wkd w i ≤ 3 ∧ wfg w i ≤ 1 ∧ w.2 5 i ≤ 300) ∧ wsn w 0 = 0 ∧ wpg w 0 = 0 ∧ (∀ i, wsn w (i + 1) = wsn w i + (if 1 < wkd w i then 1 else 0)) ∧ (∀ i, wpg w (i + 1) = wpg w i + (if wkd w i = 3 then 1 else 0))
/-- the rows of a class Spans hold the stretches that 'no' numbers -/
def PSp (K : Nat) (no : Nat → Nat) (X : DM) : Prop := X 3 0 = nI (if K = 0 then 0 else no (K - 1) + 1) ∧ (∀ i, i < K → X 2 i = nI (no i)) ∧ (∀ i, i < K → (i = 0 ∨ no (i - 1) ≠ no i) → X 0 (no i) = nI i) ∧ (∀ i, i < K → (i + 1 = K ∨ no (i + 1) ≠ no i) → X 1 (no i) = nI i)
/-- the rows of the class hold the words -/
def PW (w : WS) (XW XP XQ : DM) : Prop := XW 8 0 = nI (wK w) ∧ (∀ i, i < wK w → XW 0 i = nI (w.2 0 i) ∧ XW 1 i = nI (w.2 1 i) ∧ XW 2 i = nI (wln w i) ∧ XW 3 i = nI (wkd w i) ∧ XW 4 i = nI (wfg w i) ∧ XW 5 i = spI (w.2 5 i)) ∧ PSp (wK w) (wsn w) XP ∧ PSp (wK w) (wpg w) XQ
/-- the reference's rows hold the words -/
def PM (w : WS) (XM : DM) : Prop := XM 9 0 = nI (wK w) ∧ XM 10 0 = nI (wnS w) ∧ XM 11 0 = nI (wnP w) ∧ (∀ i, i < wK w → XM 12 i = nI (w.2 0 i) ∧ XM 13 i = nI (w.2 1 i) ∧ XM 14 i = nI (wln w i) ∧ XM 15 i = nI (wkd w i) ∧ XM 16 i = nI (wfg w i) ∧ XM 17 i = nI (wsn w i) ∧ XM 18 i = nI (wpg w i))
/-- the class of a word -/
def wcl (w : WS) (i : Nat) : Nat := if wln w i ≤ 4 then 0 else if wln w i ≤ 8 then 1 else 2
/-- the settings: ranges -/
def VT (t : Nat → Nat) : Prop := 1 ≤ t 0 ∧ t 0 ≤ 50 ∧ 1 ≤ t 1 ∧ t 1 ≤ 10 ∧ 100 ≤ t 2 ∧ t 2 ≤ 400 ∧ 100 ≤ t 3 ∧ t 3 ≤ 400 ∧ 100 ≤ t 4 ∧ t 4 ≤ 300 ∧ t 5 ≤ 50 ∧ t 6 ≤ 20
def wms (w : WS) (t : Nat → Nat) (i : Nat) : Nat := max (if wln w i ≤ 10 then wln w i else wln w i - (wln w i - 9) / 2) (t 1)
def wpc (w : WS) (t : Nat → Nat) (i : Nat) : Nat := if wfg w i = 1 then (if wkd w i = 1 then t 2 else if wkd w i = 2 then t 3 else 100) * t 4 / 100 else (if wkd w i = 1 then t 2 else if wkd w i = 2 then t 3 else 100)
/-- the time of a word at a speed -/
def wtm (w : WS) (t : Nat → Nat) (i v : Nat) : Nat := if wkd w i = 3 then 0 else (wms w t i * t 0 * wpc w t i + v - 1) / v
theorem wms_le {w : WS} {t : Nat → Nat} {i : Nat} (hv : VS w) (ht : VT t) (hi : i < wK w) : 1 ≤ wms w t i ∧ wms w t i ≤ 155 := by
  have h1 := (hv.2.1 i hi).2.2.1
  obtain ⟨-, -, h2, h3, -⟩ := ht
  unfold wms
  by_cases c : wln w i ≤ 10
  · rw [if_pos c]; omega
  · rw [if_neg c]; omega
theorem wpc_le {w : WS} {t : Nat → Nat} {i : Nat} (ht : VT t) : 1 ≤ wpc w t i ∧ wpc w t i ≤ 1200 := by
  obtain ⟨-, -, -, -, h1, h2, h3, h4, h5, h6, -⟩ := ht
  unfold wpc
  have hq : ∀ q, 100 ≤ q → q ≤ 400 → 1 ≤ q * t 4 / 100 ∧ q * t 4 / 100 ≤ 1200 := by
    intro q a b
    have e1 : 100 * 100 ≤ q * t 4 := Nat.mul_le_mul a h5
    have e2 : q * t 4 ≤ 400 * 300 := Nat.mul_le_mul b h6
    omega
  by_cases c : wfg w i = 1
  · rw [if_pos c]
    by_cases c1 : wkd w i = 1
    · rw [if_pos c1]; exact hq _ h1 h2
    · rw [if_neg c1]
      by_cases c2 : wkd w i = 2
      · rw [if_pos c2]; exact hq _ h3 h4
      · rw [if_neg c2]; exact hq _ (by omega) (by omega)
  · rw [if_neg c]
    by_cases c1 : wkd w i = 1
    · rw [if_pos c1]; omega
    · rw [if_neg c1]
      by_cases c2 : wkd w i = 2
      · rw [if_pos c2]; omega
      · rw [if_neg c2]; omega
theorem wpr_le {w : WS} {t : Nat → Nat} {i : Nat} (hv : VS w) (ht : VT t) (hi : i < wK w) : 1 ≤ wms w t i * t 0 * wpc w t i ∧ wms w t i * t 0 ≤ 7750 ∧ wms w t i * t 0 * wpc w t i ≤ 9300000 := by
  obtain ⟨a1, a2⟩ := wms_le hv ht hi
  obtain ⟨b1, b2⟩ := wpc_le (w := w) (i := i) ht
  obtain ⟨h1, h2, -⟩ := ht
  have e1 : wms w t i * t 0 ≤ 155 * 50 := Nat.mul_le_mul a2 h2
  have e2 : 1 * 1 ≤ wms w t i * t 0 := Nat.mul_le_mul a1 h1
  have e3 : wms w t i * t 0 * wpc w t i ≤ 7750 * 1200 := Nat.mul_le_mul e1 b2
  have e4 : 1 * 1 ≤ wms w t i * t 0 * wpc w t i := Nat.mul_le_mul e2 b1
  omega
