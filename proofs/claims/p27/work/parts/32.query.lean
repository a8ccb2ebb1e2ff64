/-! searches -/
def fst (p : Nat → Bool) : Nat → Nat → Nat
  | 0, i => i
  | k + 1, i => if p i = true then i else fst p k (i + 1)
theorem fst_spec (p : Nat → Bool) : ∀ (k i : Nat), i ≤ fst p k i ∧ fst p k i ≤ i + k ∧ (fst p k i < i + k → p (fst p k i) = true) ∧ ∀ j, i ≤ j → j < fst p k i → p j = false := by
  intro k
  induction k with
  | zero => intro i; exact ⟨Nat.le_refl _, Nat.le_refl _, fun h => absurd h (Nat.lt_irrefl _), fun j h1 h2 => by unfold fst at h2; omega⟩
  | succ k ih =>
    intro i
    unfold fst
    by_cases c : p i = true
    · rw [if_pos c]
      exact ⟨Nat.le_refl _, by omega, fun _ => c, fun j h1 h2 => by omega⟩
    · rw [if_neg c]
      obtain ⟨h1, h2, h3, h4⟩ := ih (i + 1)
      refine ⟨by omega, by omega, fun h => h3 (by omega), fun j h5 h6 => ?_⟩
      by_cases e : j = i
      · subst e; simpa using c
      · exact h4 j (by omega) h6
theorem fst_is (p : Nat → Bool) {k i r : Nat} (h1 : i ≤ r) (h2 : r ≤ i + k) (h3 : r < i + k → p r = true) (h4 : ∀ j, i ≤ j → j < r → p j = false) : fst p k i = r := by
  obtain ⟨a1, a2, a3, a4⟩ := fst_spec p k i
  rcases Nat.lt_trichotomy (fst p k i) r with h | h | h
  · have := a3 (by omega)
    rw [h4 _ a1 h] at this
    cases this
  · exact h
  · have := h3 (by omega)
    rw [a4 _ h1 h] at this
    cases this
/-- a word's number, or -1 -/
def oI (K j : Nat) : Int32 := if j < K then nI j else -1
theorem oI_lt {K j : Nat} (h : j < K) : oI K j = nI j := if_pos h
theorem oI_ge {K j : Nat} (h : ¬ j < K) : oI K j = -1 := if_neg h
theorem oI_m1 {K j : Nat} (hK : K ≤ 150) : oI K j = -1 ↔ ¬ j < K := by
  unfold oI
  by_cases c : j < K
  · rw [if_pos c]; exact ⟨fun e => absurd e (nI_ne_m1 (by omega)), fun e => absurd c e⟩
  · rw [if_neg c]; exact ⟨fun _ => c, fun _ => rfl⟩
def shp (w : WS) : Nat → Bool := fun j => decide (¬ wkd w j = 3)
/-- the first shown word from i on, or how many words there are -/
def nx (w : WS) (i : Nat) : Nat := fst (shp w) (wK w - i) i
theorem nx_spec (w : WS) {i : Nat} (hi : i ≤ wK w) : i ≤ nx w i ∧ nx w i ≤ wK w ∧ (nx w i < wK w → ¬ wkd w (nx w i) = 3) ∧ ∀ j, i ≤ j → j < nx w i → wkd w j = 3 := by
  obtain ⟨h1, h2, h3, h4⟩ := fst_spec (shp w) (wK w - i) i
  refine ⟨h1, ?_, fun h => ?_, fun j a b => ?_⟩
  · unfold nx; omega
  · have := h3 (by unfold nx at h; omega)
    simpa [shp, nx] using this
  · have := h4 j a b
    simpa [shp] using this
theorem shownBehind_L {w : WS} {XW XP XQ : DM} (hW : PW w XW XP XQ) (hv : VS w) (n : Nat) : ∀ (k i : Nat), i + k = wK w → ∀ fu, k < fu → fX4_shownBehind_L4 n XW fu (nI i) = some (oI (wK w) (fst (shp w) k i)) := by
  have hk := hv.1
  intro k
  induction k with
  | zero =>
    intro i hi fu hf
    obtain ⟨fu, rfl⟩ : ∃ z, fu = z + 1 := ⟨fu - 1, by omega⟩
    unfold fX4_shownBehind_L4
    rw [hW.1, if_pos (nI_le (by omega) (by omega))]
    unfold fst
    rw [oI_ge (by omega)]
  | succ k ih =>
    intro i hi fu hf
    obtain ⟨fu, rfl⟩ : ∃ z, fu = z + 1 := ⟨fu - 1, by omega⟩
    unfold fX4_shownBehind_L4 fst
    rw [hW.1, if_neg (nI_ge (by omega) (by omega)), isMark_ok hW hv (by omega), bnd_s]
    by_cases c : wkd w i = 3
    · rw [if_pos c, if_neg (by decide), if_neg (by simp [shp, c]), sl_s, nI_1]
      exact ih (i + 1) (by omega) fu (by omega)
    · rw [if_neg c, if_pos rfl, if_pos (by simp [shp, c]), oI_lt (by omega)]
theorem shownBehind_ok {w : WS} {XW XP XQ : DM} (hW : PW w XW XP XQ) (hv : VS w) {n : Nat} (hn : 200 ≤ n) {i : Nat} (hi : i < wK w) : fX4_shownBehind n XW (nI i) = some (oI (wK w) (nx w (i + 1))) := by
  have hk := hv.1
  unfold fX4_shownBehind
  rw [sl_s, nI_1]
  exact shownBehind_L hW hv n (wK w - (i + 1)) (i + 1) (by omega) n (by omega)
theorem shownBehind_m1 {w : WS} {XW XP XQ : DM} (hW : PW w XW XP XQ) (hv : VS w) {n : Nat} (hn : 200 ≤ n) : fX4_shownBehind n XW (-1) = some (oI (wK w) (nx w 0)) := by
  have hk := hv.1
  unfold fX4_shownBehind
  rw [sl_s, show (-1 : Int32) + 1 = nI 0 from rfl]
  exact shownBehind_L hW hv n (wK w) 0 (by omega) n (by omega)
theorem sn_mono {w : WS} (hv : VS w) {i j : Nat} (h : i ≤ j) : wsn w i ≤ wsn w j := by
  induction j with
  | zero => have : i = 0 := by omega
            subst this; exact Nat.le_refl _
  | succ j ih =>
    by_cases e : i = j + 1
    · subst e; exact Nat.le_refl _
    · have h1 := ih (by omega)
      have h2 := hv.2.2.2.2.1 j
      omega
theorem pg_mono {w : WS} (hv : VS w) {i j : Nat} (h : i ≤ j) : wpg w i ≤ wpg w j := by
  induction j with
  | zero => have : i = 0 := by omega
            subst this; exact Nat.le_refl _
  | succ j ih =>
    by_cases e : i = j + 1
    · subst e; exact Nat.le_refl _
    · have h1 := ih (by omega)
      have h2 := hv.2.2.2.2.2 j
      omega
theorem sn_le {w : WS} (hv : VS w) (i : Nat) : wsn w i ≤ i := by
  induction i with
  | zero => rw [hv.2.2.1]; omega
  | succ i ih => rw [hv.2.2.2.2.1]; by_cases c : 1 < wkd w i
                 · rw [if_pos c]; omega
                 · rw [if_neg c]; omega
theorem pg_le {w : WS} (hv : VS w) (i : Nat) : wpg w i ≤ i := by
  induction i with
  | zero => rw [hv.2.2.2.1]; omega
  | succ i ih => rw [hv.2.2.2.2.2]; by_cases c : wkd w i = 3
                 · rw [if_pos c]; omega
                 · rw [if_neg c]; omega
theorem endsAheadOf_ok {w : WS} {XW XP XQ : DM} (hW : PW w XW XP XQ) (hv : VS w) {i j : Nat} (hi : i < wK w) : fX4_endsAheadOf XW XP (oI (wK w) j) (nI i) = some (if j < wK w ∧ wsn w j = wsn w i then 0 else 1) := by
  have hk := hv.1
  have h1 := sn_le hv i
  have h2 := sn_le hv j
  unfold fX4_endsAheadOf
  by_cases c : j < wK w
  · rw [oI_lt c, if_neg (nI_ne_m1 (by omega)), at_in _ (by omega) (by omega), bnd_s, at_in _ (by omega) (by omega), bnd_s, hW.2.2.1.2.1 j c, hW.2.2.1.2.1 i hi]
    by_cases e : wsn w j = wsn w i
    · rw [if_pos (by rw [e]), if_pos ⟨c, e⟩]
    · rw [if_neg (fun q => e ((nI_eq (by omega) (by omega)).mp q)), if_neg (fun q => e q.2)]
  · rw [oI_ge c, if_pos rfl, if_neg (fun q => c q.1)]
/-- is there one of k from a on? -/
def anyN (p : Nat → Bool) : Nat → Nat → Bool
  | 0, _ => false
  | k + 1, a => p a || anyN p k (a + 1)
theorem anyN_iff (p : Nat → Bool) : ∀ (k a : Nat), anyN p k a = true ↔ ∃ j, a ≤ j ∧ j < a + k ∧ p j = true := by
  intro k
  induction k with
  | zero => intro a; exact ⟨fun h => (by cases h), fun ⟨j, h1, h2, _⟩ => (by omega)⟩
  | succ k ih =>
    intro a
    simp only [anyN, Bool.or_eq_true]
    rw [ih (a + 1)]
    constructor
    · rintro (h | ⟨j, h1, h2, h3⟩)
      · exact ⟨a, Nat.le_refl _, by omega, h⟩
      · exact ⟨j, by omega, by omega, h3⟩
    · rintro ⟨j, h1, h2, h3⟩
      by_cases e : j = a
      · subst e; exact Or.inl h3
      · exact Or.inr ⟨j, by omega, by omega, h3⟩
def clp (w : WS) (c : Nat) : Nat → Bool := fun j => decide (¬ wkd w j = 3 ∧ wcl w j = c)
theorem hasClass_L {w : WS} {XW XP XQ : DM} (hW : PW w XW XP XQ) (hv : VS w) (n : Nat) {c b : Nat} (hc : c ≤ 2) (hb : b < wK w) : ∀ (k a : Nat), a + k = b + 1 → ∀ fu, k < fu → fX4_hasClassAmong_L3 n XW fu (nI c) (nI b) (nI a) = some (if anyN (clp w c) k a = true then 1 else 0) := by
  have hk := hv.1
  intro k
  induction k with
  | zero =>
    intro a ha fu hf
    obtain ⟨fu, rfl⟩ : ∃ z, fu = z + 1 := ⟨fu - 1, by omega⟩
    unfold fX4_hasClassAmong_L3
    rw [if_pos (nI_lt (by omega) (by omega))]
    simp [anyN]
  | succ k ih =>
    intro a ha fu hf
    obtain ⟨fu, rfl⟩ : ∃ z, fu = z + 1 := ⟨fu - 1, by omega⟩
    have hcl := wcl_le w a
    unfold fX4_hasClassAmong_L3
    rw [if_neg (nI_nlt (by omega) (by omega)), isMark_ok hW hv (by omega), bnd_s]
    simp only [sl_s, nI_1]
    have ih := ih (a + 1) (by omega) fu (by omega)
    by_cases c3 : wkd w a = 3
    · rw [if_pos c3, if_neg (by decide), ih]
      simp [anyN, clp, c3]
    · rw [if_neg c3, if_pos rfl, classOf_ok hW hv (by omega), bnd_s]
      by_cases cc : wcl w a = c
      · rw [if_pos (by rw [cc])]
        simp [anyN, clp, c3, cc]
      · rw [if_neg (fun e => cc ((nI_eq (by omega) (by omega)).mp e)), ih]
        simp [anyN, clp, c3, cc]
theorem hasClassAmong_ok {w : WS} {XW XP XQ : DM} (hW : PW w XW XP XQ) (hv : VS w) {n : Nat} (hn : 200 ≤ n) {c a b : Nat} (hc : c ≤ 2) (hb : b < wK w) (hab : a ≤ b) : fX4_hasClassAmong n XW (nI c) (nI a) (nI b) = some (if anyN (clp w c) (b + 1 - a) a = true then 1 else 0) := by
  have hk := hv.1
  unfold fX4_hasClassAmong
  exact hasClass_L hW hv n hc hb (b + 1 - a) a (by omega) n (by omega)
/-! sentences: their first words -/
def fsp (w : WS) (s : Nat) : Nat := fst (fun j => decide (wsn w j = s)) (wK w) 0
def fsh (w : WS) (s : Nat) : Nat := fst (fun j => decide (wsn w j = s ∧ ¬ wkd w j = 3)) (wK w) 0
theorem sn_ex {w : WS} (hv : VS w) {s : Nat} (hs : s < wnS w) : ∃ i, i < wK w ∧ wsn w i = s := by
  unfold wnS at hs
  by_cases c : wK w = 0
  · rw [if_pos c] at hs; omega
  · rw [if_neg c] at hs
    have key : ∀ m, m < wK w → s ≤ wsn w m → ∃ i, i ≤ m ∧ wsn w i = s := by
      intro m
      induction m with
      | zero => intro _ h; rw [hv.2.2.1] at h; exact ⟨0, Nat.le_refl _, by rw [hv.2.2.1]; omega⟩
      | succ m ih =>
        intro hm h
        have h2 := hv.2.2.2.2.1 m
        by_cases e : wsn w (m + 1) = s
        · exact ⟨m + 1, Nat.le_refl _, e⟩
        · have : s ≤ wsn w m := by
            by_cases c2 : 1 < wkd w m
            · rw [if_pos c2] at h2; omega
            · rw [if_neg c2] at h2; omega
          obtain ⟨i, h3, h4⟩ := ih (by omega) this
          exact ⟨i, by omega, h4⟩
    obtain ⟨i, h1, h2⟩ := key (wK w - 1) (by omega) (by omega)
    exact ⟨i, by omega, h2⟩
theorem fsp_spec {w : WS} (hv : VS w) {s : Nat} (hs : s < wnS w) : fsp w s < wK w ∧ wsn w (fsp w s) = s ∧ ∀ j, j < fsp w s → wsn w j < s := by
  obtain ⟨h1, h2, h3, h4⟩ := fst_spec (fun j => decide (wsn w j = s)) (wK w) 0
  obtain ⟨i, hi, he⟩ := sn_ex hv hs
  have hlt : fsp w s < wK w := by
    by_cases c : fsp w s < wK w
    · exact c
    · have := h4 i (by omega) (by unfold fsp at c; omega)
      simp [he] at this
  have heq : wsn w (fsp w s) = s := by
    have := h3 (by unfold fsp at hlt; omega)
    simpa [fsp] using this
  refine ⟨hlt, heq, fun j hj => ?_⟩
  have := h4 j (by omega) hj
  have hne : ¬ wsn w j = s := by simpa using this
  have hm := sn_mono hv (show j ≤ fsp w s by omega)
  omega
/-- the first word of a word's sentence -/
theorem fsp_le {w : WS} (hv : VS w) {i : Nat} (hi : i < wK w) : fsp w (wsn w i) ≤ i := by
  obtain ⟨h1, h2, h3, h4⟩ := fst_spec (fun j => decide (wsn w j = wsn w i)) (wK w) 0
  by_cases c : fsp w (wsn w i) ≤ i
  · exact c
  · have := h4 i (by omega) (by unfold fsp at c; omega)
    simp at this
theorem sn_nS {w : WS} (hv : VS w) {i : Nat} (hi : i < wK w) : wsn w i < wnS w := by
  unfold wnS
  rw [if_neg (by omega)]
  have := sn_mono hv (show i ≤ wK w - 1 by omega)
  omega
theorem nS_le {w : WS} (hv : VS w) : wnS w ≤ 150 := by
  have hk := hv.1
  unfold wnS
  by_cases c : wK w = 0
  · rw [if_pos c]; omega
  · rw [if_neg c]
    have := sn_le hv (wK w - 1)
    omega
theorem nP_le {w : WS} (hv : VS w) : wnP w ≤ 150 := by
  have hk := hv.1
  unfold wnP
  by_cases c : wK w = 0
  · rw [if_pos c]; omega
  · rw [if_neg c]
    have := pg_le hv (wK w - 1)
    omega
theorem firsts_ok {w : WS} {XW XP XQ : DM} (hW : PW w XW XP XQ) (hv : VS w) {s : Nat} (hs : s < wnS w) : XP 0 s = nI (fsp w s) := by
  obtain ⟨h1, h2, h3⟩ := fsp_spec hv hs
  have := hW.2.2.1.2.2.1 (fsp w s) h1 (by
    by_cases c : fsp w s = 0
    · exact Or.inl c
    · right
      have := h3 (fsp w s - 1) (by omega)
      omega)
  rw [h2] at this
  exact this
theorem fsh_eq {w : WS} (hv : VS w) {s : Nat} (hs : s < wnS w) : fsh w s = if wkd w (fsp w s) = 3 then wK w else fsp w s := by
  obtain ⟨h1, h2, h3⟩ := fsp_spec hv hs
  by_cases c : wkd w (fsp w s) = 3
  · rw [if_pos c]
    refine fst_is _ (by omega) (by omega) (fun h => by omega) (fun j _ hj => ?_)
    by_cases e : wsn w j = s
    · by_cases hlt : j < fsp w s
      · have := h3 j hlt; omega
      · by_cases hje : j = fsp w s
        · subst hje; simp [c]
        · have hm := sn_mono hv (show fsp w s + 1 ≤ j by omega)
          have h5 := hv.2.2.2.2.1 (fsp w s)
          rw [if_pos (by omega)] at h5
          omega
    · simp [e]
  · rw [if_neg c]
    refine fst_is _ (by omega) (by omega) (fun _ => by simp [h2, c]) (fun j _ hj => ?_)
    have := h3 j hj
    simp only [decide_eq_false_iff_not]
    omega
/-- the first word of the last sentence ahead of number s that has a shown word -/
def pvs (w : WS) : Nat → Nat
  | 0 => wK w
  | s + 1 => if fsh w s < wK w then fsh w s else pvs w s
theorem firstBefore_L {w : WS} {XW XP XQ : DM} (hW : PW w XW XP XQ) (hv : VS w) (n : Nat) : ∀ (s : Nat), s ≤ wnS w → ∀ fu, s < fu → fX4_firstBeforeSentence_L4 n XW XP fu (nI s - 1) = some (oI (wK w) (pvs w s)) := by
  have hk := hv.1
  have hn := nS_le hv
  intro s
  induction s with
  | zero =>
    intro hs fu hf
    obtain ⟨fu, rfl⟩ : ∃ z, fu = z + 1 := ⟨fu - 1, by omega⟩
    unfold fX4_firstBeforeSentence_L4
    rw [if_pos (by decide)]
    unfold pvs
    rw [oI_ge (by omega)]
  | succ s ih =>
    intro hs fu hf
    obtain ⟨fu, rfl⟩ : ∃ z, fu = z + 1 := ⟨fu - 1, by omega⟩
    obtain ⟨h1, h2, h3⟩ := fsp_spec hv (show s < wnS w by omega)
    unfold fX4_firstBeforeSentence_L4 pvs
    rw [nI_pred, if_neg (nI_pos (by omega)), at_in _ (by omega) (by omega), bnd_s, firsts_ok hW hv (by omega), isMark_ok hW hv h1, bnd_s, fsh_eq hv (by omega)]
    by_cases c : wkd w (fsp w s) = 3
    · rw [if_pos c, if_pos c, if_neg (by decide), if_neg (Nat.lt_irrefl _), sl_s, show nI s + (-1) = nI s - 1 from (Int32.sub_eq_add_neg _ _).symm]
      exact ih (by omega) fu (by omega)
    · rw [if_neg c, if_neg c, if_pos rfl, if_pos h1, oI_lt h1]
theorem firstBefore_ok {w : WS} {XW XP XQ : DM} (hW : PW w XW XP XQ) (hv : VS w) {n : Nat} (hn : 200 ≤ n) {s : Nat} (hs : s ≤ wnS w) : fX4_firstBeforeSentence n XW XP (nI s) = some (oI (wK w) (pvs w s)) := by
  have := nS_le hv
  unfold fX4_firstBeforeSentence
  rw [sl_s]
  exact firstBefore_L hW hv n s hs n (by omega)
/-! the reference's searches -/
theorem m_firstOf_L {w : WS} {XM : DM} (hM : PM w XM) (hv : VS w) (n : Nat) {s : Nat} (hs : s < 2 ^ 31) : ∀ (k i : Nat), i + k = wK w → ∀ fu, k < fu → fX6_firstOf_L2 n XM fu (nI s) (nI i) = some (oI (wK w) (fst (fun j => decide (wsn w j = s ∧ ¬ wkd w j = 3)) k i)) := by
  have hk := hv.1
  intro k
  induction k with
  | zero =>
    intro i hi fu hf
    obtain ⟨fu, rfl⟩ : ∃ z, fu = z + 1 := ⟨fu - 1, by omega⟩
    unfold fX6_firstOf_L2 fst
    rw [hM.1, if_pos (nI_le (by omega) (by omega)), oI_ge (by omega)]
  | succ k ih =>
    intro i hi fu hf
    obtain ⟨fu, rfl⟩ : ∃ z, fu = z + 1 := ⟨fu - 1, by omega⟩
    have h1 := sn_le hv i
    unfold fX6_firstOf_L2 fst
    rw [hM.1, if_neg (nI_ge (by omega) (by omega)), rd_in _ (by omega) (by omega), bnd_s, (hM.2.2.2 i (by omega)).2.2.2.2.2.1]
    simp only [sl_s, nI_1]
    have ih := ih (i + 1) (by omega) fu (by omega)
    by_cases e : wsn w i = s
    · rw [if_pos (by rw [e]), m_isShown hM hv (by omega), bnd_s]
      by_cases c : wkd w i = 3
      · rw [if_pos c, if_pos rfl, ih, if_neg (by simp [c])]
      · rw [if_neg c, if_neg (by decide), if_pos (by simp [e, c]), oI_lt (by omega)]
    · rw [if_neg (fun q => e ((nI_eq (by omega) (by omega)).mp q)), ih, if_neg (by simp [e])]
theorem m_firstOf {w : WS} {XM : DM} (hM : PM w XM) (hv : VS w) {n : Nat} (hn : 200 ≤ n) {s : Nat} (hs : s < 2 ^ 31) : fX6_firstOf n XM (nI s) = some (oI (wK w) (fsh w s)) := by
  have hk := hv.1
  unfold fX6_firstOf
  exact m_firstOf_L hM hv n hs (wK w) 0 (by omega) n (by omega)
theorem m_firstShown_L {w : WS} {XM : DM} (hM : PM w XM) (hv : VS w) (n : Nat) : ∀ (k i : Nat), i + k = wK w → ∀ fu, k < fu → fX6_firstShown_L2 n XM fu (nI i) = some (oI (wK w) (fst (shp w) k i)) := by
  have hk := hv.1
  intro k
  induction k with
  | zero =>
    intro i hi fu hf
    obtain ⟨fu, rfl⟩ : ∃ z, fu = z + 1 := ⟨fu - 1, by omega⟩
    unfold fX6_firstShown_L2 fst
    rw [hM.1, if_pos (nI_le (by omega) (by omega)), oI_ge (by omega)]
  | succ k ih =>
    intro i hi fu hf
    obtain ⟨fu, rfl⟩ : ∃ z, fu = z + 1 := ⟨fu - 1, by omega⟩
    unfold fX6_firstShown_L2 fst
    rw [hM.1, if_neg (nI_ge (by omega) (by omega)), m_isShown hM hv (by omega), bnd_s]
    by_cases c : wkd w i = 3
    · rw [if_pos c, if_pos rfl, if_neg (by simp [shp, c]), sl_s, nI_1]
      exact ih (i + 1) (by omega) fu (by omega)
    · rw [if_neg c, if_neg (by decide), if_pos (by simp [shp, c]), oI_lt (by omega)]
theorem m_firstShown {w : WS} {XM : DM} (hM : PM w XM) (hv : VS w) {n : Nat} (hn : 200 ≤ n) : fX6_firstShown n XM = some (oI (wK w) (nx w 0)) := by
  have hk := hv.1
  unfold fX6_firstShown
  exact m_firstShown_L hM hv n (wK w) 0 (by omega) n (by omega)
