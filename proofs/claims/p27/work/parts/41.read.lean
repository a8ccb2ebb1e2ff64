/-! the words of a text: the class -/
abbrev lg (l : List (Nat × Nat)) (i : Nat) : Nat × Nat := l.getD i (0, 0)
def acN (p : Nat → Nat) : Nat → Nat
  | 0 => 0
  | i + 1 => acN p i + p i
def wsL (T : Nat → Int32) (l : List (Nat × Nat)) : WS := (l.length, fun k i => if k = 0 then (lg l i).1 else if k = 1 then (lg l i).2 else if k = 2 then ltn T (lg l i).1 (lg l i).2 else if k = 3 then kdN T (lg l i).1 (lg l i).2 else if k = 4 then fgn T (lg l i).1 (lg l i).2 else if k = 5 then spN T (lg l i).1 (lg l i).2 else if k = 6 then acN (fun j => if 1 < kdN T (lg l j).1 (lg l j).2 then 1 else 0) i else acN (fun j => if kdN T (lg l j).1 (lg l j).2 = 3 then 1 else 0) i)
def scn (T : Nat → Int32) (L : Nat) : Nat → Nat → Nat → List (Nat × Nat)
  | 0, _, _ => []
  | k + 1, s, i => if i = L ∨ T i = 32 then (if s < i then (s, i - s) :: scn T L k (i + 1) (i + 1) else scn T L k (i + 1) (i + 1)) else scn T L k s (i + 1)
def wsOf (T : Nat → Int32) (L : Nat) : WS := wsL T (scn T L (L + 1) 0 0)
theorem scn_len (T : Nat → Int32) (L : Nat) : ∀ (k s i : Nat), s ≤ i → 2 * (scn T L k s i).length ≤ k + (if s < i then 1 else 0) := by
  intro k
  induction k with
  | zero => intro s i h; unfold scn; simp
  | succ k ih =>
    intro s i h
    unfold scn
    have h1 := ih (i + 1) (i + 1) (Nat.le_refl _)
    have h2 := ih s (i + 1) (by omega)
    rw [if_neg (Nat.lt_irrefl _)] at h1
    rw [if_pos (by omega)] at h2
    by_cases c : i = L ∨ T i = 32
    · rw [if_pos c]
      by_cases z : s < i
      · rw [if_pos z, if_pos z, List.length_cons]; omega
      · rw [if_neg z, if_neg z]; omega
    · rw [if_neg c]; omega
theorem scn_in (T : Nat → Int32) (L : Nat) : ∀ (k s i : Nat), i + k = L + 1 → s ≤ i → ∀ x, x ∈ scn T L k s i → 1 ≤ x.2 ∧ x.1 + x.2 ≤ L := by
  intro k
  induction k with
  | zero => intro s i _ _ x hx; unfold scn at hx; cases hx
  | succ k ih =>
    intro s i hk h x hx
    unfold scn at hx
    by_cases c : i = L ∨ T i = 32
    · rw [if_pos c] at hx
      by_cases z : s < i
      · rw [if_pos z] at hx
        rcases List.mem_cons.mp hx with rfl | hx
        · exact ⟨by simp only; omega, by simp only; omega⟩
        · exact ih _ _ (by omega) (Nat.le_refl _) x hx
      · rw [if_neg z] at hx
        exact ih _ _ (by omega) (Nat.le_refl _) x hx
    · rw [if_neg c] at hx
      exact ih _ _ (by omega) (by omega) x hx
theorem lg_in {l : List (Nat × Nat)} {i : Nat} (h : i < l.length) : lg l i ∈ l := by
  have : lg l i = l[i] := by simp [lg, List.getD, h]
  rw [this]
  exact List.getElem_mem h
theorem lg_l {l : List (Nat × Nat)} (x : Nat × Nat) {i : Nat} (h : i < l.length) : lg (l ++ [x]) i = lg l i := by
  simp [lg, List.getD, List.getElem?_append_left h]
theorem lg_r {l : List (Nat × Nat)} (x : Nat × Nat) : lg (l ++ [x]) l.length = x := by
  simp [lg, List.getD]
theorem wsOf_VS {T : Nat → Int32} {L : Nat} (hL : L ≤ 300) : VS (wsOf T L) := by
  have h1 := scn_len T L (L + 1) 0 0 (Nat.le_refl _)
  have h2 := scn_in T L (L + 1) 0 0 (by omega) (Nat.le_refl _)
  rw [if_neg (Nat.lt_irrefl _)] at h1
  unfold wsOf
  generalize scn T L (L + 1) 0 0 = l at h1 h2
  refine ⟨by show l.length ≤ 150; omega, fun i hi => ?_, rfl, rfl, fun i => rfl, fun i => rfl⟩
  obtain ⟨a, b⟩ := h2 _ (lg_in (show i < l.length from hi))
  have c1 := ltn_le T (lg l i).1 (lg l i).2
  have c2 := kdN_le T (lg l i).1 (lg l i).2
  have c3 := fgn_le T (lg l i).1 (lg l i).2
  have c4 := spN_le T (lg l i).1 (lg l i).2
  exact ⟨show (lg l i).1 ≤ 300 by omega, show (lg l i).2 ≤ 300 by omega, show ltn T (lg l i).1 (lg l i).2 ≤ 300 by omega, c2, c3, show spN T (lg l i).1 (lg l i).2 ≤ 300 by omega⟩
def HC (T : Nat → Int32) (l : List (Nat × Nat)) (XW : DM) : Prop := XW 8 0 = nI l.length ∧ ∀ i, i < l.length → XW 0 i = nI (lg l i).1 ∧ XW 1 i = nI (lg l i).2 ∧ XW 2 i = nI (ltn T (lg l i).1 (lg l i).2) ∧ XW 3 i = nI (kdN T (lg l i).1 (lg l i).2) ∧ XW 4 i = nI (fgn T (lg l i).1 (lg l i).2) ∧ XW 5 i = spI (spN T (lg l i).1 (lg l i).2)
theorem c_read_L {fr T : Nat → Int32} {L : Nat} (hL : L ≤ 300) (hf : ∀ i, i < L → fr i = T i) {n : Nat} (hn : 400 ≤ n) (kk : DM → DM → DM → Option (DM × DM × DM)) (XP XQ : DM) : ∀ (k s i : Nat), i + k = L + 1 → s ≤ i → ∀ (l : List (Nat × Nat)) (XW : DM), HC T l XW → (l ++ scn T L k s i).length ≤ 150 → ∀ fu, k < fu → ∃ XW' : DM, fX4_read_L10 n 300 fr kk fu (nI L) (nI s) (nI i) XW XP XQ = kk XW' XP XQ ∧ HC T (l ++ scn T L k s i) XW' := by
  intro k
  induction k with
  | zero =>
    intro s i hi hs l XW h _ fu hfu
    obtain ⟨fu, rfl⟩ : ∃ z, fu = z + 1 := ⟨fu - 1, by omega⟩
    unfold fX4_read_L10 scn
    rw [if_pos (nI_lt (by omega) (by omega)), List.append_nil]
    exact ⟨XW, rfl, h⟩
  | succ k ih =>
    intro s i hi hs l XW h hlen fu hfu
    obtain ⟨fu, rfl⟩ : ∃ z, fu = z + 1 := ⟨fu - 1, by omega⟩
    unfold fX4_read_L10
    rw [if_neg (nI_nlt (by omega) (by omega))]
    simp only [sl_s, nI_1]
    -- the end of a run
    have stop : (i = L ∨ T i = 32) → ∃ XW' : DM, (if nI i ≤ nI s then fX4_read_L10 n 300 fr kk fu (nI L) (nI (i + 1)) (nI (i + 1)) XW XP XQ else bnd (fX4_add n 300 fr XW (nI s) (nI i)) fun X13 => fX4_read_L10 n 300 fr kk fu (nI L) (nI (i + 1)) (nI (i + 1)) X13 XP XQ) = kk XW' XP XQ ∧ HC T (l ++ scn T L (k + 1) s i) XW' := by
      intro c
      unfold scn at hlen ⊢
      rw [if_pos c] at hlen ⊢
      by_cases z : s < i
      · rw [if_pos z] at hlen ⊢
        rw [List.append_cons] at hlen ⊢
        have hl1 : l.length < 150 := by
          simp only [List.length_append, List.length_cons, List.length_nil] at hlen
          omega
        obtain ⟨X1, a1, a2, a3, a4, a5, a6, a7, a8, a9⟩ := c_add hL hf (s := s) (m := i - s) (by omega) (by omega) hn XW hl1 h.1
        rw [show s + (i - s) = i by omega] at a1
        rw [if_neg (fun e => by rw [nI_leI (by omega) (by omega)] at e; omega), a1, bnd_s]
        refine ih (i + 1) (i + 1) (by omega) (Nat.le_refl _) (l ++ [(s, i - s)]) X1 ⟨by rw [a2, List.length_append]; rfl, fun q hq => ?_⟩ hlen fu (by omega)
        by_cases y : q < l.length
        · obtain ⟨b1, b2, b3, b4, b5, b6⟩ := h.2 q y
          rw [lg_l _ y, a9 0 (by omega) q (by omega), a9 1 (by omega) q (by omega), a9 2 (by omega) q (by omega), a9 3 (by omega) q (by omega), a9 4 (by omega) q (by omega), a9 5 (by omega) q (by omega)]
          exact ⟨b1, b2, b3, b4, b5, b6⟩
        · rw [List.length_append] at hq
          have : q = l.length := by simp only [List.length_cons, List.length_nil] at hq; omega
          subst this
          rw [lg_r]
          exact ⟨a3, a4, a5, a6, a7, a8⟩
      · rw [if_neg z] at hlen ⊢
        rw [if_pos (nI_le (by omega) (by omega))]
        exact ih (i + 1) (i + 1) (by omega) (Nat.le_refl _) l XW h hlen fu (by omega)
    by_cases c1 : i = L
    · rw [if_pos (by rw [c1])]
      exact stop (Or.inl c1)
    · rw [if_neg (fun e => c1 ((nI_eq (by omega) (by omega)).mp e)), at_in _ (by omega) (by omega), bnd_s, hf _ (by omega)]
      by_cases c2 : T i = 32
      · rw [if_pos c2]
        exact stop (Or.inr c2)
      · rw [if_neg c2]
        unfold scn at hlen ⊢
        rw [if_neg (fun q => q.elim c1 c2)] at hlen ⊢
        exact ih s (i + 1) (by omega) (by omega) l XW h hlen fu (by omega)
/-! stretches -/
theorem acN_mono (p : Nat → Nat) {i j : Nat} (h : i ≤ j) : acN p i ≤ acN p j := by
  induction j with
  | zero => have : i = 0 := by omega
            subst this; exact Nat.le_refl _
  | succ j ih =>
    by_cases e : i = j + 1
    · subst e; exact Nat.le_refl _
    · have := ih (by omega)
      show acN p i ≤ acN p j + p j
      omega
theorem acN_le (p : Nat → Nat) (hp : ∀ i, p i ≤ 1) (i : Nat) : acN p i ≤ i := by
  induction i with
  | zero => exact Nat.le_refl _
  | succ i ih => have := hp i; show acN p i + p i ≤ i + 1; omega
theorem span_add {p : Nat → Nat} (hp : ∀ i, p i ≤ 1) {K : Nat} (hK : K < 150) {X : DM} (h : PSp K (acN p) X) {x : Int32} (hx : x = if K = 0 ∨ p (K - 1) = 1 then 1 else 0) : ∃ X' : DM, fX2_add X (nI K) x = some X' ∧ PSp (K + 1) (acN p) X' := by
  obtain ⟨h3, h2, h0, h1⟩ := h
  have hle := acN_le p hp
  have hKle := hle K
  unfold fX2_add
  simp only [sl_s]
  have fin : ∀ Y : DM, Y 3 0 = nI (acN p K + 1) → Y 0 (acN p K) = nI (if K = 0 ∨ p (K - 1) = 1 then K else K) ∨ ¬ (K = 0 ∨ acN p (K - 1) ≠ acN p K) → (∀ i, i < K → Y 0 (acN p i) = X 0 (acN p i)) → Y 1 = X 1 → Y 2 = X 2 → (K ≠ 0 → acN p (K - 1) ≠ acN p K ∨ acN p (K - 1) = acN p K) → ∃ X' : DM, (bnd (fX5_put 150 (Y 1) (Y 3 0 - 1) (nI K)) fun f1 => bnd (fX5_put 150 (va_up Y 1 f1 2) (nI K) (va_up Y 1 f1 3 0 - 1)) fun f5 => some (va_up (va_up Y 1 f1) 2 f5)) = some X' ∧ PSp (K + 1) (acN p) X' := by
    intro Y y3 y0 yo y1 y2 _
    rw [y3, nI_pred, put_in _ _ (by omega) (by omega), bnd_s, up_ne (k := 1) (j := 3) _ _ (by decide), up_ne (k := 1) (j := 2) _ _ (by decide), y3, nI_pred, put_in _ _ (by omega) (by omega), bnd_s]
    refine ⟨_, rfl, ?_, fun i hi => ?_, fun i hi hc => ?_, fun i hi hc => ?_⟩
    · rw [up_ne _ _ (by decide), up_ne _ _ (by decide), y3, if_neg (by omega), Nat.add_sub_cancel]
    · rw [up_eq]
      by_cases z : i = K
      · subst z; rw [u_eq]
      · rw [u_ne _ _ z, y2]; exact h2 i (by omega)
    · rw [up_ne _ _ (by decide), up_ne _ _ (by decide)]
      by_cases z : i = K
      · subst z
        rcases y0 with y0 | y0
        · rw [y0]; congr 1; split <;> rfl
        · exact absurd hc y0
      · rw [yo i (by omega)]
        exact h0 i (by omega) hc
    · rw [up_ne _ _ (by decide), up_eq]
      by_cases z : i = K
      · subst z; rw [u_eq]
      · have hne : acN p (i + 1) ≠ acN p i := hc.resolve_left (by omega)
        have m1 := acN_mono p (show i ≤ i + 1 by omega)
        have m2 := acN_mono p (show i + 1 ≤ K by omega)
        rw [u_ne _ _ (by omega), y1]
        exact h1 i (by omega) (Or.inr hne)
  by_cases c : K = 0 ∨ p (K - 1) = 1
  · rw [if_pos c] at hx
    rw [hx, if_neg (by decide)]
    have e3 : X 3 0 = nI (acN p K) := by
      rw [h3]
      by_cases k0 : K = 0
      · subst k0; rfl
      · rw [if_neg k0]
        have := c.resolve_left k0
        obtain ⟨K, rfl⟩ : ∃ z, K = z + 1 := ⟨K - 1, by omega⟩
        show nI (acN p (K + 1 - 1) + 1) = nI (acN p K + p K)
        rw [Nat.add_sub_cancel] at this ⊢
        rw [this]
    have old : ∀ i, i < K → acN p i ≠ acN p K := by
      intro i hi
      have k0 : K ≠ 0 := by omega
      have := c.resolve_left k0
      obtain ⟨K, rfl⟩ : ∃ z, K = z + 1 := ⟨K - 1, by omega⟩
      rw [Nat.add_sub_cancel] at this
      have m := acN_mono p (show i ≤ K by omega)
      show acN p i ≠ acN p K + p K
      omega
    rw [e3, put_in _ _ (by omega) (by omega), bnd_s]
    refine fin _ ?_ (Or.inl ?_) (fun i hi => ?_) ?_ ?_ (fun _ => Decidable.em _ |>.symm)
    · rw [up_eq, up_ne _ _ (by decide), e3, nI_1]
    · rw [up_ne _ _ (by decide), up_eq, u_eq]; congr 1; split <;> rfl
    · rw [up_ne _ _ (by decide), up_eq, u_ne _ _ (old i hi)]
    · rw [up_ne _ _ (by decide), up_ne _ _ (by decide)]
    · rw [up_ne _ _ (by decide), up_ne _ _ (by decide)]
  · rw [if_neg c] at hx
    have k0 : K ≠ 0 := fun e => c (Or.inl e)
    have p0 : p (K - 1) = 0 := by
      have := hp (K - 1)
      have : p (K - 1) ≠ 1 := fun e => c (Or.inr e)
      omega
    have eq : acN p (K - 1) = acN p K := by
      obtain ⟨K, rfl⟩ : ∃ z, K = z + 1 := ⟨K - 1, by omega⟩
      rw [Nat.add_sub_cancel] at p0 ⊢
      show acN p K = acN p K + p K
      omega
    rw [hx, if_pos rfl]
    refine fin X ?_ (Or.inr ?_) (fun _ _ => rfl) rfl rfl (fun _ => Or.inr eq)
    · rw [h3, if_neg k0, eq]
    · rintro (q | q)
      · exact k0 q
      · exact q eq
