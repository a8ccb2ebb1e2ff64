/-! p27: what holds of the words of a text -/
theorem sl_in {α β : Type} {x : α} {k : α → β} {v : β} (h : ∀ a, a = x → k a = v) : sl x k = v := h x rfl
theorem sl_P {α β : Type} {P : β → Prop} {x : α} {k : α → β} (h : ∀ a, a = x → P (k a)) : P (sl x k) := h x rfl
theorem opt3 {α β γ : Type} {a a' : α} {b b' : β} {c c' : γ} (h : some (a, b, c) = some (a', b', c')) : a = a' ∧ b = b' ∧ c = c' := by
  cases h
  exact ⟨rfl, rfl, rfl⟩
theorem opt6 {α β γ δ ε ζ : Type} {a a' : α} {b b' : β} {c c' : γ} {d d' : δ} {e e' : ε} {f f' : ζ} (h : some (a, b, c, d, e, f) = some (a', b', c', d', e', f')) : a = a' ∧ b = b' ∧ c = c' ∧ d = d' ∧ e = e' ∧ f = f' := by
  cases h
  exact ⟨rfl, rfl, rfl, rfl, rfl, rfl⟩
theorem ltn_fr (T : Nat → Int32) : ∀ (k s : Nat), ltn T s (k + 1) = (if isL (T s) = true then 1 else 0) + ltn T (s + 1) k := by
  intro k
  induction k with
  | zero => intro s; rw [ltn_s]; show 0 + _ = _ + 0; rw [Nat.add_zero, Nat.zero_add, Nat.add_zero]
  | succ k ih => intro s; rw [ltn_s, ih, ltn_s T (s + 1) k, show s + 1 + k = s + (k + 1) by omega, Nat.add_assoc]
theorem fnd_pos (T : Nat → Int32) (s : Nat) : ∀ (k p q : Nat), q < ltn T (s + p) k → 1 ≤ fnd T s k p q := by
  intro k
  induction k with
  | zero => intro p q h; exact absurd h (Nat.not_lt_zero _)
  | succ k ih =>
    intro p q h
    rw [ltn_fr] at h
    unfold fnd
    by_cases c : isL (T (s + p)) = true
    · rw [if_pos c] at h ⊢
      by_cases z : q = 0
      · rw [if_pos z]; omega
      · rw [if_neg z]
        exact ih (p + 1) (q - 1) (by rw [show s + (p + 1) = s + p + 1 by omega]; omega)
    · rw [if_neg c] at h ⊢
      exact ih (p + 1) q (by rw [show s + (p + 1) = s + p + 1 by omega]; omega)
theorem spN_0 (T : Nat → Int32) (s m : Nat) : spN T s m = 0 ↔ ltn T s m = 0 := by
  unfold spN
  by_cases c : ltn T s m = 0
  · rw [if_pos c]; exact ⟨fun _ => c, fun _ => rfl⟩
  · rw [if_neg c]
    have := fnd_pos T s m 0 ((ltn T s m - 1) / 3) (by rw [Nat.add_zero]; omega)
    exact ⟨fun e => by omega, fun e => absurd e c⟩
theorem ws_len (T : Nat → Int32) (L i : Nat) : wln (wsOf T L) i ≤ (wsOf T L).2 1 i := ltn_le T ((wsOf T L).2 0 i) ((wsOf T L).2 1 i)
theorem ws_spot (T : Nat → Int32) (L i : Nat) : (wsOf T L).2 5 i ≤ (wsOf T L).2 1 i := spN_le T ((wsOf T L).2 0 i) ((wsOf T L).2 1 i)
theorem ws_sp0 (T : Nat → Int32) (L i : Nat) : (wsOf T L).2 5 i = 0 ↔ wln (wsOf T L) i = 0 := spN_0 T ((wsOf T L).2 0 i) ((wsOf T L).2 1 i)
theorem lg_c0 (x : Nat × Nat) (l : List (Nat × Nat)) : lg (x :: l) 0 = x := rfl
theorem lg_cs (x : Nat × Nat) (l : List (Nat × Nat)) (i : Nat) : lg (x :: l) (i + 1) = lg l i := rfl
theorem scn_ge (T : Nat → Int32) (L : Nat) : ∀ (k s i : Nat), s ≤ i → ∀ x, x ∈ scn T L k s i → s ≤ x.1 := by
  intro k
  induction k with
  | zero => intro s i _ x hx; unfold scn at hx; cases hx
  | succ k ih =>
    intro s i h x hx
    unfold scn at hx
    by_cases c : i = L ∨ T i = 32
    · rw [if_pos c] at hx
      by_cases z : s < i
      · rw [if_pos z] at hx
        rcases List.mem_cons.mp hx with rfl | hx
        · exact Nat.le_refl _
        · have := ih (i + 1) (i + 1) (Nat.le_refl _) x hx; omega
      · rw [if_neg z] at hx
        have := ih (i + 1) (i + 1) (Nat.le_refl _) x hx; omega
    · rw [if_neg c] at hx
      exact ih s (i + 1) (by omega) x hx
theorem scn_sep (T : Nat → Int32) (L : Nat) : ∀ (k s i : Nat), s ≤ i → ∀ a, a + 1 < (scn T L k s i).length → (lg (scn T L k s i) a).1 + (lg (scn T L k s i) a).2 < (lg (scn T L k s i) (a + 1)).1 := by
  intro k
  induction k with
  | zero => intro s i _ a ha; unfold scn at ha; exact absurd ha (Nat.not_lt_zero _)
  | succ k ih =>
    intro s i h a ha
    unfold scn at ha ⊢
    by_cases c : i = L ∨ T i = 32
    · rw [if_pos c] at ha ⊢
      by_cases z : s < i
      · rw [if_pos z] at ha ⊢
        rw [List.length_cons] at ha
        cases a with
        | zero =>
          rw [lg_c0, lg_cs]
          have := scn_ge T L k (i + 1) (i + 1) (Nat.le_refl _) _ (lg_in (show 0 < (scn T L k (i + 1) (i + 1)).length by omega))
          show s + (i - s) < _
          omega
        | succ a =>
          rw [lg_cs, lg_cs]
          exact ih _ _ (Nat.le_refl _) a (by omega)
      · rw [if_neg z] at ha ⊢
        exact ih _ _ (Nat.le_refl _) a ha
    · rw [if_neg c] at ha ⊢
      exact ih _ _ (by omega) a ha
theorem ws_sep {T : Nat → Int32} {L i : Nat} (hi : i + 1 < wK (wsOf T L)) : (wsOf T L).2 0 i + (wsOf T L).2 1 i < (wsOf T L).2 0 (i + 1) := scn_sep T L (L + 1) 0 0 (Nat.le_refl _) i hi
theorem wsOf_in2 {T : Nat → Int32} {L i : Nat} (hi : i < wK (wsOf T L)) : 1 ≤ (wsOf T L).2 1 i ∧ (wsOf T L).2 0 i + (wsOf T L).2 1 i ≤ L := scn_in T L (L + 1) 0 0 (by omega) (Nat.le_refl _) _ (lg_in (show i < (scn T L (L + 1) 0 0).length from hi))
theorem ws_sum {T : Nat → Int32} {L : Nat} : ∀ (k a : Nat), a + (k + 1) = wK (wsOf T L) → (wsOf T L).2 0 a + smN ((wsOf T L).2 1) (k + 1) a ≤ L := by
  intro k
  induction k with
  | zero => intro a ha; rw [smN_s]; have := (wsOf_in2 (T := T) (L := L) (i := a) (by omega)).2; show _ + (_ + 0) ≤ L; omega
  | succ k ih => intro a ha; have h1 := ih (a + 1) (by omega); have h2 := ws_sep (T := T) (L := L) (i := a) (by omega); rw [smN_s]; omega
theorem ws_all (T : Nat → Int32) (L : Nat) : smN ((wsOf T L).2 1) (wK (wsOf T L)) 0 ≤ L := by
  by_cases c : wK (wsOf T L) = 0
  · rw [c]; exact Nat.zero_le _
  · obtain ⟨k, hk⟩ : ∃ k, wK (wsOf T L) = k + 1 := ⟨wK (wsOf T L) - 1, by omega⟩
    have := ws_sum (T := T) (L := L) k 0 (by omega)
    rw [hk]; omega
/-! the words of a text do not know what stands behind its end; a blank behind makes none -/
theorem scn_cg (T T' : Nat → Int32) (L : Nat) (hT : ∀ i, i < L → T i = T' i) : ∀ (k s i : Nat), i + k = L + 1 → scn T L k s i = scn T' L k s i := by
  intro k
  induction k with
  | zero => intro s i _; rfl
  | succ k ih =>
    intro s i hi
    unfold scn
    rw [ih (i + 1) (i + 1) (by omega), ih s (i + 1) (by omega)]
    by_cases c : i = L
    · rw [if_pos (Or.inl c), if_pos (Or.inl c)]
    · rw [hT i (by omega)]
theorem ws_cg {T T' : Nat → Int32} {L : Nat} (hT : ∀ i, i < L → T i = T' i) : wK (wsOf T L) = wK (wsOf T' L) := congrArg List.length (scn_cg T T' L hT (L + 1) 0 0 (by omega))
theorem scn_bl (T : Nat → Int32) (L : Nat) (hb : T L = 32) : ∀ (k s i : Nat), i + (k + 1) = L + 1 → scn T (L + 1) (k + 1 + 1) s i = scn T L (k + 1) s i := by
  intro k
  induction k with
  | zero =>
    intro s i hi
    have e : i = L := by omega
    subst e
    have z : scn T (i + 1) (0 + 1) (i + 1) (i + 1) = scn T i 0 (i + 1) (i + 1) := by
      unfold scn
      rw [if_pos (Or.inl rfl), if_neg (Nat.lt_irrefl _)]
      unfold scn
      rfl
    conv => lhs; unfold scn
    conv => rhs; unfold scn
    rw [if_pos (Or.inr hb), if_pos (Or.inl rfl), z]
  | succ k ih =>
    intro s i hi
    have h1 := ih (i + 1) (i + 1) (by omega)
    have h2 := ih s (i + 1) (by omega)
    conv => lhs; unfold scn
    conv => rhs; unfold scn
    rw [h1, h2]
    by_cases c2 : T i = 32
    · rw [if_pos (Or.inr c2), if_pos (Or.inr c2)]
    · rw [if_neg (fun z => z.elim (fun y => by omega) c2), if_neg (fun z => z.elim (fun y => by omega) c2)]
theorem ws_bl {T : Nat → Int32} {L : Nat} (hb : T L = 32) : wK (wsOf T (L + 1)) = wK (wsOf T L) := congrArg List.length (scn_bl T L hb L 0 0 (by omega))
/-! pages are no more than sentences -/
theorem pg_sn {w : WS} (hv : VS w) (i : Nat) : wpg w i ≤ wsn w i := by
  induction i with
  | zero => rw [hv.2.2.2.1]; exact Nat.zero_le _
  | succ i ih =>
    rw [hv.2.2.2.2.1 i, hv.2.2.2.2.2 i]
    by_cases c : wkd w i = 3
    · rw [if_pos c, if_pos (by omega)]; omega
    · rw [if_neg c]; omega
theorem nP_nS {w : WS} (hv : VS w) : wnP w ≤ wnS w := by
  unfold wnP wnS
  by_cases c : wK w = 0
  · rw [if_pos c, if_pos c]; exact Nat.le_refl _
  · rw [if_neg c, if_neg c]; have := pg_sn hv (wK w - 1); omega
/-! sums over stretches are the sum over all -/
theorem smN_pl (f g : Nat → Nat) : ∀ (k a : Nat), smN (fun i => f i + g i) k a = smN f k a + smN g k a := by
  intro k
  induction k with
  | zero => intro a; rfl
  | succ k ih => intro a; rw [smN_s, smN_s, smN_s, ih]; omega
theorem smN_one (c x : Nat) : ∀ (k a : Nat), a ≤ c → c < a + k → smN (fun s => if c = s then x else 0) k a = x := by
  intro k
  induction k with
  | zero => intro a h1 h2; omega
  | succ k ih =>
    intro a h1 h2
    rw [smN_s]
    by_cases e : c = a
    · rw [if_pos e, smN_0 k (a + 1) (fun i h3 h4 => if_neg (by omega)), Nat.add_zero]
    · rw [if_neg e, ih (a + 1) (by omega) (by omega), Nat.zero_add]
theorem smN_all {f no : Nat → Nat} {P : Nat} : ∀ (k a : Nat), (∀ i, a ≤ i → i < a + k → no i < P) → smN (fun s => smN (fun i => if no i = s then f i else 0) k a) P 0 = smN f k a := by
  intro k
  induction k with
  | zero => intro a h; exact smN_0 P 0 (fun i _ _ => rfl)
  | succ k ih =>
    intro a h
    rw [smN_s, ← ih (a + 1) (fun i h1 h2 => h i (by omega) (by omega)), ← smN_one (no a) (f a) P 0 (Nat.zero_le _) (by have := h a (by omega) (by omega); omega), ← smN_pl]
    rfl
theorem pg_nP {w : WS} (hv : VS w) {i : Nat} (hi : i < wK w) : wpg w i < wnP w := by
  have := pg_mono hv (show i ≤ wK w - 1 by omega)
  unfold wnP
  rw [if_neg (by omega)]
  omega
