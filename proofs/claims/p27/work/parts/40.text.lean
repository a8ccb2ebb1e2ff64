/-! characters -/
def isF (c : Int32) : Bool := !(decide (c < 48)) && !(decide (57 < c))
def isL (c : Int32) : Bool := (!(decide (c < 97)) && !(decide (122 < c))) || (!(decide (c < 65)) && !(decide (90 < c))) || isF c
def isT (c : Int32) : Bool := decide (c = 41) || decide (c = 93) || decide (c = 34) || decide (c = 39)
def cbN (c : Int32) : Nat := if c = 33 then 2 else if c = 44 then 1 else if c = 46 then 2 else if c = 58 then 1 else if c = 59 then 1 else if c = 63 then 2 else 0
theorem cbN_le (c : Int32) : cbN c ≤ 2 := by
  unfold cbN
  repeat' split
  all_goals omega
theorem isF_c (c : Int32) : fX5_isFigure c = some (if isF c = true then 1 else 0) := by
  unfold fX5_isFigure isF
  by_cases h1 : c < 48
  · simp [h1]
  · by_cases h2 : 57 < c
    · simp [h1, h2]
    · simp [h1, h2]
theorem isF_m (c : Int32) : fX6_isFigure c = some (if isF c = true then 1 else 0) := by
  unfold fX6_isFigure fX6_in isF
  by_cases h1 : c < 48
  · simp [h1, bnd_s]
  · by_cases h2 : 57 < c
    · simp [h1, h2, bnd_s]
    · simp [h1, h2, bnd_s]
theorem i_le {a b : Int32} : a ≤ b ↔ ¬ b < a := by
  rw [Int32.not_lt]
theorem isL_c (c : Int32) : fX5_isLetter c = some (if isL c = true then 1 else 0) := by
  unfold fX5_isLetter isL
  simp only [sl_s, isF_c, bnd_s, i_le]
  by_cases h1 : c < 97 <;> by_cases h2 : 122 < c <;> by_cases h3 : c < 65 <;> by_cases h4 : 90 < c <;> by_cases h5 : isF c = true <;> simp [h1, h2, h3, h4, h5]
theorem isL_m (c : Int32) : fX6_isLetter c = some (if isL c = true then 1 else 0) := by
  unfold fX6_isLetter isL fX6_in
  simp only [isF_m, bnd_s]
  by_cases h1 : c < 97 <;> by_cases h2 : 122 < c <;> by_cases h3 : c < 65 <;> by_cases h4 : 90 < c <;> by_cases h5 : isF c = true <;> simp [h1, h2, h3, h4, h5, bnd_s]
theorem isT_c (c : Int32) : fX5_isTrailing c = some (if isT c = true then 1 else 0) := by
  unfold fX5_isTrailing isT
  by_cases h1 : c = 41
  · rw [if_pos h1]; simp [h1]
  · by_cases h2 : c = 93
    · rw [if_neg h1, if_pos h2]; simp [h2]
    · by_cases h3 : c = 34
      · rw [if_neg h1, if_neg h2, if_pos h3]; simp [h3]
      · by_cases h4 : c = 39
        · rw [if_neg h1, if_neg h2, if_neg h3, if_pos h4]; simp [h4]
        · rw [if_neg h1, if_neg h2, if_neg h3, if_neg h4]; simp [h1, h2, h3, h4]
theorem cb_c (c : Int32) : fX5_closingBy c = some (nI (cbN c)) := by
  unfold fX5_closingBy cbN
  repeat' split
  all_goals rfl
/-! a word at place s with m characters -/
def ltn (T : Nat → Int32) (s : Nat) : Nat → Nat
  | 0 => 0
  | k + 1 => ltn T s k + (if isL (T (s + k)) = true then 1 else 0)
def fgn (T : Nat → Int32) (s : Nat) : Nat → Nat
  | 0 => 0
  | k + 1 => if isF (T (s + k)) = true then 1 else fgn T s k
def lnt (T : Nat → Int32) (s : Nat) : Nat → Int32
  | 0 => -1
  | k + 1 => if isT (T (s + k)) = true then lnt T s k else T (s + k)
def kdN (T : Nat → Int32) (s m : Nat) : Nat := if m = 1 ∧ lnt T s m = 124 then 3 else cbN (lnt T s m)
def fnd (T : Nat → Int32) (s : Nat) : Nat → Nat → Nat → Nat
  | 0, _, _ => 0
  | k + 1, p, q => if isL (T (s + p)) = true then (if q = 0 then p + 1 else fnd T s k (p + 1) (q - 1)) else fnd T s k (p + 1) q
def spN (T : Nat → Int32) (s m : Nat) : Nat := if ltn T s m = 0 then 0 else fnd T s m 0 ((ltn T s m - 1) / 3)
theorem ltn_s (T : Nat → Int32) (s k : Nat) : ltn T s (k + 1) = ltn T s k + (if isL (T (s + k)) = true then 1 else 0) := rfl
theorem fgn_s (T : Nat → Int32) (s k : Nat) : fgn T s (k + 1) = if isF (T (s + k)) = true then 1 else fgn T s k := rfl
theorem lnt_s (T : Nat → Int32) (s k : Nat) : lnt T s (k + 1) = if isT (T (s + k)) = true then lnt T s k else T (s + k) := rfl
theorem nI1 : nI 1 = (1 : Int32) := rfl
theorem ltn_le (T : Nat → Int32) (s k : Nat) : ltn T s k ≤ k := by
  induction k with
  | zero => exact Nat.le_refl _
  | succ k ih => unfold ltn; by_cases c : isL (T (s + k)) = true
                 · rw [if_pos c]; omega
                 · rw [if_neg c]; omega
theorem fgn_le (T : Nat → Int32) (s k : Nat) : fgn T s k ≤ 1 := by
  induction k with
  | zero => exact Nat.zero_le _
  | succ k ih => unfold fgn; by_cases c : isF (T (s + k)) = true
                 · rw [if_pos c]; omega
                 · rw [if_neg c]; exact ih
theorem kdN_le (T : Nat → Int32) (s k : Nat) : kdN T s k ≤ 3 := by
  have := cbN_le (lnt T s k)
  unfold kdN
  by_cases c : k = 1 ∧ lnt T s k = 124
  · rw [if_pos c]; omega
  · rw [if_neg c]; omega
theorem fnd_le (T : Nat → Int32) (s : Nat) : ∀ (k p q : Nat), fnd T s k p q ≤ p + k := by
  intro k
  induction k with
  | zero => intro p q; exact Nat.zero_le _
  | succ k ih =>
    intro p q
    have h1 := ih (p + 1) (q - 1)
    have h2 := ih (p + 1) q
    unfold fnd
    by_cases c : isL (T (s + p)) = true
    · rw [if_pos c]
      by_cases z : q = 0
      · rw [if_pos z]; omega
      · rw [if_neg z]; omega
    · rw [if_neg c]; omega
theorem spN_le (T : Nat → Int32) (s m : Nat) : spN T s m ≤ m := by
  unfold spN
  by_cases c : ltn T s m = 0
  · rw [if_pos c]; omega
  · rw [if_neg c]
    have := fnd_le T s m 0 ((ltn T s m - 1) / 3)
    omega
/-! the class adds a word -/
theorem c_add_L {fr T : Nat → Int32} {L : Nat} (hL : L ≤ 300) (hf : ∀ i, i < L → fr i = T i) {s m : Nat} (he : s + m ≤ L) (n : Nat) (kk : Int32 → Int32 → Int32 → Int32 → Int32 → DM → Option DM) (XW : DM) : ∀ (j k : Nat), k + j = m → ∀ fu, j < fu → fX4_add_L12 n 300 fr kk fu (nI s) (nI (s + m)) (nI (ltn T s k)) (nI (fgn T s k)) (lnt T s k) (nI (s + k)) XW = kk (nI s) (nI (s + m)) (nI (ltn T s m)) (nI (fgn T s m)) (lnt T s m) XW := by
  intro j
  induction j with
  | zero =>
    intro k hk fu hfu
    obtain ⟨fu, rfl⟩ : ∃ z, fu = z + 1 := ⟨fu - 1, by omega⟩
    unfold fX4_add_L12
    rw [if_pos (nI_le (by omega) (by omega)), show k = m by omega]
  | succ j ih =>
    intro k hk fu hfu
    obtain ⟨fu, rfl⟩ : ∃ z, fu = z + 1 := ⟨fu - 1, by omega⟩
    have ih := ih (k + 1) (by omega) fu (by omega)
    unfold fX4_add_L12
    rw [if_neg (nI_ge (by omega) (by omega)), at_in _ (by omega) (by omega), bnd_s, hf _ (by omega), isL_c, bnd_s]
    simp only [sl_s, isF_c, isT_c, bnd_s, nI_1, ← Nat.add_assoc] at ih ⊢
    rw [ltn_s, fgn_s, lnt_s] at ih
    by_cases c1 : isL (T (s + k)) = true <;> by_cases c2 : isF (T (s + k)) = true <;> by_cases c3 : isT (T (s + k)) = true <;> simp only [c1, c2, c3, if_true, if_false, if_pos, if_neg, Nat.add_zero, show ¬ ((1 : Int32) = 0) from by decide, Bool.false_eq_true, nI1] at ih ⊢ <;> exact ih
theorem c_let_L {fr T : Nat → Int32} {L : Nat} (hL : L ≤ 300) (hf : ∀ i, i < L → fr i = T i) {s m x4 : Nat} (hx : x4 < 2 ^ 31) (he : s + m ≤ L) (n : Nat) : ∀ (j k x5 : Nat), k + j = m → x5 ≤ x4 → ∀ fu, j < fu → fX4_letterIn_L6 n 300 fr (fun x2 x6 => some (x6 - x2)) fu (nI s) (nI (s + m)) (nI x4) (nI x5) (nI (s + k)) = some (spI (fnd T s j k (x4 - x5))) := by
  intro j
  induction j with
  | zero =>
    intro k x5 hk h5 fu hfu
    obtain ⟨fu, rfl⟩ : ∃ z, fu = z + 1 := ⟨fu - 1, by omega⟩
    unfold fX4_letterIn_L6
    rw [if_pos (nI_le (by omega) (by omega))]
    rfl
  | succ j ih =>
    intro k x5 hk h5 fu hfu
    obtain ⟨fu, rfl⟩ : ∃ z, fu = z + 1 := ⟨fu - 1, by omega⟩
    unfold fX4_letterIn_L6 fnd
    rw [if_neg (nI_ge (by omega) (by omega)), at_in _ (by omega) (by omega), bnd_s, hf _ (by omega), isL_c, bnd_s]
    simp only [sl_s, nI_1]
    by_cases c1 : isL (T (s + k)) = true
    · rw [if_pos c1, if_neg (by decide), if_pos c1]
      by_cases c2 : x5 = x4
      · rw [if_pos (by rw [c2]), if_pos (by omega), n_sub (by omega)]
        unfold spI
        rw [if_neg (by omega)]
        congr 2
        omega
      · rw [if_neg (fun e => c2 ((nI_eq (by omega) (by omega)).mp e)), if_neg (by omega)]
        rw [show x4 - x5 - 1 = x4 - (x5 + 1) by omega]
        exact ih (k + 1) (x5 + 1) (by omega) (by omega) fu (by omega)
    · rw [if_neg c1, if_pos rfl, if_neg c1]
      exact ih (k + 1) x5 (by omega) h5 fu (by omega)
theorem c_add {fr T : Nat → Int32} {L : Nat} (hL : L ≤ 300) (hf : ∀ i, i < L → fr i = T i) {s m : Nat} (hm : 1 ≤ m) (he : s + m ≤ L) {n : Nat} (hn : 400 ≤ n) (XW : DM) {K : Nat} (hK : K < 150) (h8 : XW 8 0 = nI K) : ∃ XW' : DM, fX4_add n 300 fr XW (nI s) (nI (s + m)) = some XW' ∧ XW' 8 0 = nI (K + 1) ∧ XW' 0 K = nI s ∧ XW' 1 K = nI m ∧ XW' 2 K = nI (ltn T s m) ∧ XW' 3 K = nI (kdN T s m) ∧ XW' 4 K = nI (fgn T s m) ∧ XW' 5 K = spI (spN T s m) ∧ ∀ k, k < 6 → ∀ i, i ≠ K → XW' k i = XW k i := by
  have hl := ltn_le T s m
  have fin : ∀ x : Int32, x = nI (kdN T s m) → ∀ Y : DM, Y 8 0 = nI K → Y 0 = upd (XW 0) K (nI s) → Y 1 = upd (XW 1) K (nI m) → Y 2 = upd (XW 2) K (nI (ltn T s m)) → (∀ k, 3 ≤ k → k < 6 → Y k = XW k) → ∀ kk : Int32 → Int32 → DM → Option DM, (∀ (a : Int32) (b : Int32) (Z : DM), kk a b Z = bnd (fX5_put 150 (Z 5) a b) fun f21 => some (va_up (va_up Z 5 f21) 8 (fun _ => (va_up Z 5 f21) 8 0 + 1))) → ∃ XW' : DM, (bnd (fX5_put 150 (Y 3) (Y 8 0) x) fun f13 => bnd (fX5_put 150 ((va_up Y 3 f13) 4) ((va_up Y 3 f13) 8 0) (nI (fgn T s m))) fun f17 => if nI (ltn T s m) = 0 then kk ((va_up (va_up Y 3 f13) 4 f17) 8 0) (-1) (va_up (va_up Y 3 f13) 4 f17) else bnd (dvA (nI (ltn T s m) - 1) 3) fun v28 => bnd (fX4_letterIn n 300 fr (nI s) (nI (s + m)) v28) fun r31 => kk ((va_up (va_up Y 3 f13) 4 f17) 8 0) r31 (va_up (va_up Y 3 f13) 4 f17)) = some XW' ∧ XW' 8 0 = nI (K + 1) ∧ XW' 0 K = nI s ∧ XW' 1 K = nI m ∧ XW' 2 K = nI (ltn T s m) ∧ XW' 3 K = nI (kdN T s m) ∧ XW' 4 K = nI (fgn T s m) ∧ XW' 5 K = spI (spN T s m) ∧ ∀ k, k < 6 → ∀ i, i ≠ K → XW' k i = XW k i := by
    intro x hx Y y8 y0 y1 y2 y3 kk hkk
    have cl : ∀ v : Int32, v = spI (spN T s m) → ∃ XW' : DM, kk (nI K) v (va_up (va_up Y 3 (upd (XW 3) K x)) 4 (upd (XW 4) K (nI (fgn T s m)))) = some XW' ∧ XW' 8 0 = nI (K + 1) ∧ XW' 0 K = nI s ∧ XW' 1 K = nI m ∧ XW' 2 K = nI (ltn T s m) ∧ XW' 3 K = nI (kdN T s m) ∧ XW' 4 K = nI (fgn T s m) ∧ XW' 5 K = spI (spN T s m) ∧ ∀ k, k < 6 → ∀ i, i ≠ K → XW' k i = XW k i := by
      intro v hv
      rw [hkk, put_in _ _ (by omega) (by omega), bnd_s]
      refine ⟨_, rfl, ?_, ?_, ?_, ?_, ?_, ?_, ?_, fun k hk i hi => ?_⟩
      · rw [up_eq, up_ne _ _ (by decide), up_ne _ _ (by decide), up_ne _ _ (by decide), y8, nI_1]
      · rw [up_ne _ _ (by decide), up_ne _ _ (by decide), up_ne _ _ (by decide), up_ne _ _ (by decide), y0, u_eq]
      · rw [up_ne _ _ (by decide), up_ne _ _ (by decide), up_ne _ _ (by decide), up_ne _ _ (by decide), y1, u_eq]
      · rw [up_ne _ _ (by decide), up_ne _ _ (by decide), up_ne _ _ (by decide), up_ne _ _ (by decide), y2, u_eq]
      · rw [up_ne _ _ (by decide), up_ne _ _ (by decide), up_ne _ _ (by decide), up_eq, u_eq, hx]
      · rw [up_ne _ _ (by decide), up_ne _ _ (by decide), up_eq, u_eq]
      · rw [up_ne _ _ (by decide), up_eq, u_eq, hv]
      · rw [up_ne _ _ (by omega)]
        rcases (show k = 0 ∨ k = 1 ∨ k = 2 ∨ k = 3 ∨ k = 4 ∨ k = 5 by omega) with rfl | rfl | rfl | rfl | rfl | rfl
        · rw [up_ne _ _ (by decide), up_ne _ _ (by decide), up_ne _ _ (by decide), y0, u_ne _ _ hi]
        · rw [up_ne _ _ (by decide), up_ne _ _ (by decide), up_ne _ _ (by decide), y1, u_ne _ _ hi]
        · rw [up_ne _ _ (by decide), up_ne _ _ (by decide), up_ne _ _ (by decide), y2, u_ne _ _ hi]
        · rw [up_ne _ _ (by decide), up_ne _ _ (by decide), up_eq, u_ne _ _ hi]
        · rw [up_ne _ _ (by decide), up_eq, u_ne _ _ hi]
        · rw [up_eq, u_ne _ _ hi, up_ne _ _ (by decide), up_ne _ _ (by decide), y3 5 (by omega) (by omega)]
    rw [y8, put_in _ _ (by omega) (by omega), bnd_s, up_ne (k := 3) (j := 4) _ _ (by decide), up_ne (k := 3) (j := 8) _ _ (by decide), y8, y3 3 (by omega) (by omega), y3 4 (by omega) (by omega), put_in _ _ (by omega) (by omega), bnd_s, up_ne (k := 4) (j := 8) _ _ (by decide), up_ne (k := 3) (j := 8) _ _ (by decide), y8]
    by_cases c : ltn T s m = 0
    · rw [if_pos (by rw [c]; rfl)]
      exact cl _ (by unfold spN; rw [if_pos c]; rfl)
    · rw [if_neg (nI_ne0 (by omega) (by omega)), lit_n 1, n_sub (by omega), lit_n 3, n_div (by omega) (by omega) (by omega), bnd_s]
      have := c_let_L hL hf (x4 := (ltn T s m - 1) / 3) (by omega) he n m 0 0 (by omega) (by omega) n (by omega)
      unfold fX4_letterIn
      rw [sl_s, show fX4_letterIn_L6 n 300 fr _ n (nI s) (nI (s + m)) (nI ((ltn T s m - 1) / 3)) 0 (nI s) = _ from this, bnd_s]
      exact cl _ (by unfold spN; rw [if_neg c, Nat.sub_zero])
  unfold fX4_add
  simp only [sl_s]
  rw [show fX4_add_L12 n 300 fr _ n (nI s) (nI (s + m)) 0 0 (-1) (nI s) XW = _ from c_add_L hL hf he n _ XW m 0 (by omega) n (by omega)]
  rw [n_sub (show s ≤ s + m by omega), show s + m - s = m by omega]
  rw [h8, put_in _ _ (by omega) (by omega)]
  simp only [bnd_s, up_ne (k := 0) (j := 1) _ _ (show (1 : Nat) ≠ 0 by decide), up_ne (k := 0) (j := 8) _ _ (show (8 : Nat) ≠ 0 by decide), h8]
  rw [put_in _ _ (by omega) (by omega)]
  simp only [bnd_s, up_ne (k := 1) (j := 2) _ _ (show (2 : Nat) ≠ 1 by decide), up_ne (k := 0) (j := 2) _ _ (show (2 : Nat) ≠ 0 by decide), up_ne (k := 0) (j := 8) _ _ (show (8 : Nat) ≠ 0 by decide), up_ne (k := 1) (j := 8) _ _ (show (8 : Nat) ≠ 1 by decide), h8]
  rw [put_in _ _ (by omega) (by omega)]
  simp only [bnd_s]
  have fin2 := fun x hx => fin x hx (va_up (va_up (va_up XW 0 (upd (XW 0) K (nI s))) 1 (upd (XW 1) K (nI m))) 2 (upd (XW 2) K (nI (ltn T s m)))) h8 rfl rfl rfl (fun k a b => by rw [up_ne _ _ (by omega), up_ne _ _ (by omega), up_ne _ _ (by omega)]) (fun a b Z => bnd (fX5_put 150 (Z 5) a b) fun f21 => some (va_up (va_up Z 5 f21) 8 (fun _ => (va_up Z 5 f21) 8 0 + 1))) (fun _ _ _ => rfl)
  simp only [cb_c, bnd_s]
  by_cases c1 : m = 1
  · rw [if_pos (by rw [c1]; rfl)]
    by_cases c2 : lnt T s m = 124
    · rw [if_pos c2, if_neg (by decide)]
      exact fin2 3 (by unfold kdN; rw [if_pos ⟨c1, c2⟩]; rfl)
    · rw [if_neg c2, if_pos True.intro]
      exact fin2 _ (by unfold kdN; rw [if_neg (fun q => c2 q.2)])
  · rw [if_neg (fun e => c1 ((eq_l (a := m) (k := 1) (by omega) (by omega)).mp e)), if_pos True.intro]
    exact fin2 _ (by unfold kdN; rw [if_neg (fun q => c1 q.1)])
