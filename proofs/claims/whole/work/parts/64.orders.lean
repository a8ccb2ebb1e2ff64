/-! orders: the texts -/
def dgc (c : Nat) (o : Nat → Nat) : Nat → Nat → Nat
  | 0, _ => 0
  | j + 1, q => if q < c ∧ 48 ≤ o q ∧ o q ≤ 57 then dgc c o j (q + 1) + 1 else 0
def nbr (o : Nat → Nat) : Nat → Nat → Nat → Nat
  | 0, _, a => a
  | d + 1, q, a => nbr o d (q + 1) (a * 10 + o q - 48)
theorem dgc_le (c : Nat) (o : Nat → Nat) : ∀ (j q : Nat), dgc c o j q ≤ j := by
  intro j
  induction j with
  | zero => intro q; exact Nat.le_refl _
  | succ j ih =>
    intro q
    unfold dgc
    by_cases h : q < c ∧ 48 ≤ o q ∧ o q ≤ 57
    · rw [if_pos h]; exact Nat.succ_le_succ (ih _)
    · rw [if_neg h]; exact Nat.zero_le _
theorem dgc_in (c : Nat) (o : Nat → Nat) : ∀ (j q i : Nat), i < dgc c o j q → q + i < c ∧ 48 ≤ o (q + i) ∧ o (q + i) ≤ 57 := by
  intro j
  induction j with
  | zero => intro q i hi; exact absurd hi (Nat.not_lt_zero _)
  | succ j ih =>
    intro q i hi
    unfold dgc at hi
    by_cases h : q < c ∧ 48 ≤ o q ∧ o q ≤ 57
    · rw [if_pos h] at hi
      by_cases e : i = 0
      · subst e; exact h
      · have := ih (q + 1) (i - 1) (by omega)
        rw [show q + 1 + (i - 1) = q + i by omega] at this
        exact this
    · rw [if_neg h] at hi
      exact absurd hi (Nat.not_lt_zero _)
theorem nbr_lt (o : Nat → Nat) : ∀ (d q a : Nat), (∀ i, i < d → 48 ≤ o (q + i) ∧ o (q + i) ≤ 57) → nbr o d q a < (a + 1) * 10 ^ d := by
  intro d
  induction d with
  | zero => intro q a h; show a < (a + 1) * 1; omega
  | succ d ih =>
    intro q a h
    unfold nbr
    have h0 := h 0 (by omega)
    rw [Nat.add_zero] at h0
    have h1 := ih (q + 1) (a * 10 + o q - 48) (fun i hi => by
      have := h (i + 1) (by omega)
      rw [show q + (i + 1) = q + 1 + i by omega] at this
      exact this)
    have h2 : (a * 10 + o q - 48 + 1) * 10 ^ d ≤ ((a + 1) * 10) * 10 ^ d := Nat.mul_le_mul_right _ (by omega)
    rw [Nat.pow_succ, Nat.mul_comm (10 ^ d) 10, ← Nat.mul_assoc]
    omega
/-- the figures behind place p, and their number -/
def dgO (c : Nat) (o : Nat → Nat) (p : Nat) : Nat := dgc c o 3 (p + 1)
def nuO (c : Nat) (o : Nat → Nat) (p : Nat) : Nat := nbr o (dgO c o p) (p + 1) 0
theorem dgO_le (c : Nat) (o : Nat → Nat) (p : Nat) : dgO c o p ≤ 3 := dgc_le _ _ _ _
theorem nuO_lt (c : Nat) (o : Nat → Nat) (p : Nat) : nuO c o p < 1000 := by
  have h1 := nbr_lt o (dgO c o p) (p + 1) 0 (fun i hi => (dgc_in c o 3 (p + 1) i hi).2)
  have h2 : 10 ^ dgO c o p ≤ 10 ^ 3 := Nat.pow_le_pow_right (by omega) (dgO_le c o p)
  unfold nuO
  omega
def okO (g d v : Nat) : Bool := decide (((g = 98 ∨ g = 117) ∧ d = 0) ∨ (g = 106 ∧ 0 < d) ∨ (g = 110 ∧ 0 < d ∧ 1 ≤ v ∧ v ≤ 99) ∨ (g = 114 ∧ 0 < d ∧ 1 ≤ v))
/-- the place behind the order at p; 0: no order stands there -/
def eO (c : Nat) (o : Nat → Nat) (p : Nat) : Nat := if p + 1 + dgO c o p < c ∧ o (p + 1 + dgO c o p) = 59 ∧ okO (o p) (dgO c o p) (nuO c o p) = true then p + dgO c o p + 2 else 0
theorem eO_gt {c : Nat} {o : Nat → Nat} {p : Nat} (h : ¬ eO c o p = 0) : p + 2 ≤ eO c o p ∧ eO c o p ≤ c := by
  unfold eO at h ⊢
  by_cases q : p + 1 + dgO c o p < c ∧ o (p + 1 + dgO c o p) = 59 ∧ okO (o p) (dgO c o p) (nuO c o p) = true
  · rw [if_pos q]; omega
  · rw [if_neg q] at h; exact absurd rfl h
/-- what the class and the reference hold of the orders -/
def OC (c : Nat) (o : Nat → Nat) (XO : DM) : Prop := c ≤ 60 ∧ XO 1 0 = nI c ∧ ∀ i, i < c → XO 0 i = nI (o i) ∧ 32 ≤ o i ∧ o i ≤ 126
def OM (c : Nat) (o : Nat → Nat) (XM : DM) : Prop := c ≤ 60 ∧ XM 5 0 = nI c ∧ ∀ i, i < c → XM 4 i = nI (o i) ∧ 32 ≤ o i ∧ o i ≤ 126
theorem OM.rows {c : Nat} {o : Nat → Nat} {M M' : DM} (h : OM c o M) (e4 : M' 4 = M 4) (e5 : M' 5 = M 5) : OM c o M' := by
  unfold OM at h ⊢
  rw [e4, e5]
  exact h
theorem c_chr {c : Nat} {o : Nat → Nat} {XO : DM} (h : OC c o XO) {p : Nat} (hp : p < 2 ^ 31) : fX1_characterAt XO (nI p) = some (if p < c then nI (o p) else 0) := by
  have hc := h.1
  unfold fX1_characterAt
  rw [h.2.1]
  by_cases e : p < c
  · rw [if_neg (nI_ge e (by omega)), if_pos e, at_in _ (by omega) (by omega), bnd_s, (h.2.2 p e).1]
  · rw [if_pos (nI_le (by omega) hp), if_neg e]
theorem isF_n {x : Nat} (hx : x < 2 ^ 31) : isF (nI x) = decide (48 ≤ x ∧ x ≤ 57) := by
  unfold isF
  have e1 : (nI x < 48) ↔ x < 48 := lt_l2 (a := x) (k := 48) hx (by decide)
  have e2 : (57 < nI x) ↔ 57 < x := lt_l1 (k := 57) (a := x) (by decide) hx
  simp only [e1, e2]
  by_cases h1 : x < 48
  · simp [h1]
    omega
  · by_cases h2 : 57 < x
    · simp [h2]
    · simp [h1, h2]
      omega
theorem c_dig_L {c : Nat} {o : Nat → Nat} {XO : DM} (h : OC c o XO) (n : Nat) {p : Nat} (hp : p ≤ 60) : ∀ (j x : Nat), x + j = 3 → ∀ fu, j < fu → fX1_digitsBehind_L2 n XO fu (nI p) (nI x) = some (nI (x + dgc c o j (p + 1 + x))) := by
  intro j
  induction j with
  | zero =>
    intro x hx fu hfu
    obtain ⟨fu, rfl⟩ : ∃ z, fu = z + 1 := ⟨fu - 1, by omega⟩
    unfold fX1_digitsBehind_L2
    rw [if_pos ((le_l1 (k := 3) (a := x) (by omega) (by omega)).mpr (by omega))]
    rfl
  | succ j ih =>
    intro x hx fu hfu
    obtain ⟨fu, rfl⟩ : ∃ z, fu = z + 1 := ⟨fu - 1, by omega⟩
    unfold fX1_digitsBehind_L2 dgc
    rw [if_neg (fun e => absurd ((le_l1 (k := 3) (a := x) (by omega) (by omega)).mp e) (by omega)), nI_1, nI_add, c_chr h (by omega), bnd_s, isF_c, bnd_s, sl_s, nI_1]
    have nx := ih (x + 1) (by omega) fu (by omega)
    by_cases e : p + 1 + x < c
    · have hb := h.2.2 _ e
      rw [if_pos e, isF_n (by omega)]
      by_cases f : 48 ≤ o (p + 1 + x) ∧ o (p + 1 + x) ≤ 57
      · rw [if_pos (show decide (48 ≤ o (p + 1 + x) ∧ o (p + 1 + x) ≤ 57) = true from decide_eq_true f), if_neg (show ¬ (1 : Int32) = 0 from by decide), nx, if_pos ⟨e, f⟩, show p + 1 + (x + 1) = p + 1 + x + 1 by omega, show x + 1 + dgc c o j (p + 1 + x + 1) = x + (dgc c o j (p + 1 + x + 1) + 1) by omega]
      · rw [if_neg (show ¬ decide (48 ≤ o (p + 1 + x) ∧ o (p + 1 + x) ≤ 57) = true from fun q => f (of_decide_eq_true q)), if_pos rfl, if_neg (fun q => f q.2)]
        rfl
    · rw [if_neg e, if_neg (show ¬ isF 0 = true from by decide), if_pos rfl, if_neg (fun q => e q.1)]
      rfl
theorem c_dig {c : Nat} {o : Nat → Nat} {XO : DM} (h : OC c o XO) {n : Nat} (hn : 1400 ≤ n) {p : Nat} (hp : p ≤ 60) : fX1_digitsBehind n XO (nI p) = some (nI (dgO c o p)) := by
  unfold fX1_digitsBehind dgO
  have := c_dig_L h n hp 3 0 (by omega) n (by omega)
  rw [Nat.zero_add] at this
  exact this
theorem c_nuO_L {c : Nat} {o : Nat → Nat} {XO : DM} (h : OC c o XO) (n : Nat) {p d : Nat} (hp : p ≤ 60) (hd : d ≤ 3) (hin : ∀ i, 1 ≤ i → i ≤ d → p + i < c ∧ 48 ≤ o (p + i)) : ∀ (k i acc : Nat), i + k = d + 1 → 1 ≤ i → ∀ fu, k < fu → fX1_numberBehind_L11 n XO fu (nI p) (nI d) (nI acc) (nI i) = some (nI (nbr o k (p + i) acc)) := by
  intro k
  induction k with
  | zero =>
    intro i acc hi h1 fu hfu
    obtain ⟨fu, rfl⟩ : ∃ z, fu = z + 1 := ⟨fu - 1, by omega⟩
    unfold fX1_numberBehind_L11
    rw [if_pos (nI_lt (by omega) (by omega))]
    rfl
  | succ k ih =>
    intro i acc hi h1 fu hfu
    obtain ⟨fu, rfl⟩ : ∃ z, fu = z + 1 := ⟨fu - 1, by omega⟩
    obtain ⟨q1, q2⟩ := hin i h1 (by omega)
    unfold fX1_numberBehind_L11 nbr
    rw [if_neg (nI_nlt (by omega) (by omega)), nI_add, c_chr h (by omega), if_pos q1, bnd_s, sl_s, sl_s, lit_n 10, pk_mul, nI_add, lit_n 48, n_sub (by omega), nI_1, ih (i + 1) _ (by omega) (by omega) fu (by omega)]
    rfl
theorem c_nuO {c : Nat} {o : Nat → Nat} {XO : DM} (h : OC c o XO) {n : Nat} (hn : 1400 ≤ n) {p : Nat} (hp : p ≤ 60) : fX1_numberBehind n XO (nI p) = some (nI (nuO c o p)) := by
  unfold fX1_numberBehind nuO
  rw [c_dig h hn hp, bnd_s]
  refine c_nuO_L h n hp (dgO_le c o p) (fun i h1 h2 => ?_) (dgO c o p) 1 0 (by omega) (by omega) n (by have := dgO_le c o p; omega)
  have := dgc_in c o 3 (p + 1) (i - 1) (show i - 1 < dgO c o p by omega)
  rw [show p + 1 + (i - 1) = p + i by omega] at this
  exact ⟨this.1, this.2.1⟩
theorem c_isO {g d v : Nat} (hg : g ≤ 126) (hd : d ≤ 3) (hv : v < 1000) : fX1_isOrder (nI g) (nI d) (nI v) = some (if okO g d v = true then 1 else 0) := by
  have G : ∀ k : Nat, k < 2 ^ 31 → (nI g = (OfNat.ofNat k : Int32) ↔ g = k) := fun k hk => eq_l (by omega) hk
  have g98 := G 98 (by omega)
  have g106 := G 106 (by omega)
  have g110 := G 110 (by omega)
  have g114 := G 114 (by omega)
  have g117 := G 117 (by omega)
  have d0 : nI d = (0 : Int32) ↔ d = 0 := eq_l (a := d) (k := 0) (by omega) (by omega)
  have d1 : nI d ≤ (0 : Int32) ↔ d = 0 := (le_l2 (a := d) (k := 0) (by omega) (by omega)).trans (by omega)
  have v1 : nI v < (1 : Int32) ↔ v < 1 := lt_l2 (a := v) (k := 1) (by omega) (by omega)
  have v2 : (99 : Int32) < nI v ↔ 99 < v := lt_l1 (k := 99) (a := v) (by omega) (by omega)
  unfold fX1_isOrder
  simp only [sl_s, g98, g106, g110, g114, g117, d0, d1, v1, v2]
  unfold okO
  by_cases e : d = 0
  · rw [if_pos e]
    by_cases a1 : g = 98
    · simp [a1, e]
    by_cases a2 : g = 106
    · simp [a2, e, zA, bnd_s]
    by_cases a3 : g = 110
    · simp [a3, e]
    by_cases a4 : g = 114
    · simp [a4, e]
    by_cases a5 : g = 117
    · simp [a5, e]
    simp [a1, a2, a3, a4, a5]
  · rw [if_neg e]
    have e' : 0 < d := by omega
    by_cases a1 : g = 98
    · simp [a1, e]
    by_cases a2 : g = 106
    · simp [a2, e', zA, bnd_s]
    by_cases a3 : g = 110
    · by_cases b1 : v < 1
      · have b1' : v = 0 := by omega
        simp [a3, b1']
      · by_cases b2 : 99 < v
        · simp [a3, b1, b2]
        · have : 1 ≤ v ∧ v ≤ 99 := by omega
          have b0 : ¬ v = 0 := by omega
          simp [a3, b0, b2, e', this]
    by_cases a4 : g = 114
    · by_cases b1 : v < 1
      · have b1' : v = 0 := by omega
        simp [a4, b1']
      · have : 1 ≤ v := by omega
        have b0 : ¬ v = 0 := by omega
        simp [a4, b0, e', this]
    by_cases a5 : g = 117
    · simp [a5, e]
    simp [a1, a2, a3, a4, a5]
theorem c_end {c : Nat} {o : Nat → Nat} {XO : DM} (h : OC c o XO) {n : Nat} (hn : 1400 ≤ n) {p : Nat} (hp : p < c) : fX1_endOf n XO (nI p) = some (if eO c o p = 0 then -1 else nI (eO c o p)) := by
  have hc := h.1
  have hd := dgO_le c o p
  have hb := (h.2.2 p hp).2
  have hnu := nuO_lt c o p
  unfold fX1_endOf
  rw [c_dig h hn (by omega), bnd_s, sl_s, nI_1, nI_add, c_chr h (by omega), bnd_s, nI_1, c_chr h (by omega), bnd_s, if_pos hp, c_nuO h hn (by omega), bnd_s, c_isO hb.2 hd hnu, bnd_s]
  by_cases e1 : p + 1 + dgO c o p < c
  · rw [if_pos e1]
    have hb2 := (h.2.2 _ e1).2
    by_cases e2 : o (p + 1 + dgO c o p) = 59
    · rw [if_pos (show nI (o (p + 1 + dgO c o p)) = 59 from by rw [e2]; rfl)]
      by_cases e3 : okO (o p) (dgO c o p) (nuO c o p) = true
      · rw [if_pos e3, if_neg (show ¬ (1 : Int32) = 0 from by decide), show eO c o p = p + dgO c o p + 2 from if_pos ⟨e1, e2, e3⟩, if_neg (by omega), show p + 1 + dgO c o p + 1 = p + dgO c o p + 2 by omega]
      · rw [if_neg e3, if_pos rfl, show eO c o p = 0 from if_neg (fun q => e3 q.2.2), if_pos rfl]
    · rw [if_neg (fun q => e2 ((eq_l (a := o (p + 1 + dgO c o p)) (k := 59) (by omega) (by omega)).mp q)), show eO c o p = 0 from if_neg (fun q => e2 q.2.1), if_pos rfl]
  · rw [if_neg e1, if_neg (show ¬ (0 : Int32) = 59 from by decide), show eO c o p = 0 from if_neg (fun q => e1 q.1), if_pos rfl]
