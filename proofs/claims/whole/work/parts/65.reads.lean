/-! orders: how the reference reads them -/
theorem m_num_L {c : Nat} {o : Nat → Nat} (n : Nat) (kk : Int32 → Int32 → Int32 → DM → Option (Int32 × DM)) (x1 x2 : Int32) {s : Nat} (hs : s ≤ 60) : ∀ (j q v : Nat) (M : DM), OM c o M → M 6 0 = nI q → M 8 0 = nI v → q + j = s + 3 → ∀ fu, j < fu → ∃ M' : DM, fX6_readsNumber_L10 n kk fu x1 x2 (nI s) M = kk x1 x2 (nI s) M' ∧ M' 6 0 = nI (q + dgc c o j q) ∧ M' 8 0 = nI (nbr o (dgc c o j q) q v) ∧ ∀ r, r ≠ 6 → r ≠ 8 → M' r = M r := by
  intro j
  induction j with
  | zero =>
    intro q v M hM h6 h8 hq fu hfu
    obtain ⟨fu, rfl⟩ : ∃ z, fu = z + 1 := ⟨fu - 1, by omega⟩
    have hc := hM.1
    refine ⟨M, ?_, h6, h8, fun r _ _ => rfl⟩
    unfold fX6_readsNumber_L10
    rw [hM.2.1, h6, lit_n 3, nI_add]
    rw [if_pos (show nI (s + 3) ≤ nI q from nI_le (by omega) (by omega)), ite_self]
  | succ j ih =>
    intro q v M hM h6 h8 hq fu hfu
    obtain ⟨fu, rfl⟩ : ∃ z, fu = z + 1 := ⟨fu - 1, by omega⟩
    have hc := hM.1
    unfold fX6_readsNumber_L10
    rw [hM.2.1, h6, lit_n 3, nI_add]
    by_cases e : q < c
    · have hb := hM.2.2 q e
      rw [if_neg (nI_ge e (by omega)), if_neg (nI_ge (by omega) (by omega)), rd_in _ (by omega) (by omega), bnd_s, hb.1, isF_m, bnd_s, isF_n (by omega)]
      by_cases f : 48 ≤ o q ∧ o q ≤ 57
      · rw [if_pos (show decide (48 ≤ o q ∧ o q ≤ 57) = true from decide_eq_true f), if_neg (show ¬ (1 : Int32) = 0 from by decide), bnd_s, sl_s, sl_s, h8, up_ne (k := 8) (j := 6) _ _ (by decide), h6, nI_1, lit_n 10, pk_mul, nI_add, lit_n 48, n_sub (by omega)]
        obtain ⟨M', m1, m2, m3, m4⟩ := ih (q + 1) (10 * v + o q - 48) (va_up (va_up M 8 (fun _ => nI (10 * v + o q - 48))) 6 (fun _ => nI (q + 1))) (hM.rows (by rw [up_ne _ _ (by decide), up_ne _ _ (by decide)]) (by rw [up_ne _ _ (by decide), up_ne _ _ (by decide)])) (by rw [up_eq]) (by rw [up_ne _ _ (by decide), up_eq]) (by omega) fu (by omega)
        refine ⟨M', m1, ?_, ?_, fun r r1 r2 => ?_⟩
        · rw [m2]
          conv => rhs; unfold dgc
          rw [if_pos ⟨e, f⟩, show q + 1 + dgc c o j (q + 1) = q + (dgc c o j (q + 1) + 1) by omega]
        · rw [m3]
          conv => rhs; unfold dgc
          rw [if_pos ⟨e, f⟩]
          conv => rhs; unfold nbr
          rw [Nat.mul_comm 10 v]
        · rw [m4 r r1 r2, up_ne _ _ r1, up_ne _ _ r2]
      · rw [if_neg (show ¬ decide (48 ≤ o q ∧ o q ≤ 57) = true from fun z => f (of_decide_eq_true z)), if_pos rfl]
        have : dgc c o (j + 1) q = 0 := if_neg (fun z => f z.2)
        exact ⟨M, rfl, by rw [this]; exact h6, by rw [this]; exact h8, fun r _ _ => rfl⟩
    · rw [if_pos (nI_le (by omega) (by omega))]
      have : dgc c o (j + 1) q = 0 := if_neg (fun z => e z.1)
      exact ⟨M, rfl, by rw [this]; exact h6, by rw [this]; exact h8, fun r _ _ => rfl⟩
theorem m_num {c : Nat} {o : Nat → Nat} {n : Nat} (hn : 1400 ≤ n) {p lo hi : Nat} (hp : p < 60) (hlo : lo < 2 ^ 31) (hhi : hi < 2 ^ 31) {M : DM} (hM : OM c o M) (h6 : M 6 0 = nI (p + 1)) : ∃ M' : DM, fX6_readsNumber n M (nI lo) (nI hi) = some (if 0 < dgO c o p ∧ lo ≤ nuO c o p ∧ nuO c o p ≤ hi then 1 else 0, M') ∧ M' 6 0 = nI (p + 1 + dgO c o p) ∧ M' 8 0 = nI (nuO c o p) ∧ ∀ r, r ≠ 6 → r ≠ 8 → M' r = M r := by
  have hd := dgO_le c o p
  have hnu := nuO_lt c o p
  unfold fX6_readsNumber
  rw [sl_s, sl_s, h6]
  obtain ⟨M', m1, m2, m3, m4⟩ := m_num_L (c := c) (o := o) n (fun (x1 : Int32) (x2 : Int32) (x3 : Int32) (XM : DM) => if (XM 6 0) ≤ x3 then some (0, XM) else bnd (fX6_in (XM 8 0) x1 x2) fun r4 => if r4 = 0 then some (0, XM) else some (1, XM)) (nI lo) (nI hi) (s := p + 1) (by omega) 3 (p + 1) 0 (va_up M 8 (fun _ => 0)) (hM.rows (up_ne _ _ (by decide)) (up_ne _ _ (by decide))) (by rw [up_ne _ _ (by decide)]; exact h6) (by rw [up_eq]; rfl) (by omega) n (by omega)
  refine ⟨M', ?_, m2, m3, fun r r1 r2 => by rw [m4 r r1 r2, up_ne _ _ r2]⟩
  refine Eq.trans m1 ?_
  try dsimp only
  rw [m2, m3]
  change (if nI (p + 1 + dgO c o p) ≤ nI (p + 1) then some (0, M') else bnd (fX6_in (nI (nuO c o p)) (nI lo) (nI hi)) fun r4 => if r4 = 0 then some (0, M') else some (1, M')) = _
  by_cases e : 0 < dgO c o p
  · rw [if_neg (nI_ge (by omega) (by omega)), m_in, bnd_s]
    have q1 : nI (nuO c o p) < nI lo ↔ nuO c o p < lo := nI_ltI (by omega) hlo
    have q2 : nI hi < nI (nuO c o p) ↔ hi < nuO c o p := nI_ltI hhi (by omega)
    by_cases f : lo ≤ nuO c o p ∧ nuO c o p ≤ hi
    · rw [if_neg (show ¬ (nI (nuO c o p) < nI lo ∨ nI hi < nI (nuO c o p)) by rw [q1, q2]; omega), if_neg (show ¬ (1 : Int32) = 0 from by decide), if_pos ⟨e, f⟩]
    · rw [if_pos (show (nI (nuO c o p) < nI lo ∨ nI hi < nI (nuO c o p)) by rw [q1, q2]; omega), if_pos rfl, if_neg (fun z => f z.2)]
  · rw [if_pos (nI_le (by omega) (by omega)), if_neg (fun z => e z.1)]
/-- the end of an order -/
def rdT (XM : DM) : Option (Int32 × DM) := if (XM 5 0) ≤ (XM 6 0) then some (0, XM) else bnd (rdA 60 (XM 4) (XM 6 0)) fun v10 => if v10 = 59 then some (1, va_up XM 6 (fun _ => ((XM 6 0) + 1))) else some (0, XM)
def rd3 (n : Nat) (XM : DM) : Option (Int32 × DM) := if (XM 7 0) = 110 then bnd (fX6_readsNumber n XM 1 99) fun u => if u.1 = 0 then some (0, u.2) else rdT u.2 else some (0, XM)
def rd2 (n : Nat) (XM : DM) : Option (Int32 × DM) := if (XM 7 0) = 106 then bnd (fX6_readsNumber n XM 0 999) fun u => if u.1 = 0 then rd3 n u.2 else rdT u.2 else rd3 n XM
def rd1 (n : Nat) (XM : DM) : Option (Int32 × DM) := if (XM 7 0) = 98 then rdT XM else if (XM 7 0) = 117 then rdT XM else if (XM 7 0) = 114 then bnd (fX6_readsNumber n XM 1 999) fun u => if u.1 = 0 then rd2 n u.2 else rdT u.2 else rd2 n XM
theorem rO_eq (n : Nat) (XM : DM) : fX6_readsOrder n XM = bnd (rdA 60 (XM 4) (XM 6 0)) fun v1 => rd1 n (va_up (va_up XM 7 (fun _ => v1)) 6 (fun _ => ((va_up XM 7 (fun _ => v1)) 6 0) + 1)) := by
  unfold fX6_readsOrder rd1 rd2 rd3 rdT
  simp only [sl_n, if_neg (show ¬ (1 : Int32) = 0 from by decide), if_true]
theorem rdT_ok {c : Nat} {o : Nat → Nat} {M : DM} (hM : OM c o M) {e : Nat} (he : e < 2 ^ 31) (h6 : M 6 0 = nI e) : ∃ M' : DM, rdT M = some (if e < c ∧ o e = 59 then 1 else 0, M') ∧ ((e < c ∧ o e = 59) → M' 6 0 = nI (e + 1)) ∧ ∀ r, r ≠ 6 → M' r = M r := by
  have hc := hM.1
  unfold rdT
  rw [hM.2.1, h6]
  by_cases h : e < c
  · have hb := hM.2.2 e h
    rw [if_neg (nI_ge h (by omega)), rd_in _ (by omega) (by omega), bnd_s, hb.1]
    by_cases f : o e = 59
    · rw [if_pos (show nI (o e) = 59 from by rw [f]; rfl), if_pos ⟨h, f⟩]
      exact ⟨_, rfl, fun _ => by rw [up_eq, nI_1], fun r hr => up_ne _ _ hr⟩
    · rw [if_neg (fun z => f ((eq_l (a := o e) (k := 59) (by omega) (by omega)).mp z)), if_neg (fun z => f z.2)]
      exact ⟨M, rfl, fun z => absurd z.2 f, fun r _ => rfl⟩
  · rw [if_pos (nI_le (by omega) he), if_neg (fun z => h z.1)]
    exact ⟨M, rfl, fun z => absurd z.1 h, fun r _ => rfl⟩
/-- what reading an order at p comes to -/
def RdO (c : Nat) (o : Nat → Nat) (p : Nat) (M : DM) (q : Option (Int32 × DM)) : Prop := ∃ M' : DM, q = some (if eO c o p = 0 then 0 else 1, M') ∧ (¬ eO c o p = 0 → M' 6 0 = nI (eO c o p) ∧ M' 7 0 = nI (o p) ∧ (0 < dgO c o p → M' 8 0 = nI (nuO c o p))) ∧ ∀ r, r ≠ 6 → r ≠ 7 → r ≠ 8 → M' r = M r
theorem m_order {c : Nat} {o : Nat → Nat} {n : Nat} (hn : 1400 ≤ n) {M : DM} (hM : OM c o M) {p : Nat} (hp : p < c) (h6 : M 6 0 = nI p) : RdO c o p M (fX6_readsOrder n M) := by
  have hc := hM.1
  have hb := hM.2.2 p hp
  have hd := dgO_le c o p
  have hnu := nuO_lt c o p
  rw [rO_eq, h6, rd_in _ (by omega) (by omega), bnd_s, hb.1, up_ne (k := 7) (j := 6) _ _ (by decide), h6, nI_1]
  generalize hX : va_up (va_up M 7 (fun _ => nI (o p))) 6 (fun _ => nI (p + 1)) = X
  have x6 : X 6 0 = nI (p + 1) := by rw [← hX, up_eq]
  have x7 : X 7 0 = nI (o p) := by rw [← hX, up_ne _ _ (by decide), up_eq]
  have xr : ∀ r, r ≠ 6 → r ≠ 7 → X r = M r := fun r r1 r2 => by rw [← hX, up_ne _ _ r1, up_ne _ _ r2]
  have hX' : OM c o X := hM.rows (xr 4 (by decide) (by decide)) (xr 5 (by decide) (by decide))
  clear hX
  have G : ∀ (Y : DM), Y 7 = X 7 → ∀ k : Nat, k < 2 ^ 31 → (Y 7 0 = (OfNat.ofNat k : Int32) ↔ o p = k) := fun Y hY k hk => by
    rw [hY, x7]
    exact eq_l (by omega) hk
  -- no figures: the end at once
  have T0 : (o p = 98 ∨ o p = 117) → RdO c o p M (rdT X) := by
    intro g
    obtain ⟨M', m1, m2, m3⟩ := rdT_ok hX' (e := p + 1) (by omega) x6
    refine ⟨M', ?_, ?_, fun r r1 r2 r3 => by rw [m3 r r1, xr r r1 r2]⟩
    · rw [m1]
      by_cases e : p + 1 < c ∧ o (p + 1) = 59
      · have d0 : dgO c o p = 0 := if_neg (fun z => by omega)
        have : ¬ eO c o p = 0 := by
          unfold eO
          rw [if_pos (by rw [d0]; exact ⟨e.1, e.2, by unfold okO; exact decide_eq_true (Or.inl ⟨g, rfl⟩)⟩)]
          omega
        rw [if_pos e, if_neg this]
      · have : eO c o p = 0 := by
          unfold eO
          refine if_neg (fun z => ?_)
          have z3 := of_decide_eq_true z.2.2
          have d0 : dgO c o p = 0 := by omega
          rw [d0] at z
          exact e ⟨z.1, z.2.1⟩
        rw [if_neg e, if_pos this]
    · intro h
      have q : p + 1 + dgO c o p < c ∧ o (p + 1 + dgO c o p) = 59 ∧ okO (o p) (dgO c o p) (nuO c o p) = true := by
        by_cases z : p + 1 + dgO c o p < c ∧ o (p + 1 + dgO c o p) = 59 ∧ okO (o p) (dgO c o p) (nuO c o p) = true
        · exact z
        · exact absurd (if_neg z) h
      have z3 := of_decide_eq_true q.2.2
      have d0 : dgO c o p = 0 := by omega
      have ee : eO c o p = p + dgO c o p + 2 := if_pos q
      rw [d0] at q
      refine ⟨?_, ?_, fun z => absurd z (by omega)⟩
      · rw [m2 ⟨q.1, q.2.1⟩, ee, d0]
      · rw [m3 7 (by decide)]; exact x7
  -- a number, then the end
  have T1 : ∀ lo hi : Nat, lo < 2 ^ 31 → hi < 2 ^ 31 → (∀ d v, v < 1000 → (okO (o p) d v = true ↔ 0 < d ∧ lo ≤ v ∧ v ≤ hi)) → ∀ F : DM → Option (Int32 × DM), (∀ Y : DM, Y 7 = X 7 → F Y = some (0, Y)) → RdO c o p M (bnd (fX6_readsNumber n X (nI lo) (nI hi)) fun u => if u.1 = 0 then F u.2 else rdT u.2) := by
    intro lo hi hlo hhi hk F hF
    obtain ⟨Y, y1, y2, y3, y4⟩ := m_num hn (show p < 60 by omega) hlo hhi hX' x6
    rw [y1, bnd_s]
    try dsimp only
    have ko := hk (dgO c o p) (nuO c o p) hnu
    by_cases e : 0 < dgO c o p ∧ lo ≤ nuO c o p ∧ nuO c o p ≤ hi
    · rw [if_pos e, if_neg (show ¬ (1 : Int32) = 0 from by decide)]
      have oY : OM c o Y := hX'.rows (y4 4 (by decide) (by decide)) (y4 5 (by decide) (by decide))
      obtain ⟨M', m1, m2, m3⟩ := rdT_ok oY (e := p + 1 + dgO c o p) (by omega) y2
      refine ⟨M', ?_, ?_, fun r r1 r2 r3 => by rw [m3 r r1, y4 r r1 r3, xr r r1 r2]⟩
      · rw [m1]
        by_cases f : p + 1 + dgO c o p < c ∧ o (p + 1 + dgO c o p) = 59
        · have : ¬ eO c o p = 0 := by
            unfold eO
            rw [if_pos ⟨f.1, f.2, ko.mpr e⟩]
            omega
          rw [if_pos f, if_neg this]
        · have : eO c o p = 0 := if_neg (fun z => f ⟨z.1, z.2.1⟩)
          rw [if_neg f, if_pos this]
      · intro h
        have q : p + 1 + dgO c o p < c ∧ o (p + 1 + dgO c o p) = 59 ∧ okO (o p) (dgO c o p) (nuO c o p) = true := by
          by_cases z : p + 1 + dgO c o p < c ∧ o (p + 1 + dgO c o p) = 59 ∧ okO (o p) (dgO c o p) (nuO c o p) = true
          · exact z
          · exact absurd (if_neg z) h
        have ee : eO c o p = p + dgO c o p + 2 := if_pos q
        refine ⟨?_, ?_, fun _ => ?_⟩
        · rw [m2 ⟨q.1, q.2.1⟩, ee, show p + 1 + dgO c o p + 1 = p + dgO c o p + 2 by omega]
        · rw [m3 7 (by decide), y4 7 (by decide) (by decide)]; exact x7
        · rw [m3 8 (by decide)]; exact y3
    · rw [if_neg e, if_pos rfl, hF Y (y4 7 (by decide) (by decide))]
      have : eO c o p = 0 := if_neg (fun z => e (ko.mp z.2.2))
      refine ⟨Y, by rw [if_pos this], fun z => absurd this z, fun r r1 r2 r3 => by rw [y4 r r1 r3, xr r r1 r2]⟩
  have N3 : ¬ o p = 110 → ∀ Y : DM, Y 7 = X 7 → rd3 n Y = some (0, Y) := by
    intro g Y hY
    unfold rd3
    rw [if_neg (fun z => g ((G Y hY 110 (by decide)).mp z))]
  have N2 : ¬ o p = 106 → ¬ o p = 110 → ∀ Y : DM, Y 7 = X 7 → rd2 n Y = some (0, Y) := by
    intro g g2 Y hY
    unfold rd2
    rw [if_neg (fun z => g ((G Y hY 106 (by decide)).mp z)), N3 g2 Y hY]
  unfold rd1
  by_cases g1 : o p = 98
  · rw [if_pos ((G X rfl 98 (by decide)).mpr g1)]
    exact T0 (Or.inl g1)
  rw [if_neg (fun z => g1 ((G X rfl 98 (by decide)).mp z))]
  by_cases g2 : o p = 117
  · rw [if_pos ((G X rfl 117 (by decide)).mpr g2)]
    exact T0 (Or.inr g2)
  rw [if_neg (fun z => g2 ((G X rfl 117 (by decide)).mp z))]
  by_cases g3 : o p = 114
  · rw [if_pos ((G X rfl 114 (by decide)).mpr g3)]
    refine T1 1 999 (by decide) (by decide) (fun d v hv => ?_) (rd2 n) (N2 (by omega) (by omega))
    unfold okO
    rw [decide_eq_true_iff]
    omega
  rw [if_neg (fun z => g3 ((G X rfl 114 (by decide)).mp z))]
  unfold rd2
  by_cases g4 : o p = 106
  · rw [if_pos ((G X rfl 106 (by decide)).mpr g4)]
    refine T1 0 999 (by decide) (by decide) (fun d v hv => ?_) (rd3 n) (N3 (by omega))
    unfold okO
    rw [decide_eq_true_iff]
    omega
  rw [if_neg (fun z => g4 ((G X rfl 106 (by decide)).mp z))]
  unfold rd3
  by_cases g5 : o p = 110
  · rw [if_pos ((G X rfl 110 (by decide)).mpr g5)]
    refine T1 1 99 (by decide) (by decide) (fun d v hv => ?_) (fun Y => some (0, Y)) (fun Y _ => rfl)
    unfold okO
    rw [decide_eq_true_iff]
    omega
  rw [if_neg (fun z => g5 ((G X rfl 110 (by decide)).mp z))]
  have : eO c o p = 0 := by
    unfold eO
    refine if_neg (fun z => ?_)
    have z3 := of_decide_eq_true z.2.2
    omega
  exact ⟨X, by rw [if_pos this], fun z => absurd this z, fun r r1 r2 r3 => xr r r1 r2⟩
