/-! a word becomes the present one, on both sides -/
abbrev dBe (k : Nat) : Prop := k ≠ 301 ∧ k ≠ 302 ∧ (k < 340 ∨ 343 < k)
theorem BJ {w : WS} {S XW XP XQ M : DM} {d : Nat → Int32} {t sp : Nat → Nat} (hW : PW w XW XP XQ) (hM : PM w M) (hv : VS w) (ht : VT t) (hT : PT t (S 3)) (hTM : MT t d) (hp : VP sp) (hV : PV sp (S 4)) (hVM : MV sp d) (hL : RLat w (S 10) d) (ha : S 11 0 = d 344) (ha1 : d 344 = 0 ∨ d 344 = 1) (h12 : S 12 0 = d 345) {n : Nat} (hn : 200 ≤ n) {i : Nat} (hi : i < wK w) (hs : ¬ wkd w i = 3) : ∃ (S' : DM) (d' : Nat → Int32), fX3_becomePresent n S XW (nI i) = some S' ∧ fX6_becomes (va_up M 0 d) (nI i) = some (va_up M 0 d') ∧ RC w t sp S' d' i (wtn w t sp i) ∧ (∀ k, k ≠ 6 → k ≠ 7 → k ≠ 10 → S' k = S k) ∧ (∀ k, dBe k → d' k = d k) := by
  obtain ⟨q, la, l1, l2, l3, l4, l5⟩ := hL
  have hcl := wcl_le w i
  obtain ⟨v1, v2⟩ := hp (wcl w i) (by omega)
  obtain ⟨S', a1, a2, a3, a4, a5, a6, a7⟩ := c_bp hW hv ht hT hp hV hn hi
  obtain ⟨d', b1, b2, b3, b4, b5, b6⟩ := m_bec hM hv ht hTM hp hVM hi l1 l2
  have e344 : d' 344 = d 344 := b6 344 (by omega) (by omega) (by omega)
  have e11 : S' 11 0 = S 11 0 := by rw [a7 11 (by decide) (by decide) (by decide)]
  refine ⟨S', d', a1, b1, ⟨hp, by rw [a7 4 (by decide) (by decide) (by decide)]; exact hV, by intro z hz; rw [b6 _ (by omega) (by omega) (by omega)]; exact hVM z hz, by omega, fun _ => hs, by rw [oI_lt hi]; exact a2, by rw [oI_lt hi]; exact b2, a3, b3, wtm_le hv ht hi v1, fun _ => wtm_pos hv ht hi (by omega) hs, RLat.push hi hs l1 l3 l4 l5 a4 a5 a6 b4 b5, by rw [e11, ha]; exact ha1, by rw [e344]; exact ha1, fun _ => by rw [e11, ha, e344], by rw [a7 12 (by decide) (by decide) (by decide), b6 345 (by omega) (by omega) (by omega)]; exact h12⟩, a7, fun k ⟨z1, z2, z3⟩ => b6 k z1 z2 z3⟩
/-! asking back -/
def spA (w : WS) (t sp : Nat → Nat) (q : Nat) (la : Nat → Nat) : Nat → Nat := fun c => if anyN (fun i => decide (i < q ∧ wcl w (la i) = c)) 3 0 = true then max 50 (sp c - t 5) else sp c
theorem spA_VP {w : WS} {t sp : Nat → Nat} {q : Nat} {la : Nat → Nat} (hp : VP sp) : VP (spA w t sp q la) := by
  intro c hc
  obtain ⟨a, b⟩ := hp c hc
  unfold spA
  by_cases h : anyN (fun i => decide (i < q ∧ wcl w (la i) = c)) 3 0 = true
  · rw [if_pos h]; omega
  · rw [if_neg h]; exact ⟨a, b⟩
theorem c_lat {w : WS} {S XW XP XQ : DM} (hW : PW w XW XP XQ) (hv : VS w) (n : Nat) {q : Nat} {la : Nat → Nat} (hl : ∀ i, i < q → la i < wK w ∧ ¬ wkd w (la i) = 3) (hf : ∀ i, i < 3 → S 10 i = if i < q then nI (la i) else -1) {c : Nat} (hc : c ≤ 2) : ∀ (k i : Nat), i + k = 3 → ∀ fu, k < fu → fX3_isClassOfLatest_L2 n S XW fu (nI c) (nI i) = some (if anyN (fun i => decide (i < q ∧ wcl w (la i) = c)) k i = true then 1 else 0) := by
  have hk := hv.1
  intro k
  induction k with
  | zero =>
    intro i hi fu hf
    obtain ⟨fu, rfl⟩ : ∃ z, fu = z + 1 := ⟨fu - 1, by omega⟩
    unfold fX3_isClassOfLatest_L2
    rw [if_pos ((le_l1 (k := 3) (a := i) (by omega) (by omega)).mpr (by omega))]
    simp [anyN]
  | succ k ih =>
    intro i hi fu hfu
    obtain ⟨fu, rfl⟩ : ∃ z, fu = z + 1 := ⟨fu - 1, by omega⟩
    unfold fX3_isClassOfLatest_L2
    rw [if_neg (fun e => absurd ((le_l1 (k := 3) (a := i) (by omega) (by omega)).mp e) (by omega)), rd_in _ (by omega) (by omega), bnd_s, hf i (by omega)]
    simp only [sl_s, nI_1]
    have ih := ih (i + 1) (by omega) fu (by omega)
    by_cases c1 : i < q
    · obtain ⟨g1, g2⟩ := hl i c1
      have := wcl_le w (la i)
      rw [if_pos c1, if_neg (nI_ne_m1 (by omega)), bnd_s, classOf_ok hW hv g1, bnd_s]
      by_cases c2 : wcl w (la i) = c
      · rw [if_pos (by rw [c2])]
        simp [anyN, c1, c2]
      · rw [if_neg (fun e => c2 ((nI_eq (by omega) (by omega)).mp e)), ih]
        simp [anyN, c2]
    · rw [if_neg c1, if_pos rfl, ih]
      simp [anyN, c1]
theorem c_ask_L {w : WS} {XW XP XQ : DM} {t sp : Nat → Nat} (hW : PW w XW XP XQ) (hv : VS w) (ht : VT t) (hp : VP sp) {n : Nat} (hn : 200 ≤ n) {q : Nat} {la : Nat → Nat} (hl : ∀ i, i < q → la i < wK w ∧ ¬ wkd w (la i) = 3) (kk : DM → Option DM) : ∀ (k c : Nat), c + k = 3 → ∀ fu, k < fu → ∀ S : DM, PT t (S 3) → (∀ i, i < 3 → S 10 i = if i < q then nI (la i) else -1) → (∀ c', c' < 3 → S 4 c' = nI (if c' < c then spA w t sp q la c' else sp c')) → ∃ S' : DM, fX3_askBack_L2 n XW XP kk fu (nI c) S = kk S' ∧ PV (spA w t sp q la) (S' 4) ∧ ∀ k, k ≠ 4 → S' k = S k := by
  have hk := hv.1
  have ht5 : t 5 ≤ 50 := ht.2.2.2.2.2.2.2.2.2.2.1
  intro k
  induction k with
  | zero =>
    intro c hc fu hf S hT hfl hs
    obtain ⟨fu, rfl⟩ : ∃ z, fu = z + 1 := ⟨fu - 1, by omega⟩
    unfold fX3_askBack_L2
    rw [if_pos ((le_l1 (k := 3) (a := c) (by omega) (by omega)).mpr (by omega))]
    refine ⟨S, rfl, fun c' h => ?_, fun _ _ => rfl⟩
    rw [hs c' h, if_pos (by omega)]
  | succ k ih =>
    intro c hc fu hf S hT hfl hs
    obtain ⟨fu, rfl⟩ : ∃ z, fu = z + 1 := ⟨fu - 1, by omega⟩
    obtain ⟨b1, b2⟩ := hp c (by omega)
    unfold fX3_askBack_L2 fX3_isClassOfLatest
    rw [if_neg (fun e => absurd ((le_l1 (k := 3) (a := c) (by omega) (by omega)).mp e) (by omega))]
    rw [show fX3_isClassOfLatest_L2 n S XW n (nI c) 0 = _ from c_lat hW hv n hl hfl (show c ≤ 2 by omega) 3 0 (by omega) n (by omega), bnd_s]
    simp only [sl_s, nI_1]
    by_cases h : anyN (fun i => decide (i < q ∧ wcl w (la i) = c)) 3 0 = true
    · rw [if_pos h, if_neg (by decide), at_in _ (by omega) (by omega), bnd_s, at_l (k := 5) _ (by omega) (by omega), bnd_s, hs c (by omega), if_neg (Nat.lt_irrefl c), hT 5 (by omega), n_sub (by omega), maxL (x := sp c - t 5) (k := 50) (by omega) (by omega), put_in _ _ (by omega) (by omega), bnd_s]
      obtain ⟨S', e1, e2, e3⟩ := ih (c + 1) (by omega) fu (by omega) (va_up S 4 (upd (S 4) c (nI (max 50 (sp c - t 5))))) (by rw [up_ne _ _ (by decide)]; exact hT) (by intro i hi; rw [up_ne _ _ (by decide)]; exact hfl i hi) (fun c' h' => by
        rw [up_eq]
        by_cases z : c' = c
        · subst z
          rw [u_eq, if_pos (by omega)]
          unfold spA
          rw [if_pos h]
        · rw [u_ne _ _ z, hs c' h']
          by_cases y : c' < c
          · rw [if_pos y, if_pos (by omega)]
          · rw [if_neg y, if_neg (by omega)])
      exact ⟨S', e1, e2, fun k hk => by rw [e3 k hk, up_ne _ _ hk]⟩
    · rw [if_neg h, if_pos rfl]
      exact ih (c + 1) (by omega) fu (by omega) S hT hfl (fun c' h' => by
        rw [hs c' h']
        by_cases y : c' < c
        · rw [if_pos y, if_pos (by omega)]
        · rw [if_neg y]
          by_cases z : c' = c
          · subst z
            rw [if_pos (by omega)]
            unfold spA
            rw [if_neg h]
          · rw [if_neg (by omega)])
theorem m_lat {w : WS} {M : DM} (hM : PM w M) (hv : VS w) (n : Nat) {q : Nat} {la : Nat → Nat} (hq : q ≤ 3) (hl : ∀ i, i < q → la i < wK w ∧ ¬ wkd w (la i) = 3) {c : Nat} (hc : c ≤ 2) (d : Nat → Int32) (h340 : d 340 = nI q) (hd : ∀ i, i < q → d (341 + (q - 1 - i)) = nI (la i)) (kk : Int32 → Int32 → DM → Option DM) : ∀ (k a : Nat), a + k = q → ∀ fu, k < fu → ∀ h : Nat, h ≤ 1 → fX6_asks_L11 n kk fu (nI c) (nI h) (nI a) (va_up M 0 d) = kk (nI c) (if h = 1 ∨ anyN (fun z => decide (wcl w (la (q - 1 - z)) = c)) k a = true then 1 else 0) (va_up M 0 d) := by
  have hk := hv.1
  have hM' := hM.up d
  intro k
  induction k with
  | zero =>
    intro a ha fu hf h hh
    obtain ⟨fu, rfl⟩ : ∃ z, fu = z + 1 := ⟨fu - 1, by omega⟩
    unfold fX6_asks_L11
    rw [up_eq, rd_l (k := 340) _ (by omega) (by omega), bnd_s, h340, if_pos (nI_le (by omega) (by omega))]
    congr 1
    by_cases z : h = 1
    · subst z; rw [if_pos (Or.inl rfl)]; rfl
    · rw [if_neg (by simp [anyN, z])]
      rw [show h = 0 by omega]; rfl
  | succ k ih =>
    intro a ha fu hf h hh
    obtain ⟨fu, rfl⟩ : ∃ z, fu = z + 1 := ⟨fu - 1, by omega⟩
    unfold fX6_asks_L11
    rw [up_eq, rd_l (k := 340) _ (by omega) (by omega), bnd_s, h340, if_neg (nI_ge (by omega) (by omega))]
    simp only [sl_s, nI_1]
    have i1 := ih (a + 1) (by omega) fu (by omega) 1 (by omega)
    have i0 := ih (a + 1) (by omega) fu (by omega) 0 (by omega)
    have i1' : fX6_asks_L11 n kk fu (nI c) 1 (nI (a + 1)) (va_up M 0 d) = kk (nI c) 1 (va_up M 0 d) := by
      have := i1
      rw [if_pos (Or.inl rfl)] at this
      exact this
    have i0' : fX6_asks_L11 n kk fu (nI c) 0 (nI (a + 1)) (va_up M 0 d) = kk (nI c) (if anyN (fun z => decide (wcl w (la (q - 1 - z)) = c)) k (a + 1) = true then 1 else 0) (va_up M 0 d) := by
      have this := i0
      simp at this
      exact this
    by_cases z : h = 1
    · subst z
      rw [if_neg (by decide), i1', if_pos (Or.inl rfl)]
    · obtain ⟨g1, g2⟩ := hl (q - 1 - a) (by omega)
      have := wcl_le w (la (q - 1 - a))
      have hda : d (341 + a) = nI (la (q - 1 - a)) := by
        have := hd (q - 1 - a) (by omega)
        rw [show q - 1 - (q - 1 - a) = a by omega] at this
        exact this
      rw [show h = 0 by omega, if_pos (by rfl), lit_n 341, nI_add, rd_in _ (by omega) (by omega), bnd_s, hda, m_classOf hM' hv g1, bnd_s]
      by_cases q3 : wcl w (la (q - 1 - a)) = c
      · rw [if_pos (by rw [q3]), i1']
        simp [anyN, q3]
      · rw [if_neg (fun e => q3 ((nI_eq (by omega) (by omega)).mp e)), i0']
        simp [anyN, q3]
theorem lat_rev {w : WS} {q c : Nat} {la : Nat → Nat} (hq : q ≤ 3) : anyN (fun z => decide (wcl w (la (q - 1 - z)) = c)) q 0 = anyN (fun i => decide (i < q ∧ wcl w (la i) = c)) 3 0 := by
  refine anyN_congr ⟨fun ⟨j, a1, a2, a3⟩ => ⟨q - 1 - j, by omega, by omega, ?_⟩, fun ⟨j, a1, a2, a3⟩ => ⟨q - 1 - j, by omega, ?_, ?_⟩⟩
  · simp only [decide_eq_true_eq] at a3 ⊢
    exact ⟨by omega, a3⟩
  · simp only [decide_eq_true_eq] at a3
    omega
  · simp only [decide_eq_true_eq] at a3 ⊢
    rw [show q - 1 - (q - 1 - j) = j by omega]
    exact a3.2
theorem m_ask_L {w : WS} {M : DM} {t sp : Nat → Nat} (hM : PM w M) (hv : VS w) (ht : VT t) (hp : VP sp) {n : Nat} (hn : 200 ≤ n) {q : Nat} {la : Nat → Nat} (hq : q ≤ 3) (hl : ∀ i, i < q → la i < wK w ∧ ¬ wkd w (la i) = 3) (kk : DM → Option DM) : ∀ (k c : Nat), c + k = 3 → ∀ fu, k < fu → ∀ d : Nat → Int32, MT t d → d 340 = nI q → (∀ i, i < q → d (341 + (q - 1 - i)) = nI (la i)) → (∀ c', c' < 3 → d (330 + c') = nI (if c' < c then spA w t sp q la c' else sp c')) → ∃ d' : Nat → Int32, fX6_asks_L2 n kk fu (nI c) (va_up M 0 d) = kk (va_up M 0 d') ∧ MV (spA w t sp q la) d' ∧ ∀ k, (k < 330 ∨ 332 < k) → d' k = d k := by
  have hk := hv.1
  have ht5 : t 5 ≤ 50 := ht.2.2.2.2.2.2.2.2.2.2.1
  intro k
  induction k with
  | zero =>
    intro c hc fu hf d hT h340 hd hs
    obtain ⟨fu, rfl⟩ : ∃ z, fu = z + 1 := ⟨fu - 1, by omega⟩
    unfold fX6_asks_L2
    rw [if_pos ((le_l1 (k := 3) (a := c) (by omega) (by omega)).mpr (by omega))]
    refine ⟨d, rfl, fun c' h => ?_, fun _ _ => rfl⟩
    rw [hs c' h, if_pos (by omega)]
  | succ k ih =>
    intro c hc fu hf d hT h340 hd hs
    obtain ⟨fu, rfl⟩ : ∃ z, fu = z + 1 := ⟨fu - 1, by omega⟩
    obtain ⟨b1, b2⟩ := hp c (by omega)
    unfold fX6_asks_L2
    rw [if_neg (fun e => absurd ((le_l1 (k := 3) (a := c) (by omega) (by omega)).mp e) (by omega))]
    simp only [sl_s]
    rw [show (fX6_asks_L11 n _ n (nI c) 0 0 (va_up M 0 d)) = _ from m_lat hM hv n hq hl (show c ≤ 2 by omega) d h340 hd _ q 0 (by omega) n (by omega) 0 (by omega)]
    simp only [up_eq, up_up, nI_1, lit_n 330, nI_add]
    rw [rd_in _ (by omega) (by omega), bnd_s, hs c (by omega), if_neg (Nat.lt_irrefl c), lat_rev hq]
    have key : ∀ v : Nat, v ≤ 400 → spA w t sp q la c = max 50 v → ∃ d' : Nat → Int32, (if 50 ≤ nI v then bnd (wrA 348 d (nI (330 + c)) (nI v)) fun f15 => fX6_asks_L2 n kk fu (nI (c + 1)) (va_up M 0 f15) else bnd (wrA 348 d (nI (330 + c)) 50) fun f15 => fX6_asks_L2 n kk fu (nI (c + 1)) (va_up M 0 f15)) = kk (va_up M 0 d') ∧ MV (spA w t sp q la) d' ∧ ∀ k, (k < 330 ∨ 332 < k) → d' k = d k := by
      intro v hv9 hg
      have go : ∀ x : Int32, x = nI (spA w t sp q la c) → ∃ d' : Nat → Int32, (bnd (wrA 348 d (nI (330 + c)) x) fun f15 => fX6_asks_L2 n kk fu (nI (c + 1)) (va_up M 0 f15)) = kk (va_up M 0 d') ∧ MV (spA w t sp q la) d' ∧ ∀ k, (k < 330 ∨ 332 < k) → d' k = d k := by
        intro x hx
        rw [wr_in _ _ (by omega) (by omega), bnd_s]
        obtain ⟨d', e1, e2, e3⟩ := ih (c + 1) (by omega) fu (by omega) (upd d (330 + c) x) (by intro j hj; rw [u_ne _ _ (by omega)]; exact hT j hj) (by rw [u_ne _ _ (by omega)]; exact h340) (by intro i hi; rw [u_ne _ _ (by omega)]; exact hd i hi) (fun c' h' => by
          by_cases z : c' = c
          · subst z; rw [u_eq, if_pos (by omega)]; exact hx
          · rw [u_ne _ _ (by omega), hs c' h']
            by_cases y : c' < c
            · rw [if_pos y, if_pos (by omega)]
            · rw [if_neg y, if_neg (by omega)])
        exact ⟨d', e1, e2, fun k hk => by rw [e3 k hk, u_ne _ _ (by omega)]⟩
      by_cases z : 50 ≤ v
      · rw [if_pos ((le_l1 (k := 50) (a := v) (by omega) (by omega)).mpr z)]
        exact go _ (by rw [hg, Nat.max_eq_right z])
      · rw [if_neg (fun e => z ((le_l1 (k := 50) (a := v) (by omega) (by omega)).mp e))]
        exact go _ (by rw [hg, Nat.max_eq_left (by omega)]; rfl)
    by_cases h : anyN (fun i => decide (i < q ∧ wcl w (la i) = c)) 3 0 = true
    · rw [if_pos (Or.inr h), if_neg (by decide), rd_l (k := 338) _ (by omega) (by omega), bnd_s, hT 5 (by omega), n_sub (by omega)]
      exact key _ (by omega) (by unfold spA; rw [if_pos h])
    · rw [if_neg (show ¬ ((0 : Nat) = 1 ∨ anyN (fun i => decide (i < q ∧ wcl w (la i) = c)) 3 0 = true) from fun q => q.elim (by decide) h), if_pos rfl, lit_n 0, n_sub (by omega)]
      exact key _ (by omega) (by unfold spA; rw [if_neg h]; omega)
