/-! a sentence goes well -/
theorem minL {x k : Nat} (hx : x < 2 ^ 31) (hk : k < 2 ^ 31) : (if nI x < (OfNat.ofNat k : Int32) then nI x else (OfNat.ofNat k : Int32)) = nI (min k x) := n_min hk hx
theorem maxL {x k : Nat} (hx : x < 2 ^ 31) (hk : k < 2 ^ 31) : (if (OfNat.ofNat k : Int32) < nI x then nI x else (OfNat.ofNat k : Int32)) = nI (max k x) := n_max hk hx
def hsS (w : WS) (s c : Nat) : Nat → Bool := fun j => decide (wsn w j = s ∧ ¬ wkd w j = 3 ∧ wcl w j = c)
/-- the speeds behind a sentence that went well -/
def grS (w : WS) (t sp : Nat → Nat) (s : Nat) : Nat → Nat := fun c => if anyN (hsS w s c) (wK w) 0 = true then min 400 (sp c + t 6) else sp c
theorem grS_VP {w : WS} {t sp : Nat → Nat} {s : Nat} (hp : VP sp) : VP (grS w t sp s) := by
  intro c hc
  obtain ⟨a, b⟩ := hp c hc
  unfold grS
  by_cases h : anyN (hsS w s c) (wK w) 0 = true
  · rw [if_pos h]; omega
  · rw [if_neg h]; exact ⟨a, b⟩
/-- does the sentence of a shown word end ahead of the next shown word? -/
abbrev enS (w : WS) (i : Nat) : Prop := ¬ (nx w (i + 1) < wK w ∧ wsn w (nx w (i + 1)) = wsn w i)
theorem anyN_congr {p q : Nat → Bool} {k a k' a' : Nat} (h : (∃ j, a ≤ j ∧ j < a + k ∧ p j = true) ↔ (∃ j, a' ≤ j ∧ j < a' + k' ∧ q j = true)) : anyN p k a = anyN q k' a' := by
  have := (anyN_iff p k a).trans (h.trans (anyN_iff q k' a').symm)
  cases h1 : anyN p k a <;> cases h2 : anyN q k' a' <;> simp_all
/-- behind the sentence's end no shown word belongs to it -/
theorem enS_no {w : WS} (hv : VS w) {i : Nat} (hi : i < wK w) (he : enS w i) {j : Nat} (h1 : i < j) (h2 : j < wK w) (h3 : ¬ wkd w j = 3) : ¬ wsn w j = wsn w i := by
  obtain ⟨a1, a2, a3, a4⟩ := nx_spec w (show i + 1 ≤ wK w by omega)
  have hj : nx w (i + 1) ≤ j := by
    by_cases c : nx w (i + 1) ≤ j
    · exact c
    · exact absurd (a4 j (by omega) (by omega)) h3
  intro e
  apply he
  have m1 := sn_mono hv hj
  have m2 := sn_mono hv (show i ≤ nx w (i + 1) by omega)
  exact ⟨by omega, by omega⟩
theorem c_gr {w : WS} (hv : VS w) {i : Nat} (hi : i < wK w) (he : enS w i) (c : Nat) : anyN (clp w c) (i + 1 - fsp w (wsn w i)) (fsp w (wsn w i)) = anyN (hsS w (wsn w i) c) (wK w) 0 := by
  obtain ⟨f1, f2, f3⟩ := fsp_spec hv (sn_nS hv hi)
  have f4 := fsp_le hv hi
  refine anyN_congr ⟨?_, ?_⟩
  · rintro ⟨j, h1, h2, h3⟩
    have m1 := sn_mono hv h1
    have m2 := sn_mono hv (show j ≤ i by omega)
    simp only [clp, decide_eq_true_eq] at h3
    exact ⟨j, by omega, by omega, by simp only [hsS, decide_eq_true_eq]; exact ⟨by omega, h3.1, h3.2⟩⟩
  · rintro ⟨j, h1, h2, h3⟩
    simp only [hsS, decide_eq_true_eq] at h3
    have hle : j ≤ i := by
      by_cases c1 : j ≤ i
      · exact c1
      · exact absurd h3.1 (enS_no hv hi he (by omega) (by omega) h3.2.1)
    have hge : fsp w (wsn w i) ≤ j := by
      by_cases c1 : fsp w (wsn w i) ≤ j
      · exact c1
      · have := f3 j (by omega); omega
    exact ⟨j, hge, by omega, by simp only [clp, decide_eq_true_eq]; exact ⟨h3.2.1, h3.2.2⟩⟩
theorem c_es_L {w : WS} {XW XP XQ : DM} {t sp : Nat → Nat} (hW : PW w XW XP XQ) (hv : VS w) (ht : VT t) (hp : VP sp) {n : Nat} (hn : 200 ≤ n) {i : Nat} (hi : i < wK w) (he : enS w i) (kk : DM → Option DM) : ∀ (k c : Nat), c + k = 3 → ∀ fu, k < fu → ∀ S : DM, S 11 0 = 0 → PT t (S 3) → (∀ c', c' < 3 → S 4 c' = nI (if c' < c then grS w t sp (wsn w i) c' else sp c')) → ∃ S' : DM, fX3_endSentenceOf_L33 n XW XP kk fu (nI i) (nI (fsp w (wsn w i))) (nI c) S = kk S' ∧ PV (grS w t sp (wsn w i)) (S' 4) ∧ ∀ k, k ≠ 4 → S' k = S k := by
  have hk := hv.1
  have ht6 : t 6 ≤ 20 := ht.2.2.2.2.2.2.2.2.2.2.2
  have f1 := (fsp_spec hv (sn_nS hv hi)).1
  have f4 := fsp_le hv hi
  intro k
  induction k with
  | zero =>
    intro c hc fu hf S h11 hT hs
    obtain ⟨fu, rfl⟩ : ∃ z, fu = z + 1 := ⟨fu - 1, by omega⟩
    unfold fX3_endSentenceOf_L33
    rw [if_pos ((le_l1 (k := 3) (a := c) (by omega) (by omega)).mpr (by omega))]
    refine ⟨S, rfl, fun c' h => ?_, fun _ _ => rfl⟩
    rw [hs c' h, if_pos (by omega)]
  | succ k ih =>
    intro c hc fu hf S h11 hT hs
    obtain ⟨fu, rfl⟩ : ∃ z, fu = z + 1 := ⟨fu - 1, by omega⟩
    obtain ⟨b1, b2⟩ := hp c (by omega)
    unfold fX3_endSentenceOf_L33
    rw [if_neg (fun e => absurd ((le_l1 (k := 3) (a := c) (by omega) (by omega)).mp e) (by omega)), if_pos h11, hasClassAmong_ok hW hv hn (by omega) hi f4, bnd_s, c_gr hv hi he]
    simp only [sl_s, nI_1]
    by_cases h : anyN (hsS w (wsn w i) c) (wK w) 0 = true
    · rw [if_pos h, if_neg (by decide), at_in _ (by omega) (by omega), bnd_s, at_l (k := 6) _ (by omega) (by omega), bnd_s, hs c (by omega), if_neg (Nat.lt_irrefl c), hT 6 (by omega), nI_add, minL (x := sp c + t 6) (k := 400) (by omega) (by omega), put_in _ _ (by omega) (by omega), bnd_s]
      obtain ⟨S', e1, e2, e3⟩ := ih (c + 1) (by omega) fu (by omega) (va_up S 4 (upd (S 4) c (nI (min 400 (sp c + t 6))))) (by rw [up_ne _ _ (by decide)]; exact h11) (by rw [up_ne _ _ (by decide)]; exact hT) (fun c' h' => by
        rw [up_eq]
        by_cases q : c' = c
        · subst q
          rw [u_eq, if_pos (by omega)]
          unfold grS
          rw [if_pos h]
        · rw [u_ne _ _ q, hs c' h']
          by_cases z : c' < c
          · rw [if_pos z, if_pos (by omega)]
          · rw [if_neg z, if_neg (by omega)])
      refine ⟨S', e1, e2, fun k hk => ?_⟩
      rw [e3 k hk, up_ne _ _ hk]
    · rw [if_neg h, if_pos rfl]
      obtain ⟨S', e1, e2, e3⟩ := ih (c + 1) (by omega) fu (by omega) S h11 hT (fun c' h' => by
        rw [hs c' h']
        by_cases z : c' < c
        · rw [if_pos z, if_pos (by omega)]
        · rw [if_neg z]
          by_cases q : c' = c
          · subst q
            rw [if_pos (by omega)]
            unfold grS
            rw [if_neg h]
          · rw [if_neg (by omega)])
      exact ⟨S', e1, e2, e3⟩
theorem c_es {w : WS} {S XW XP XQ : DM} {t sp : Nat → Nat} (hW : PW w XW XP XQ) (hv : VS w) (ht : VT t) (hT : PT t (S 3)) (hp : VP sp) (hV : PV sp (S 4)) {n : Nat} (hn : 200 ≤ n) {i : Nat} (hi : i < wK w) (he : enS w i) : ∃ S' : DM, fX3_endSentenceOf n S XW XP (nI i) = some S' ∧ PV (if S 11 0 = 0 then grS w t sp (wsn w i) else sp) (S' 4) ∧ S' 11 0 = 0 ∧ ∀ k, k ≠ 4 → k ≠ 11 → S' k = S k := by
  have hk := hv.1
  have h1 := sn_le hv i
  unfold fX3_endSentenceOf
  simp only [sl_s]
  rw [at_in _ (by omega) (by omega), bnd_s, hW.2.2.1.2.1 i hi, at_in _ (by omega) (by omega), bnd_s, firsts_ok hW hv (sn_nS hv hi)]
  by_cases c : S 11 0 = 0
  · obtain ⟨S', e1, e2, e3⟩ := c_es_L hW hv ht hp hn hi he (fun XS => some (va_up XS 11 fun _ => 0)) 3 0 (by omega) n (by omega) S c hT (fun c' h => by rw [if_neg (by omega)]; exact hV c' h)
    rw [if_pos c]
    refine ⟨va_up S' 11 (fun _ => 0), e1, by rw [up_ne _ _ (by decide)]; exact e2, by rw [up_eq], fun k h4 h11 => by rw [up_ne _ _ h11]; exact e3 k h4⟩
  · obtain ⟨n, rfl⟩ : ∃ z, n = z + 1 := ⟨n - 1, by omega⟩
    unfold fX3_endSentenceOf_L33
    rw [if_neg (by decide), if_neg c, if_neg c]
    exact ⟨va_up S 11 (fun _ => 0), rfl, by rw [up_ne _ _ (by decide)]; exact hV, by rw [up_eq], fun k h4 h11 => by rw [up_ne _ _ h11]⟩
/-! the same in the reference -/
theorem m_gw_L54 {w : WS} {M : DM} (hM : PM w M) (hv : VS w) (n : Nat) {i c : Nat} (hi : i < wK w) (hc : c ≤ 2) (e : Int32) (d : Nat → Int32) (kk : Int32 → Int32 → Int32 → Int32 → DM → Option DM) : ∀ (k a : Nat), a + k = i + 1 → ∀ fu, k < fu → ∀ h : Nat, h ≤ 1 → fX6_goesWell_L54 n kk fu (nI i) e (nI c) (nI h) (nI a) (va_up M 0 d) = kk (nI i) e (nI c) (if h = 1 ∨ anyN (hsS w (wsn w i) c) k a = true then 1 else 0) (va_up M 0 d) := by
  have hk := hv.1
  have hM' := hM.up d
  intro k
  induction k with
  | zero =>
    intro a ha fu hf h hh
    obtain ⟨fu, rfl⟩ : ∃ z, fu = z + 1 := ⟨fu - 1, by omega⟩
    unfold fX6_goesWell_L54
    rw [if_pos (nI_lt (by omega) (by omega))]
    congr 1
    by_cases z : h = 1
    · subst z; rw [if_pos (Or.inl rfl)]; rfl
    · rw [if_neg (by simp [anyN, z])]
      rw [show h = 0 by omega]; rfl
  | succ k ih =>
    intro a ha fu hf h hh
    obtain ⟨fu, rfl⟩ : ∃ z, fu = z + 1 := ⟨fu - 1, by omega⟩
    have s1 := sn_le hv a
    have s2 := sn_le hv i
    have hcl := wcl_le w a
    unfold fX6_goesWell_L54
    rw [if_neg (nI_nlt (by omega) (by omega))]
    simp only [sl_s, nI_1]
    have i1 := ih (a + 1) (by omega) fu (by omega) 1 (by omega)
    have i0 := ih (a + 1) (by omega) fu (by omega) 0 (by omega)
    have i1' : fX6_goesWell_L54 n kk fu (nI i) e (nI c) 1 (nI (a + 1)) (va_up M 0 d) = kk (nI i) e (nI c) 1 (va_up M 0 d) := by
      have := i1
      rw [if_pos (Or.inl rfl)] at this
      exact this
    have i0' : fX6_goesWell_L54 n kk fu (nI i) e (nI c) 0 (nI (a + 1)) (va_up M 0 d) = kk (nI i) e (nI c) (if anyN (hsS w (wsn w i) c) k (a + 1) = true then 1 else 0) (va_up M 0 d) := by
      have this := i0
      simp at this
      exact this
    by_cases z : h = 1
    · subst z
      rw [if_neg (by decide), i1', if_pos (Or.inl rfl)]
    · rw [show h = 0 by omega, if_pos (by rfl)]
      rw [rd_in _ (by omega) (by omega), bnd_s, rd_in _ (by omega) (by omega), bnd_s, (hM'.2.2.2 a (by omega)).2.2.2.2.2.1, (hM'.2.2.2 i hi).2.2.2.2.2.1]
      by_cases q1 : wsn w a = wsn w i
      · rw [if_pos (by rw [q1]), m_isShown hM' hv (by omega), bnd_s]
        by_cases q2 : wkd w a = 3
        · rw [if_pos q2, if_pos rfl, i0']
          simp [anyN, hsS, q2]
        · rw [if_neg q2, if_neg (by decide), m_classOf hM' hv (by omega), bnd_s]
          by_cases q3 : wcl w a = c
          · rw [if_pos (by rw [q3]), i1']
            simp [anyN, hsS, q1, q2, q3]
          · rw [if_neg (fun e => q3 ((nI_eq (by omega) (by omega)).mp e)), i0']
            simp [anyN, hsS, q3]
      · rw [if_neg (fun e => q1 ((nI_eq (by omega) (by omega)).mp e)), i0']
        simp [anyN, hsS, q1]
/-- what the reference makes of the speeds at word i -/
def gM (w : WS) (t sp : Nat → Nat) (i : Nat) : Nat → Nat := fun c => if anyN (hsS w (wsn w i) c) (i + 1) 0 = true then min 400 (sp c + t 6) else sp c
theorem gM_VP {w : WS} {t sp : Nat → Nat} {s : Nat} (hp : VP sp) : VP (gM w t sp s) := by
  intro c hc
  obtain ⟨a, b⟩ := hp c hc
  unfold gM
  by_cases h : anyN (hsS w (wsn w s) c) (s + 1) 0 = true
  · rw [if_pos h]; omega
  · rw [if_neg h]; exact ⟨a, b⟩
theorem m_gw_L28 {w : WS} {M : DM} {t sp : Nat → Nat} (hM : PM w M) (hv : VS w) (ht : VT t) (hp : VP sp) {n : Nat} (hn : 200 ≤ n) {i : Nat} (hi : i < wK w) : ∀ (k c : Nat), c + k = 3 → ∀ fu, k < fu → ∀ d : Nat → Int32, d 344 = 0 → MT t d → (∀ c', c' < 3 → d (330 + c') = nI (if c' < c then gM w t sp i c' else sp c')) → ∃ d' : Nat → Int32, fX6_goesWell_L28 n fu (nI i) 1 (nI c) (va_up M 0 d) = some (va_up M 0 d') ∧ MV (gM w t sp i) d' ∧ ∀ k, (k < 330 ∨ 332 < k) → d' k = d k := by
  have hk := hv.1
  have ht6 : t 6 ≤ 20 := ht.2.2.2.2.2.2.2.2.2.2.2
  intro k
  induction k with
  | zero =>
    intro c hc fu hf d h344 hT hs
    obtain ⟨fu, rfl⟩ : ∃ z, fu = z + 1 := ⟨fu - 1, by omega⟩
    unfold fX6_goesWell_L28
    rw [if_pos ((le_l1 (k := 3) (a := c) (by omega) (by omega)).mpr (by omega))]
    refine ⟨d, rfl, fun c' h => ?_, fun _ _ => rfl⟩
    rw [hs c' h, if_pos (by omega)]
  | succ k ih =>
    intro c hc fu hf d h344 hT hs
    obtain ⟨fu, rfl⟩ : ∃ z, fu = z + 1 := ⟨fu - 1, by omega⟩
    obtain ⟨b1, b2⟩ := hp c (by omega)
    unfold fX6_goesWell_L28
    rw [if_neg (fun e => absurd ((le_l1 (k := 3) (a := c) (by omega) (by omega)).mp e) (by omega)), if_neg (by decide), rd_l (k := 344) _ (by omega) (by omega), bnd_s, up_eq, if_pos h344]
    simp only [sl_s]
    have L54 := m_gw_L54 hM hv n hi (show c ≤ 2 by omega) 1 d
    rw [show (fX6_goesWell_L54 n _ n (nI i) 1 (nI c) 0 0 (va_up M 0 d)) = _ from L54 _ (i + 1) 0 (by omega) n (by omega) 0 (by omega)]
    simp only [up_eq, up_up, nI_1, lit_n 330, nI_add]
    rw [rd_in _ (by omega) (by omega), bnd_s, hs c (by omega), if_neg (Nat.lt_irrefl c)]
    have key : ∀ v : Nat, v ≤ 420 → gM w t sp i c = min 400 v → ∃ d' : Nat → Int32, (if nI v ≤ 400 then bnd (wrA 348 d (nI (330 + c)) (nI v)) fun f15 => fX6_goesWell_L28 n fu (nI i) 1 (nI (c + 1)) (va_up M 0 f15) else bnd (wrA 348 d (nI (330 + c)) 400) fun f15 => fX6_goesWell_L28 n fu (nI i) 1 (nI (c + 1)) (va_up M 0 f15)) = some (va_up M 0 d') ∧ MV (gM w t sp i) d' ∧ ∀ k, (k < 330 ∨ 332 < k) → d' k = d k := by
      intro v hv9 hg
      have go : ∀ x : Int32, x = nI (gM w t sp i c) → ∃ d' : Nat → Int32, (bnd (wrA 348 d (nI (330 + c)) x) fun f15 => fX6_goesWell_L28 n fu (nI i) 1 (nI (c + 1)) (va_up M 0 f15)) = some (va_up M 0 d') ∧ MV (gM w t sp i) d' ∧ ∀ k, (k < 330 ∨ 332 < k) → d' k = d k := by
        intro x hx
        rw [wr_in _ _ (by omega) (by omega), bnd_s]
        obtain ⟨d', e1, e2, e3⟩ := ih (c + 1) (by omega) fu (by omega) (upd d (330 + c) x) (by rw [u_ne _ _ (by omega)]; exact h344) (by intro j hj; rw [u_ne _ _ (by omega)]; exact hT j hj) (fun c' h' => by
          by_cases q : c' = c
          · subst q; rw [u_eq, if_pos (by omega)]; exact hx
          · rw [u_ne _ _ (by omega), hs c' h']
            by_cases z : c' < c
            · rw [if_pos z, if_pos (by omega)]
            · rw [if_neg z, if_neg (by omega)])
        exact ⟨d', e1, e2, fun k hk => by rw [e3 k hk, u_ne _ _ (by omega)]⟩
      by_cases z : v ≤ 400
      · rw [if_pos ((le_l2 (a := v) (k := 400) (by omega) (by omega)).mpr z)]
        exact go _ (by rw [hg, Nat.min_eq_right z])
      · rw [if_neg (fun e => z ((le_l2 (a := v) (k := 400) (by omega) (by omega)).mp e))]
        exact go _ (by rw [hg, Nat.min_eq_left (by omega)]; rfl)
    by_cases h : anyN (hsS w (wsn w i) c) (i + 1) 0 = true
    · rw [if_pos (Or.inr h), if_neg (by decide), rd_l (k := 339) _ (by omega) (by omega), bnd_s, hT 6 (by omega), nI_add]
      exact key _ (by omega) (by unfold gM; rw [if_pos h])
    · rw [if_neg (show ¬ ((0 : Nat) = 1 ∨ anyN (hsS w (wsn w i) c) (i + 1) 0 = true) from fun q => q.elim (by decide) h), if_pos rfl, lit_n 0, nI_add]
      exact key _ (by omega) (by unfold gM; rw [if_neg h]; omega)
theorem m_gw {w : WS} {M : DM} {d : Nat → Int32} {t sp : Nat → Nat} (hM : PM w M) (hv : VS w) (ht : VT t) (hT : MT t d) (hp : VP sp) (hV : MV sp d) {n : Nat} (hn : 200 ≤ n) {i : Nat} (hi : i < wK w) : ∃ d' : Nat → Int32, fX6_goesWell n (va_up M 0 d) (nI i) = some (va_up M 0 d') ∧ MV (if (1 < wkd w i ∨ i + 1 = wK w) ∧ d 344 = 0 then gM w t sp i else sp) d' ∧ ∀ k, (k < 330 ∨ 332 < k) → d' k = d k := by
  have hk := hv.1
  have hM' := hM.up d
  have hb := (hv.2.1 i hi).2.2.2.1
  unfold fX6_goesWell
  simp only [sl_s]
  rw [rd_in _ (by omega) (by omega), bnd_s, (hM'.2.2.2 i hi).2.2.2.1, hM'.1]
  have yes : (1 < wkd w i ∨ i + 1 = wK w) → ∃ d' : Nat → Int32, fX6_goesWell_L28 n n (nI i) 1 0 (va_up M 0 d) = some (va_up M 0 d') ∧ MV (if (1 < wkd w i ∨ i + 1 = wK w) ∧ d 344 = 0 then gM w t sp i else sp) d' ∧ ∀ k, (k < 330 ∨ 332 < k) → d' k = d k := by
    intro hh
    by_cases c : d 344 = 0
    · rw [if_pos ⟨hh, c⟩]
      exact m_gw_L28 hM hv ht hp hn hi 3 0 (by omega) n (by omega) d c hT (fun c' h' => by rw [if_neg (by omega)]; exact hV c' h')
    · obtain ⟨z, rfl⟩ : ∃ z, n = z + 1 := ⟨n - 1, by omega⟩
      unfold fX6_goesWell_L28
      rw [if_neg (by decide), if_neg (by decide), rd_l (k := 344) _ (by omega) (by omega), bnd_s, up_eq, if_neg c, if_neg (fun q => c q.2)]
      exact ⟨d, rfl, hV, fun _ _ => rfl⟩
  by_cases c1 : 1 < wkd w i
  · rw [if_pos ((lt_l1 (k := 1) (a := wkd w i) (by omega) (by omega)).mpr c1)]
    exact yes (Or.inl c1)
  · rw [if_neg (fun e => c1 ((lt_l1 (k := 1) (a := wkd w i) (by omega) (by omega)).mp e)), lit_n 1, n_sub (by omega)]
    by_cases c2 : i + 1 = wK w
    · rw [if_pos (by congr 1; omega)]
      exact yes (Or.inr c2)
    · rw [if_neg (fun e => c2 (by have := (nI_eq (by omega) (by omega)).mp e; omega)), if_neg (fun q => q.1.elim c1 c2)]
      obtain ⟨z, rfl⟩ : ∃ z, n = z + 1 := ⟨n - 1, by omega⟩
      unfold fX6_goesWell_L28
      rw [if_neg (by decide), if_pos rfl]
      exact ⟨d, rfl, hV, fun _ _ => rfl⟩
