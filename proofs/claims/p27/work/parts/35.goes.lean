/-! the reference goes on by a word -/
theorem gM_here {w : WS} (hv : VS w) {t sp : Nat → Nat} {i p : Nat} (hi : i < wK w) (he : enS w i) (h1 : i ≤ p) (h2 : p < wK w) (h3 : wsn w p = wsn w i) (h4 : ∀ j, i < j → j ≤ p → wkd w j = 3) : gM w t sp p = grS w t sp (wsn w i) := by
  funext c
  have e : anyN (hsS w (wsn w p) c) (p + 1) 0 = anyN (hsS w (wsn w i) c) (wK w) 0 := by
    rw [h3]
    refine anyN_congr ⟨fun ⟨j, a1, a2, a3⟩ => ⟨j, a1, by omega, a3⟩, fun ⟨j, a1, a2, a3⟩ => ⟨j, a1, ?_, a3⟩⟩
    by_cases c1 : j ≤ i
    · omega
    · simp only [hsS, decide_eq_true_eq] at a3
      exact absurd a3.1 (enS_no hv hi he (by omega) (by omega) a3.2.1)
  unfold gM grS
  rw [e]
theorem gM_mark {w : WS} (hv : VS w) {t sp : Nat → Nat} {i p : Nat} (h1 : i < p) (h3 : ¬ wsn w p = wsn w i) (h4 : ∀ j, i < j → j ≤ p → wkd w j = 3) : gM w t sp p = sp := by
  funext c
  unfold gM
  rw [if_neg]
  rw [anyN_iff]
  rintro ⟨j, a1, a2, a3⟩
  simp only [hsS, decide_eq_true_eq] at a3
  by_cases c1 : j ≤ i
  · have m1 := sn_mono hv c1
    have m2 := sn_mono hv (show i ≤ p by omega)
    omega
  · exact a3.2.1 (h4 j (by omega) (by omega))
/-- have the speeds grown once the reference is at place p behind word i? -/
abbrev dnS (w : WS) (i p : Nat) : Prop := 1 < wkd w i ∨ i + 1 = wK w ∨ i + 1 < p
theorem dnS_en {w : WS} (hv : VS w) {i : Nat} (hi : i < wK w) (hs : ¬ wkd w i = 3) : dnS w i (nx w (i + 1)) ↔ enS w i := by
  obtain ⟨a1, a2, a3, a4⟩ := nx_spec w (show i + 1 ≤ wK w by omega)
  have hi1 := hv.2.2.2.2.1 i
  unfold dnS enS
  constructor
  · rintro (h | h | h) ⟨b1, b2⟩
    · rw [if_pos h] at hi1
      have := sn_mono hv a1
      omega
    · omega
    · have h3 := a4 (i + 1) (by omega) h
      have h4 := hv.2.2.2.2.1 (i + 1)
      rw [if_pos (by omega)] at h4
      have := sn_mono hv (show i + 1 + 1 ≤ nx w (i + 1) by omega)
      have := sn_mono hv (show i ≤ i + 1 by omega)
      omega
  · intro h
    by_cases c1 : 1 < wkd w i
    · exact Or.inl c1
    · by_cases c2 : i + 1 = wK w
      · exact Or.inr (Or.inl c2)
      · by_cases c3 : i + 1 < nx w (i + 1)
        · exact Or.inr (Or.inr c3)
        · exfalso
          apply h
          have e : nx w (i + 1) = i + 1 := by omega
          rw [if_neg c1] at hi1
          rw [e]
          exact ⟨by omega, by omega⟩
theorem m_go_L {w : WS} {M : DM} {t sp : Nat → Nat} (hM : PM w M) (hv : VS w) (ht : VT t) (hp : VP sp) {n : Nat} (hn : 200 ≤ n) {i : Nat} (hi : i < wK w) (hs : ¬ wkd w i = 3) (x2 : Int32) (kk : Int32 → Int32 → DM → Option DM) : ∀ (k p : Nat), p + k = nx w (i + 1) → i + 1 ≤ p → ∀ fu, k < fu → ∀ d : Nat → Int32, MT t d → (enS w i → MV (if d 344 = 0 ∧ dnS w i p then grS w t sp (wsn w i) else sp) d) → (¬ enS w i → MV sp d) → ∃ d' : Nat → Int32, fX6_goesOn_L31 n kk fu (nI p) x2 (va_up M 0 d) = kk (nI (nx w (i + 1))) x2 (va_up M 0 d') ∧ MV (if d 344 = 0 ∧ enS w i then grS w t sp (wsn w i) else sp) d' ∧ ∀ k, (k < 330 ∨ 332 < k) → d' k = d k := by
  have hk := hv.1
  obtain ⟨a1, a2, a3, a4⟩ := nx_spec w (show i + 1 ≤ wK w by omega)
  intro k
  induction k with
  | zero =>
    intro p hp1 hp2 fu hf d hT hV hV2
    obtain ⟨fu, rfl⟩ : ∃ z, fu = z + 1 := ⟨fu - 1, by omega⟩
    have hM' := hM.up d
    have e : p = nx w (i + 1) := by omega
    subst e
    have fin : MV (if d 344 = 0 ∧ enS w i then grS w t sp (wsn w i) else sp) d := by
      by_cases he : enS w i
      · have := hV he
        by_cases c : d 344 = 0
        · rw [if_pos ⟨c, (dnS_en hv hi hs).mpr he⟩] at this
          rw [if_pos ⟨c, he⟩]; exact this
        · rw [if_neg (fun q => c q.1)] at this ⊢; exact this
      · rw [if_neg (fun q => he q.2)]; exact hV2 he
    unfold fX6_goesOn_L31
    rw [hM'.1]
    by_cases c : nx w (i + 1) < wK w
    · rw [if_neg (nI_ge c (by omega)), m_isShown hM' hv c, bnd_s, if_neg (a3 c), if_neg (by decide)]
      exact ⟨d, rfl, fin, fun _ _ => rfl⟩
    · rw [if_pos (nI_le (by omega) (by omega))]
      exact ⟨d, rfl, fin, fun _ _ => rfl⟩
  | succ k ih =>
    intro p hp1 hp2 fu hf d hT hV hV2
    obtain ⟨fu, rfl⟩ : ∃ z, fu = z + 1 := ⟨fu - 1, by omega⟩
    have hM' := hM.up d
    have h3 : wkd w p = 3 := a4 p hp2 (by omega)
    have marks : ∀ j, i < j → j ≤ p → wkd w j = 3 := fun j b1 b2 => a4 j (by omega) (by omega)
    have he : enS w i := by
      rintro ⟨b1, b2⟩
      have h4 := hv.2.2.2.2.1 p
      rw [if_pos (by omega)] at h4
      have := sn_mono hv (show p + 1 ≤ nx w (i + 1) by omega)
      have := sn_mono hv (show i ≤ p by omega)
      omega
    have hV := hV he
    unfold fX6_goesOn_L31
    rw [hM'.1, if_neg (nI_ge (by omega) (by omega)), m_isShown hM' hv (by omega), bnd_s, if_pos h3, if_pos rfl]
    have hspv : VP (if d 344 = 0 ∧ dnS w i p then grS w t sp (wsn w i) else sp) := by
      by_cases c : d 344 = 0 ∧ dnS w i p
      · rw [if_pos c]; exact grS_VP hp
      · rw [if_neg c]; exact hp
    obtain ⟨d1, e1, e2, e3⟩ := m_gw hM hv ht hT hspv hV hn (show p < wK w by omega)
    rw [e1, bnd_s, sl_s, nI_1]
    have e344 : d1 344 = d 344 := e3 344 (by omega)
    obtain ⟨d', f1, f2, f3⟩ := ih (p + 1) (by omega) (by omega) fu (by omega) d1 (by intro j hj; rw [e3 _ (by omega)]; exact hT j hj) (fun _ => by
      rw [e344]
      by_cases c : d 344 = 0
      · rw [if_pos ⟨c, Or.inr (Or.inr (by omega))⟩]
        rw [if_pos ⟨Or.inl (by omega), c⟩] at e2
        by_cases cs : wsn w p = wsn w i
        · by_cases cd : dnS w i p
          · -- can't be: the sentence ended before
            exfalso
            rcases cd with h | h | h
            · have := hv.2.2.2.2.1 i
              rw [if_pos h] at this
              have := sn_mono hv hp2
              omega
            · omega
            · have h4 := hv.2.2.2.2.1 (i + 1)
              rw [if_pos (by rw [marks (i + 1) (by omega) (by omega)]; omega)] at h4
              have := sn_mono hv (show i + 1 + 1 ≤ p by omega)
              have := sn_mono hv (show i ≤ i + 1 by omega)
              omega
          · rw [if_neg (fun q => cd q.2), gM_here hv hi he (by omega) (by omega) cs marks] at e2
            exact e2
        · rw [gM_mark hv (by omega) cs marks] at e2
          by_cases cd : dnS w i p
          · rw [if_pos ⟨c, cd⟩] at e2
            exact e2
          · exfalso
            apply cs
            have q1 : ¬ 1 < wkd w i := fun h => cd (Or.inl h)
            have q2 : ¬ i + 1 < p := fun h => cd (Or.inr (Or.inr h))
            have e : p = i + 1 := by omega
            have := hv.2.2.2.2.1 i
            rw [if_neg q1] at this
            rw [e, this]
            rfl
      · rw [if_neg (fun q => c q.1)]
        rw [if_neg (fun q => c q.2), if_neg (fun q => c q.1)] at e2
        exact e2) (fun h => absurd he h)
    refine ⟨d', f1, ?_, fun k hk => (f3 k hk).trans (e3 k hk)⟩
    rw [e344] at f2
    exact f2
theorem m_goesOn {w : WS} {M : DM} {d : Nat → Int32} {t sp : Nat → Nat} (hM : PM w M) (hv : VS w) (ht : VT t) (hT : MT t d) (hp : VP sp) (hV : MV sp d) {n : Nat} (hn : 200 ≤ n) {i q : Nat} (hi : i < wK w) (hs : ¬ wkd w i = 3) (h301 : d 301 = nI i) (hq : q ≤ 3) (h340 : d 340 = nI q) : ∃ d' : Nat → Int32, fX6_goesOn n (va_up M 0 d) = some (va_up M 0 d') ∧ MV (if d 344 = 0 ∧ enS w i then grS w t sp (wsn w i) else sp) d' ∧ d' 346 = d 346 + 1 ∧ d' 344 = (if nx w (i + 1) < wK w ∧ ¬ wsn w (nx w (i + 1)) = wsn w i then 0 else d 344) ∧ d' 301 = oI (wK w) (nx w (i + 1)) ∧ (nx w (i + 1) < wK w → d' 302 = nI (wtn w t (if d 344 = 0 ∧ enS w i then grS w t sp (wsn w i) else sp) (nx w (i + 1))) ∧ (q = 3 → d' 340 = nI 3 ∧ d' 341 = d 342 ∧ d' 342 = d 343 ∧ d' 343 = nI (nx w (i + 1))) ∧ (q < 3 → d' 340 = nI (q + 1) ∧ d' (341 + q) = nI (nx w (i + 1)) ∧ ∀ j, j < q → d' (341 + j) = d (341 + j))) ∧ (¬ nx w (i + 1) < wK w → d' 302 = 0 ∧ ∀ k, 340 ≤ k → k ≤ 343 → d' k = d k) ∧ ∀ k, k ≠ 301 → k ≠ 302 → (k < 330 ∨ 332 < k) → (k < 340 ∨ 344 < k) → k ≠ 346 → d' k = d k := by
  have hk := hv.1
  obtain ⟨a1, a2, a3, a4⟩ := nx_spec w (show i + 1 ≤ wK w by omega)
  have s1 := sn_le hv i
  have s2 := sn_le hv (nx w (i + 1))
  unfold fX6_goesOn
  simp only [sl_s, up_eq, up_up]
  rw [rd_l (k := 301) _ (by omega) (by omega), bnd_s, rd_l (k := 346) _ (by omega) (by omega), bnd_s, wr_l (k := 346) _ _ (by omega) (by omega), bnd_s, h301]
  obtain ⟨d1, e1, e2, e3⟩ := m_gw (d := upd d 346 (d 346 + 1)) hM hv ht (by intro j hj; rw [u_ne _ _ (by omega)]; exact hT j hj) hp (by intro j hj; rw [u_ne _ _ (by omega)]; exact hV j hj) hn hi
  have e344 : d1 344 = d 344 := by rw [e3 344 (by omega), u_ne _ _ (by omega)]
  rw [show (upd d 346 (d 346 + 1)) 344 = d 344 from u_ne _ _ (by omega)] at e2
  rw [e1, bnd_s, nI_1]
  obtain ⟨d2, f1, f2, f3⟩ := m_go_L hM hv ht hp hn hi hs (nI i) _ (nx w (i + 1) - (i + 1)) (i + 1) (by omega) (Nat.le_refl _) n (by omega) d1 (by intro j hj; rw [e3 _ (by omega), u_ne _ _ (by omega)]; exact hT j hj) (fun he => by
    rw [e344]
    by_cases c : d 344 = 0
    · by_cases cd : 1 < wkd w i ∨ i + 1 = wK w
      · rw [if_pos ⟨cd, c⟩, gM_here hv hi he (Nat.le_refl i) hi rfl (fun j b1 b2 => by omega)] at e2
        rw [if_pos ⟨c, by rcases cd with h | h; exact Or.inl h; exact Or.inr (Or.inl h)⟩]
        exact e2
      · rw [if_neg (fun q => cd q.1)] at e2
        rw [if_neg (fun q => by rcases q.2 with h | h | h; exact cd (Or.inl h); exact cd (Or.inr h); omega)]
        exact e2
    · rw [if_neg (fun q => c q.2)] at e2
      rw [if_neg (fun q => c q.1)]
      exact e2) (fun he => by
    have : ¬ (1 < wkd w i ∨ i + 1 = wK w) := by
      intro cd
      apply he
      rw [← dnS_en hv hi hs]
      rcases cd with h | h
      · exact Or.inl h
      · exact Or.inr (Or.inl h)
    rw [if_neg (fun q => this q.1)] at e2
    exact e2)
  rw [f1]
  rw [e344] at f2
  have g346 : d2 346 = d 346 + 1 := by rw [f3 346 (by omega), e3 346 (by omega), u_eq]
  have g344 : d2 344 = d 344 := by rw [f3 344 (by omega), e344]
  have gfr : ∀ k, (k < 330 ∨ 332 < k) → k ≠ 346 → d2 k = d k := fun k b1 b2 => by rw [f3 k b1, e3 k b1, u_ne _ _ b2]
  have gT : MT t d2 := by intro j hj; rw [gfr _ (by omega) (by omega)]; exact hT j hj
  have gp : VP (if d 344 = 0 ∧ enS w i then grS w t sp (wsn w i) else sp) := by
    by_cases c : d 344 = 0 ∧ enS w i
    · rw [if_pos c]; exact grS_VP hp
    · rw [if_neg c]; exact hp
  have hM2 := hM.up d2
  rw [hM2.1]
  by_cases c : nx w (i + 1) < wK w
  · rw [if_neg (nI_ge c (by omega)), rd_in _ (by omega) (by omega), bnd_s, rd_in _ (by omega) (by omega), bnd_s, (hM2.2.2.2 _ c).2.2.2.2.2.1, (hM2.2.2.2 i hi).2.2.2.2.2.1]
    have go : ∀ d3 : Nat → Int32, (∀ k, k ≠ 344 → d3 k = d2 k) → d3 344 = (if nx w (i + 1) < wK w ∧ ¬ wsn w (nx w (i + 1)) = wsn w i then 0 else d 344) → ∃ d' : Nat → Int32, (if (va_up M 0 d3) 9 0 ≤ nI (nx w (i + 1)) then bnd (fX6_becomes (va_up M 0 d3) (-1)) fun X16 => some X16 else bnd (fX6_becomes (va_up M 0 d3) (nI (nx w (i + 1)))) fun X16 => some X16) = some (va_up M 0 d') ∧ MV (if d 344 = 0 ∧ enS w i then grS w t sp (wsn w i) else sp) d' ∧ d' 346 = d 346 + 1 ∧ d' 344 = (if nx w (i + 1) < wK w ∧ ¬ wsn w (nx w (i + 1)) = wsn w i then 0 else d 344) ∧ d' 301 = oI (wK w) (nx w (i + 1)) ∧ (nx w (i + 1) < wK w → d' 302 = nI (wtn w t (if d 344 = 0 ∧ enS w i then grS w t sp (wsn w i) else sp) (nx w (i + 1))) ∧ (q = 3 → d' 340 = nI 3 ∧ d' 341 = d 342 ∧ d' 342 = d 343 ∧ d' 343 = nI (nx w (i + 1))) ∧ (q < 3 → d' 340 = nI (q + 1) ∧ d' (341 + q) = nI (nx w (i + 1)) ∧ ∀ j, j < q → d' (341 + j) = d (341 + j))) ∧ (¬ nx w (i + 1) < wK w → d' 302 = 0 ∧ ∀ k, 340 ≤ k → k ≤ 343 → d' k = d k) ∧ ∀ k, k ≠ 301 → k ≠ 302 → (k < 330 ∨ 332 < k) → (k < 340 ∨ 344 < k) → k ≠ 346 → d' k = d k := by
      intro d3 h3 h4
      have hM3 := hM.up d3
      rw [hM3.1, if_neg (nI_ge c (by omega))]
      obtain ⟨d', k1, k2, k3, k4, k5, k6⟩ := m_bec (d := d3) (q := q) hM hv ht (by intro j hj; rw [h3 _ (by omega)]; exact gT j hj) gp (by intro j hj; rw [h3 _ (by omega)]; exact f2 j hj) c hq (by rw [h3 _ (by omega), gfr _ (by omega) (by omega)]; exact h340)
      have x342 : d3 342 = d 342 := by rw [h3 _ (by omega), gfr _ (by omega) (by omega)]
      have x343 : d3 343 = d 343 := by rw [h3 _ (by omega), gfr _ (by omega) (by omega)]
      rw [k1, bnd_s, oI_lt c]
      refine ⟨d', rfl, ?_, ?_, ?_, k2, fun _ => ⟨k3, fun z => ?_, fun z => ?_⟩, fun z => absurd c z, fun k b1 b2 b3 b4 b5 => ?_⟩
      · intro j hj; rw [k6 _ (by omega) (by omega) (by omega), h3 _ (by omega)]; exact f2 j hj
      · rw [k6 _ (by omega) (by omega) (by omega), h3 _ (by omega)]; exact g346
      · rw [k6 _ (by omega) (by omega) (by omega)]; exact h4
      · obtain ⟨z1, z2, z3, z4⟩ := k4 z
        exact ⟨z1, by rw [z2, x342], by rw [z3, x343], z4⟩
      · obtain ⟨z1, z2, z3⟩ := k5 z
        exact ⟨z1, z2, fun j hj => by rw [z3 j hj, h3 _ (by omega), gfr _ (by omega) (by omega)]⟩
      · rw [k6 k b1 b2 (by omega), h3 k (by omega), gfr k b3 b5]
    by_cases cs : wsn w (nx w (i + 1)) = wsn w i
    · rw [if_pos (by rw [cs])]
      have g2 := go d2 (fun _ _ => rfl) (by rw [if_neg (fun z => z.2 cs)]; exact g344)
      rw [hM2.1] at g2
      exact g2
    · rw [if_neg (fun e => cs ((nI_eq (by omega) (by omega)).mp e)), wr_l (k := 344) _ _ (by omega) (by omega), bnd_s]
      simp only [up_eq, up_up]
      exact go (upd d2 344 0) (fun k hk => u_ne _ _ hk) (by rw [u_eq, if_pos ⟨c, cs⟩])
  · rw [if_pos (nI_le (by omega) (by omega)), if_pos (nI_le (by omega) (by omega))]
    obtain ⟨d', k1, k2, k3, k4⟩ := m_bec_none (M := M) (d := d2)
    rw [k1, bnd_s, oI_ge c]
    refine ⟨d', rfl, ?_, ?_, ?_, k2, fun z => absurd z c, fun _ => ⟨k3, fun k b1 b2 => ?_⟩, fun k b1 b2 b3 b4 b5 => ?_⟩
    · intro j hj; rw [k4 _ (by omega) (by omega)]; exact f2 j hj
    · rw [k4 _ (by omega) (by omega)]; exact g346
    · rw [k4 _ (by omega) (by omega), if_neg (fun z => c z.1)]; exact g344
    · rw [k4 _ (by omega) (by omega), gfr _ (by omega) (by omega)]
    · rw [k4 k b1 b2, gfr k b3 b5]
