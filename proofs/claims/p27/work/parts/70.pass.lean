/-! p27: what the class shows, and ticks that go by -/
def CC (w : WS) (t sp : Nat → Nat) (j r : Nat) (q : Bool) (S XW XP XQ : DM) : Prop := PW w XW XP XQ ∧ VS w ∧ VT t ∧ PT t (S 3) ∧ VP sp ∧ PV sp (S 4) ∧ j ≤ wK w ∧ (j < wK w → ¬ wkd w j = 3) ∧ S 6 0 = oI (wK w) j ∧ S 7 0 = nI r ∧ r ≤ 186000 ∧ (j < wK w → 1 ≤ r) ∧ S 11 0 = (if q = true then 0 else 1)
theorem RC.cc {w : WS} {t sp : Nat → Nat} {S XW XP XQ : DM} {d : Nat → Int32} {j r : Nat} (h : RC w t sp S d j r) (hW : PW w XW XP XQ) (hv : VS w) (ht : VT t) (hT : PT t (S 3)) : ∃ q, CC w t sp j r q S XW XP XQ := by
  obtain ⟨h1, h2, h3, h4, h5, h6, h7, h8, h9, h10, h11, h12, h13, h14, h15, h16⟩ := h
  rcases h13 with e | e
  · exact ⟨true, hW, hv, ht, hT, h1, h2, h4, h5, h6, h8, h10, h11, by rw [e, if_pos rfl]⟩
  · exact ⟨false, hW, hv, ht, hT, h1, h2, h4, h5, h6, h8, h10, h11, by rw [e, if_neg (by decide)]⟩
theorem INV.cc {XF XN XA XW XP XQ XO : DM} {XH : HD} {XM : DM} (hI : INV XF XN XA XW XP XQ XO XH XM) : ∃ (T : Nat → Int32) (L : Nat) (t sp : Nat → Nat) (j r : Nat) (q : Bool), L ≤ 300 ∧ XN 2 0 = nI L ∧ (∀ i, i < L → XN 1 i = T i) ∧ CC (wsOf T L) t sp j r q XN XW XP XQ := by
  obtain ⟨⟨T, L, hR, hW, hM⟩, hO, hH⟩ := hI
  obtain ⟨h1, h2, h3, h4, ⟨t, sp, j, r, t1, t2, t3, t4⟩, hP, hN, h13, h14⟩ := hR
  obtain ⟨q, hq⟩ := t4.cc hW (wsOf_VS h1) t1 t2
  exact ⟨T, L, t, sp, j, r, q, h1, h2, fun i hi => (h4 i hi).1, hq⟩
/-- the speeds, the asking and the rest behind a word that is shown to its end -/
def nsp (w : WS) (t : Nat → Nat) (j : Nat) (sp : Nat → Nat) (q : Bool) : Nat → Nat := if q = true ∧ enS w j then grS w t sp (wsn w j) else sp
def nqs (w : WS) (j : Nat) (q : Bool) : Bool := if enS w j then true else q
def nrs (w : WS) (t sp : Nat → Nat) (i : Nat) : Nat := if i < wK w then wtn w t sp i else 0
abbrev PG : Type := Nat × Nat × Nat × Nat × (Nat → Nat) × Bool
def stp (r : Nat) (z : PG) : PG := (z.1 + 1, z.2.1 + r, z.2.2)
def jnp (z y : PG) : PG := (z.1 + y.1, z.2.1 + y.2.1, y.2.2)
/-- ticks go by: how many words end, how many ticks count, the present word, its rest, the speeds, was there no asking -/
def pg (w : WS) (t : Nat → Nat) : Nat → Nat → Nat → Nat → (Nat → Nat) → Bool → PG
  | 0, _, j, r, sp, q => (0, 0, j, r, sp, q)
  | m + 1, u, j, r, sp, q => if j < wK w then (if u < r then (0, u, j, r - u, sp, q) else stp r (pg w t m (u - r) (nx w (j + 1)) (nrs w t (nsp w t j sp q) (nx w (j + 1))) (nsp w t j sp q) (nqs w j q))) else (0, 0, j, r, sp, q)
theorem pg_ge {w : WS} {t : Nat → Nat} : ∀ (m u j r : Nat) (sp : Nat → Nat) (q : Bool), j ≤ wK w → j ≤ (pg w t m u j r sp q).2.2.1 ∧ (pg w t m u j r sp q).2.2.1 ≤ wK w := by
  intro m
  induction m with
  | zero => intro u j r sp q h; exact ⟨Nat.le_refl _, h⟩
  | succ m ih =>
    intro u j r sp q h
    unfold pg
    by_cases c : j < wK w
    · rw [if_pos c]
      by_cases c2 : u < r
      · rw [if_pos c2]; exact ⟨Nat.le_refl _, h⟩
      · rw [if_neg c2]
        obtain ⟨n1, n2, -, -⟩ := nx_spec w (show j + 1 ≤ wK w by omega)
        obtain ⟨a, b⟩ := ih (u - r) (nx w (j + 1)) (nrs w t (nsp w t j sp q) (nx w (j + 1))) (nsp w t j sp q) (nqs w j q) n2
        exact ⟨Nat.le_trans (by omega) a, b⟩
    · rw [if_neg c]; exact ⟨Nat.le_refl _, h⟩
theorem pg_end {w : WS} {t : Nat → Nat} (m u j r : Nat) (sp : Nat → Nat) (q : Bool) (h : ¬ j < wK w) : pg w t m u j r sp q = (0, 0, j, r, sp, q) := by
  cases m with
  | zero => rfl
  | succ m => unfold pg; rw [if_neg h]
theorem pg_fu {w : WS} {t : Nat → Nat} : ∀ (m u j r : Nat) (sp : Nat → Nat) (q : Bool) (m' : Nat), wK w - j ≤ m → wK w - j ≤ m' → pg w t m u j r sp q = pg w t m' u j r sp q := by
  intro m
  induction m with
  | zero =>
    intro u j r sp q m' h h'
    rw [pg_end _ _ _ _ _ _ (by omega), pg_end _ _ _ _ _ _ (by omega)]
  | succ m ih =>
    intro u j r sp q m' h h'
    by_cases c : j < wK w
    · obtain ⟨m', rfl⟩ : ∃ z, m' = z + 1 := ⟨m' - 1, by omega⟩
      obtain ⟨n1, n2, -, -⟩ := nx_spec w (show j + 1 ≤ wK w by omega)
      unfold pg
      rw [ih (u - r) (nx w (j + 1)) _ _ _ m' (by omega) (by omega)]
    · rw [pg_end _ _ _ _ _ _ c, pg_end _ _ _ _ _ _ c]
theorem pg_split {w : WS} {t : Nat → Nat} (a b : Nat) : ∀ (m a j r : Nat) (sp : Nat → Nat) (q : Bool), j ≤ wK w → wK w - j ≤ m → pg w t m (a + b) j r sp q = if (pg w t m a j r sp q).2.2.1 < wK w then jnp (pg w t m a j r sp q) (pg w t m b (pg w t m a j r sp q).2.2.1 (pg w t m a j r sp q).2.2.2.1 (pg w t m a j r sp q).2.2.2.2.1 (pg w t m a j r sp q).2.2.2.2.2) else pg w t m a j r sp q := by
  intro m
  induction m with
  | zero =>
    intro a j r sp q h hm
    rw [pg_end _ _ _ _ _ _ (by omega), pg_end _ _ _ _ _ _ (by omega), if_neg (by show ¬ j < wK w; omega)]
  | succ m ih =>
    intro a j r sp q h hm
    by_cases c : j < wK w
    · obtain ⟨n1, n2, -, -⟩ := nx_spec w (show j + 1 ≤ wK w by omega)
      have ex : ∀ (u r : Nat), pg w t (m + 1) u j r sp q = if u < r then (0, u, j, r - u, sp, q) else stp r (pg w t m (u - r) (nx w (j + 1)) (nrs w t (nsp w t j sp q) (nx w (j + 1))) (nsp w t j sp q) (nqs w j q)) := fun u r => by
        conv => lhs; unfold pg
        rw [if_pos c]
      by_cases c1 : a + b < r
      · rw [ex (a + b) r, if_pos c1, ex a r, if_pos (show a < r by omega), if_pos (show j < wK w from c)]
        rw [show pg w t (m + 1) b j (r - a) sp q = _ from ex b (r - a), if_pos (show b < r - a by omega)]
        show _ = ((0 + 0 : Nat), (a + b : Nat), j, r - a - b, sp, q)
        rw [Nat.sub_sub]
      · by_cases c2 : a < r
        · rw [ex (a + b) r, if_neg c1, ex a r, if_pos c2, if_pos (show j < wK w from c)]
          rw [show pg w t (m + 1) b j (r - a) sp q = _ from ex b (r - a), if_neg (show ¬ b < r - a by omega)]
          rw [show a + b - r = b - (r - a) by omega]
          generalize pg w t m (b - (r - a)) (nx w (j + 1)) (nrs w t (nsp w t j sp q) (nx w (j + 1))) (nsp w t j sp q) (nqs w j q) = Z
          unfold stp jnp
          refine Prod.ext ?_ (Prod.ext ?_ rfl)
          · show Z.1 + 1 = 0 + (Z.1 + 1); omega
          · show Z.2.1 + r = a + (Z.2.1 + (r - a)); omega
        · rw [ex (a + b) r, if_neg c1, ex a r, if_neg c2, show a + b - r = (a - r) + b by omega]
          have hi := ih (a - r) (nx w (j + 1)) (nrs w t (nsp w t j sp q) (nx w (j + 1))) (nsp w t j sp q) (nqs w j q) n2 (by omega)
          obtain ⟨g1, g2⟩ := pg_ge (w := w) (t := t) m (a - r) (nx w (j + 1)) (nrs w t (nsp w t j sp q) (nx w (j + 1))) (nsp w t j sp q) (nqs w j q) n2
          rw [hi]
          generalize pg w t m (a - r) (nx w (j + 1)) (nrs w t (nsp w t j sp q) (nx w (j + 1))) (nsp w t j sp q) (nqs w j q) = Z at g1 g2 ⊢
          by_cases cz : Z.2.2.1 < wK w
          · rw [if_pos cz, if_pos (show (stp r Z).2.2.1 < wK w from cz)]
            rw [show pg w t (m + 1) b (stp r Z).2.2.1 (stp r Z).2.2.2.1 (stp r Z).2.2.2.2.1 (stp r Z).2.2.2.2.2 = pg w t m b Z.2.2.1 Z.2.2.2.1 Z.2.2.2.2.1 Z.2.2.2.2.2 from pg_fu _ _ _ _ _ _ _ (by show wK w - Z.2.2.1 ≤ m + 1; omega) (by show wK w - Z.2.2.1 ≤ m; omega)]
            generalize pg w t m b Z.2.2.1 Z.2.2.2.1 Z.2.2.2.2.1 Z.2.2.2.2.2 = Y
            unfold stp jnp
            refine Prod.ext ?_ (Prod.ext ?_ rfl)
            · show Z.1 + Y.1 + 1 = Z.1 + 1 + Y.1; omega
            · show Z.2.1 + Y.2.1 + r = Z.2.1 + r + Y.2.1; omega
          · rw [if_neg cz, if_neg (show ¬ (stp r Z).2.2.1 < wK w from cz)]
    · rw [pg_end _ _ _ _ _ _ c, pg_end _ _ _ _ _ _ c, if_neg (show ¬ j < wK w from c)]
theorem CC.rows {w : WS} {t sp : Nat → Nat} {j r : Nat} {q : Bool} {S S' XW XP XQ : DM} (h : CC w t sp j r q S XW XP XQ) (e3 : S' 3 = S 3) (e4 : S' 4 = S 4) (e6 : S' 6 = S 6) (e7 : S' 7 = S 7) (e11 : S' 11 = S 11) : CC w t sp j r q S' XW XP XQ := by
  unfold CC at h ⊢
  rw [e3, e4, e6, e7, e11]
  exact h
theorem nsp_eq (w : WS) (t : Nat → Nat) (j : Nat) (sp : Nat → Nat) (q : Bool) (x : Int32) (h : x = (if q = true then 0 else 1)) : (if x = 0 ∧ enS w j then grS w t sp (wsn w j) else sp) = nsp w t j sp q := by
  unfold nsp
  cases q with
  | true =>
    rw [h, if_pos rfl]
    by_cases c : enS w j
    · rw [if_pos ⟨rfl, c⟩, if_pos ⟨rfl, c⟩]
    · rw [if_neg (fun z => c z.2), if_neg (fun z => c z.2)]
  | false =>
    rw [h, if_neg (show ¬ ((if false = true then (0 : Int32) else 1) = 0 ∧ enS w j) from fun z => absurd z.1 (by decide)), if_neg (show ¬ (false = true ∧ enS w j) from fun z => absurd z.1 (by decide))]
theorem c_pass {w : WS} {XW XP XQ : DM} {t : Nat → Nat} {n : Nat} (hn : 200 ≤ n) : ∀ (m j r : Nat) (sp : Nat → Nat) (q : Bool) (S : DM) (u e : Nat), wK w - j ≤ m → CC w t sp j r q S XW XP XQ → e ≤ j → u < 2 ^ 31 → ∀ fu, m < fu → ∃ S' : DM, fX3_letPass_L4 n XW XP kLP fu (nI u) (nI e) S = some (nI (e + (pg w t m u j r sp q).1), S') ∧ CC w t (pg w t m u j r sp q).2.2.2.2.1 (pg w t m u j r sp q).2.2.1 (pg w t m u j r sp q).2.2.2.1 (pg w t m u j r sp q).2.2.2.2.2 S' XW XP XQ ∧ S' 12 0 = S 12 0 + nI (pg w t m u j r sp q).2.1 ∧ S' 13 0 = S 13 0 + nI (e + (pg w t m u j r sp q).1) ∧ (∀ k, sGo k → k ≠ 13 → S' k = S k) := by
  intro m
  have none : ∀ (m j r : Nat) (sp : Nat → Nat) (q : Bool) (S : DM) (u e : Nat), ¬ j < wK w → CC w t sp j r q S XW XP XQ → ∀ fu, 0 < fu → ∃ S' : DM, fX3_letPass_L4 n XW XP kLP fu (nI u) (nI e) S = some (nI (e + (pg w t m u j r sp q).1), S') ∧ CC w t (pg w t m u j r sp q).2.2.2.2.1 (pg w t m u j r sp q).2.2.1 (pg w t m u j r sp q).2.2.2.1 (pg w t m u j r sp q).2.2.2.2.2 S' XW XP XQ ∧ S' 12 0 = S 12 0 + nI (pg w t m u j r sp q).2.1 ∧ S' 13 0 = S 13 0 + nI (e + (pg w t m u j r sp q).1) ∧ (∀ k, sGo k → k ≠ 13 → S' k = S k) := by
    intro m j r sp q S u e hj h fu hf
    obtain ⟨fu, rfl⟩ : ∃ z, fu = z + 1 := ⟨fu - 1, by omega⟩
    rw [pg_end _ _ _ _ _ _ hj]
    have h6 : S 6 0 = -1 := by rw [h.2.2.2.2.2.2.2.2.1, oI_ge hj]
    have kk : ∀ x : Int32, kLP x (nI e) S = some (nI e, va_up S 13 (fun _ => S 13 0 + nI e)) := by
      intro x; unfold kLP; rw [if_pos h6]
    refine ⟨va_up S 13 (fun _ => S 13 0 + nI e), ?_, h.rows (up_ne _ _ (by decide)) (up_ne _ _ (by decide)) (up_ne _ _ (by decide)) (up_ne _ _ (by decide)) (up_ne _ _ (by decide)), ?_, by rw [up_eq]; rfl, fun k _ hk => up_ne _ _ hk⟩
    · unfold fX3_letPass_L4
      by_cases c : (150 : Int32) ≤ nI e
      · rw [if_pos c, kk]; rfl
      · rw [if_neg c, if_pos h6, kk]; rfl
    · rw [up_ne _ _ (by decide)]; exact (add0 _).symm
  induction m with
  | zero =>
    intro j r sp q S u e hm h he hu fu hf
    exact none 0 j r sp q S u e (by omega) h fu (by omega)
  | succ m ih =>
    intro j r sp q S u e hm h he hu fu hf
    by_cases hj : j < wK w
    · have hC := h
      obtain ⟨hW, hv, ht, hT, hp, hV, h4, h5, h6, h8, h10, h11, h13⟩ := h
      have hk := hv.1
      obtain ⟨fu, rfl⟩ : ∃ z, fu = z + 1 := ⟨fu - 1, by omega⟩
      rw [oI_lt hj] at h6
      have hr := h11 hj
      have ex : pg w t (m + 1) u j r sp q = if u < r then (0, u, j, r - u, sp, q) else stp r (pg w t m (u - r) (nx w (j + 1)) (nrs w t (nsp w t j sp q) (nx w (j + 1))) (nsp w t j sp q) (nqs w j q)) := by
        conv => lhs; unfold pg
        rw [if_pos hj]
      unfold fX3_letPass_L4
      rw [if_neg (fun z => absurd ((le_l1 (k := 150) (a := e) (by omega) (by omega)).mp z) (by omega)), h6, if_neg (nI_ne_m1 (by omega)), h8]
      simp only [sl_s, up_eq]
      by_cases cu : u < r
      · rw [if_pos (nI_lt cu (by omega)), ex, if_pos cu]
        refine ⟨va_up (va_up (va_up S 7 (fun _ => nI (r - u))) 12 (fun _ => S 12 0 + nI u)) 13 (fun _ => S 13 0 + nI e), ?_, ?_, ?_, ?_, ?_⟩
        · unfold kLP
          rw [h6, if_neg (nI_ne_m1 (by omega)), h8, n_sub (by omega)]
          try simp only [up_ne (k := 7) (j := 12) S _ (by decide), up_ne (k := 7) (j := 13) S _ (by decide), up_ne (k := 12) (j := 13) _ _ (by decide)]
          rfl
        · refine ⟨hW, hv, ht, ?_, hp, ?_, h4, h5, ?_, ?_, by show r - u ≤ 186000; omega, fun _ => by show 1 ≤ r - u; omega, ?_⟩
          · rw [up_ne _ _ (by decide), up_ne _ _ (by decide), up_ne _ _ (by decide)]; exact hT
          · rw [up_ne _ _ (by decide), up_ne _ _ (by decide), up_ne _ _ (by decide)]; exact hV
          · rw [up_ne _ _ (by decide), up_ne _ _ (by decide), up_ne _ _ (by decide), oI_lt hj]; exact h6
          · rw [up_ne _ _ (by decide), up_ne _ _ (by decide), up_eq]
          · rw [up_ne _ _ (by decide), up_ne _ _ (by decide), up_ne _ _ (by decide)]; exact h13
        · rw [up_ne _ _ (by decide), up_eq]
        · rw [up_eq]; rfl
        · intro k ⟨_, _, z3, _, _, z6⟩ z7
          rw [up_ne _ _ z7, up_ne _ _ z6, up_ne _ _ z3]
      · rw [if_neg (nI_nlt (by omega) (by omega)), ex, if_neg cu, n_sub (by omega), nI_1]
        obtain ⟨n1, n2, n3, -⟩ := nx_spec w (show j + 1 ≤ wK w by omega)
        obtain ⟨S1, a1, a2, a3, a4, a5, a6, a7⟩ := c_step (S := va_up S 12 (fun _ => S 12 0 + nI r)) (sp := sp) hW hv ht (by rw [up_ne _ _ (by decide)]; exact hT) hp (by rw [up_ne _ _ (by decide)]; exact hV) hn hj (h5 hj) (by rw [up_ne _ _ (by decide)]; exact h6)
        rw [show (va_up S 12 (fun _ => S 12 0 + nI r)) 11 = S 11 from up_ne _ _ (by decide)] at a2 a4 a6
        rw [nsp_eq w t j sp q _ h13] at a2 a4
        have hsq : VP (nsp w t j sp q) := by
          unfold nsp
          by_cases c : q = true ∧ enS w j
          · rw [if_pos c]; exact grS_VP hp
          · rw [if_neg c]; exact hp
        have hcc : CC w t (nsp w t j sp q) (nx w (j + 1)) (nrs w t (nsp w t j sp q) (nx w (j + 1))) (nqs w j q) S1 XW XP XQ := by
          have hcl := wcl_le w (nx w (j + 1))
          obtain ⟨v1, v2⟩ := hsq (wcl w (nx w (j + 1))) (by omega)
          have e3 : S1 3 = S 3 := by rw [a7 3 (by decide) (by decide) (by decide) (by decide) (by decide), up_ne _ _ (by decide)]
          have e11 : S1 11 0 = (if nqs w j q = true then 0 else 1) := by
            rw [a6]
            unfold nqs
            by_cases c : enS w j
            · rw [if_pos c, if_pos c, if_pos rfl]
            · rw [if_neg c, if_neg c]; exact h13
          unfold nrs
          by_cases c : nx w (j + 1) < wK w
          · rw [if_pos c]
            exact ⟨hW, hv, ht, by rw [e3]; exact hT, hsq, a2, by omega, fun z => n3 z, a3, (a4 c).1, wtm_le hv ht c v1, fun _ => wtm_pos hv ht c (by omega) (n3 c), e11⟩
          · rw [if_neg c]
            exact ⟨hW, hv, ht, by rw [e3]; exact hT, hsq, a2, by omega, fun z => n3 z, a3, (a5 c).1, by omega, fun z => absurd z c, e11⟩
        have a1' := a1 (fun X27 => fX3_letPass_L4 n XW XP kLP fu (nI (u - r)) (nI (e + 1)) X27)
        unfold cStep at a1'
        rw [show (va_up S 12 (fun _ => S 12 0 + nI r)) 6 0 = nI j from by rw [up_ne _ _ (by decide)]; exact h6] at a1'
        obtain ⟨S', b1, b2, b3, b4, b5⟩ := ih (nx w (j + 1)) _ _ _ S1 (u - r) (e + 1) (by omega) hcc (by omega) (by omega) fu (by omega)
        generalize pg w t m (u - r) (nx w (j + 1)) (nrs w t (nsp w t j sp q) (nx w (j + 1))) (nsp w t j sp q) (nqs w j q) = Z at b1 b2 b3 b4 ⊢
        refine ⟨S', ?_, b2, ?_, ?_, fun k z1 z2 => ?_⟩
        · rw [show e + (stp r Z).1 = e + 1 + Z.1 by show e + (Z.1 + 1) = e + 1 + Z.1; omega, ← b1, ← a1']
          simp only [up_ne (k := 12) (j := 6) S _ (by decide), h6]
        · rw [b3, a7 12 (by decide) (by decide) (by decide) (by decide) (by decide), up_eq, Int32.add_assoc, nI_add]
          show S 12 0 + nI (r + Z.2.1) = S 12 0 + nI (Z.2.1 + r)
          rw [Nat.add_comm]
        · rw [b4, a7 13 (by decide) (by decide) (by decide) (by decide) (by decide), up_ne _ _ (by decide)]
          show S 13 0 + nI (e + 1 + Z.1) = S 13 0 + nI (e + (Z.1 + 1))
          rw [show e + 1 + Z.1 = e + (Z.1 + 1) by omega]
        · rw [b5 k z1 z2]
          obtain ⟨y1, y2, y3, y4, y5, y6⟩ := z1
          rw [a7 k y1 y2 y3 y4 y5, up_ne _ _ y6]
    · exact none (m + 1) j r sp q S u e hj h fu (by omega)
