/-! showing: both sides -/
def RC (w : WS) (t sp : Nat → Nat) (S : DM) (d : Nat → Int32) (j r : Nat) : Prop := VP sp ∧ PV sp (S 4) ∧ MV sp d ∧ j ≤ wK w ∧ (j < wK w → ¬ wkd w j = 3) ∧ S 6 0 = oI (wK w) j ∧ d 301 = oI (wK w) j ∧ S 7 0 = nI r ∧ d 302 = nI r ∧ r ≤ 186000 ∧ (j < wK w → 1 ≤ r) ∧ RLat w (S 10) d ∧ (S 11 0 = 0 ∨ S 11 0 = 1) ∧ (d 344 = 0 ∨ d 344 = 1) ∧ (j < wK w → S 11 0 = d 344) ∧ S 12 0 = d 345
/-- what the class does behind a word that is shown to its end -/
def cStep (n : Nat) (XW XP S : DM) {α : Type} (KK : DM → Option α) : Option α := bnd (fX4_shownBehind n XW (S 6 0)) fun r17 => bnd (fX4_endsAheadOf XW XP r17 (S 6 0)) fun r22 => if r22 = 0 then bnd (fX3_becomePresent n S XW r17) KK else bnd (fX3_endSentenceOf n S XW XP (S 6 0)) fun X30 => bnd (fX3_becomePresent n X30 XW r17) KK
theorem c_step {w : WS} {S XW XP XQ : DM} {t sp : Nat → Nat} (hW : PW w XW XP XQ) (hv : VS w) (ht : VT t) (hT : PT t (S 3)) (hp : VP sp) (hV : PV sp (S 4)) {n : Nat} (hn : 200 ≤ n) {i : Nat} (hi : i < wK w) (hs : ¬ wkd w i = 3) (h6 : S 6 0 = nI i) : ∃ S' : DM, (∀ {α : Type} (KK : DM → Option α), cStep n XW XP S KK = KK S') ∧ PV (if S 11 0 = 0 ∧ enS w i then grS w t sp (wsn w i) else sp) (S' 4) ∧ S' 6 0 = oI (wK w) (nx w (i + 1)) ∧ (nx w (i + 1) < wK w → S' 7 0 = nI (wtn w t (if S 11 0 = 0 ∧ enS w i then grS w t sp (wsn w i) else sp) (nx w (i + 1))) ∧ S' 10 0 = nI (nx w (i + 1)) ∧ S' 10 1 = S 10 0 ∧ S' 10 2 = S 10 1) ∧ (¬ nx w (i + 1) < wK w → S' 7 0 = 0 ∧ S' 10 = S 10) ∧ S' 11 0 = (if enS w i then 0 else S 11 0) ∧ ∀ k, k ≠ 4 → k ≠ 6 → k ≠ 7 → k ≠ 10 → k ≠ 11 → S' k = S k := by
  have hk := hv.1
  -- a word, or none, becomes the present one over X
  have bp : ∀ (X : DM) (sq : Nat → Nat), PT t (X 3) → VP sq → PV sq (X 4) → ∃ S' : DM, fX3_becomePresent n X XW (oI (wK w) (nx w (i + 1))) = some S' ∧ S' 6 0 = oI (wK w) (nx w (i + 1)) ∧ (nx w (i + 1) < wK w → S' 7 0 = nI (wtn w t sq (nx w (i + 1))) ∧ S' 10 0 = nI (nx w (i + 1)) ∧ S' 10 1 = X 10 0 ∧ S' 10 2 = X 10 1) ∧ (¬ nx w (i + 1) < wK w → S' 7 0 = 0 ∧ S' 10 = X 10) ∧ ∀ k, k ≠ 6 → k ≠ 7 → k ≠ 10 → S' k = X k := by
    intro X sq h1 h2 h3
    by_cases c : nx w (i + 1) < wK w
    · rw [oI_lt c]
      obtain ⟨S', a1, a2, a3, a4, a5, a6, a7⟩ := c_bp hW hv ht h1 h2 h3 hn c
      exact ⟨S', a1, a2, fun _ => ⟨a3, a4, a5, a6⟩, fun z => absurd c z, a7⟩
    · rw [oI_ge c]
      obtain ⟨S', a1, a2, a3, a4⟩ := c_bp_none (XS := X) hW n
      exact ⟨S', a1, a2, fun z => absurd z c, fun _ => ⟨a3, a4 10 (by decide) (by decide)⟩, fun k b1 b2 _ => a4 k b1 b2⟩
  unfold cStep
  rw [h6, shownBehind_ok hW hv hn hi]
  simp only [bnd_s]
  rw [endsAheadOf_ok hW hv hi]
  simp only [bnd_s]
  by_cases he : enS w i
  · rw [if_neg he]
    obtain ⟨X, e1, e2, e3, e4⟩ := c_es hW hv ht hT hp hV hn hi he
    rw [e1]
    simp only [bnd_s]
    have hsq : VP (if S 11 0 = 0 then grS w t sp (wsn w i) else sp) := by
      by_cases c : S 11 0 = 0
      · rw [if_pos c]; exact grS_VP hp
      · rw [if_neg c]; exact hp
    obtain ⟨S', a1, a2, a3, a4, a5⟩ := bp X _ (by rw [e4 3 (by decide) (by decide)]; exact hT) hsq e2
    have e10 : X 10 = S 10 := e4 10 (by decide) (by decide)
    have eq : (if S 11 0 = 0 ∧ enS w i then grS w t sp (wsn w i) else sp) = (if S 11 0 = 0 then grS w t sp (wsn w i) else sp) := by
      by_cases c : S 11 0 = 0
      · rw [if_pos ⟨c, he⟩, if_pos c]
      · rw [if_neg (fun q => c q.1), if_neg c]
    rw [eq, if_pos he]
    refine ⟨S', fun KK => by rw [if_neg (by decide), a1, bnd_s], ?_, a2, fun c => ?_, fun c => ?_, ?_, fun k b1 b2 b3 b4 b5 => ?_⟩
    · rw [a5 4 (by decide) (by decide) (by decide)]; exact e2
    · obtain ⟨q1, q2, q3, q4⟩ := a3 c
      exact ⟨q1, q2, by rw [q3, e10], by rw [q4, e10]⟩
    · obtain ⟨q1, q2⟩ := a4 c
      exact ⟨q1, by rw [q2, e10]⟩
    · rw [a5 11 (by decide) (by decide) (by decide)]; exact e3
    · rw [a5 k b2 b3 b4, e4 k b1 b5]
  · have hc := Classical.not_not.mp he
    rw [if_pos hc]
    obtain ⟨S', a1, a2, a3, a4, a5⟩ := bp S sp hT hp hV
    rw [if_neg (fun q => he q.2), if_neg he]
    refine ⟨S', fun KK => by rw [if_pos rfl, a1, bnd_s], ?_, a2, a3, a4, ?_, fun k b1 b2 b3 b4 b5 => a5 k b2 b3 b4⟩
    · rw [a5 4 (by decide) (by decide) (by decide)]; exact hV
    · rw [a5 11 (by decide) (by decide) (by decide)]
/-- which entries of the reference's row change as time goes by -/
abbrev dGo (k : Nat) : Prop := k ≠ 301 ∧ k ≠ 302 ∧ (k < 330 ∨ 332 < k) ∧ (k < 340 ∨ 346 < k)
abbrev sGo (k : Nat) : Prop := k ≠ 4 ∧ k ≠ 6 ∧ k ≠ 7 ∧ k ≠ 10 ∧ k ≠ 11 ∧ k ≠ 12
theorem RLat.same {w : WS} {f f' d d' : Nat → Int32} (h : RLat w f d) (hf : ∀ i, i < 3 → f' i = f i) (hd : ∀ k, 340 ≤ k → k ≤ 343 → d' k = d k) : RLat w f' d' := by
  obtain ⟨q, la, h1, h2, h3, h4, h5⟩ := h
  exact ⟨q, la, h1, by rw [hd 340 (by omega) (by omega)]; exact h2, h3, fun i hi => by rw [hf i hi]; exact h4 i hi, fun i hi => by rw [hd _ (by omega) (by omega)]; exact h5 i hi⟩
theorem JS {w : WS} {S XW XP XQ M : DM} {d : Nat → Int32} {t sp : Nat → Nat} {j r : Nat} (hW : PW w XW XP XQ) (hM : PM w M) (hv : VS w) (ht : VT t) (hT : PT t (S 3)) (hTM : MT t d) {n : Nat} (hn : 200 ≤ n) (h : RC w t sp S d j r) (hj : j < wK w) : ∃ (sp' : Nat → Nat) (S' : DM) (d' : Nat → Int32) (r' : Nat), (∀ {α : Type} (KK : DM → Option α), cStep n XW XP (va_up S 12 (fun _ => S 12 0 + nI r)) KK = KK S') ∧ fX6_goesOn n (va_up M 0 (upd (upd d 302 (nI 0)) 345 (d 345 + nI r))) = some (va_up M 0 d') ∧ RC w t sp' S' d' (nx w (j + 1)) r' ∧ d' 346 = d 346 + 1 ∧ (∀ k, sGo k → S' k = S k) ∧ (∀ k, dGo k → d' k = d k) := by
  obtain ⟨h1, h2, h3, h4, h5, h6, h7, h8, h9, h10, h11, ⟨q, la, l1, l2, l3, l4, l5⟩, h13, h14, h15, h16⟩ := h
  obtain ⟨n1, n2, n3, n4⟩ := nx_spec w (show j + 1 ≤ wK w by omega)
  rw [oI_lt hj] at h6 h7
  have hs := h5 hj
  have h15 := h15 hj
  obtain ⟨S', a1, a2, a3, a4, a5, a6, a7⟩ := c_step (S := va_up S 12 (fun _ => S 12 0 + nI r)) (sp := sp) hW hv ht (by rw [up_ne _ _ (by decide)]; exact hT) h1 (by rw [up_ne _ _ (by decide)]; exact h2) hn hj hs (by rw [up_ne _ _ (by decide)]; exact h6)
  rw [show (va_up S 12 (fun _ => S 12 0 + nI r)) 11 = S 11 from up_ne _ _ (by decide), show (va_up S 12 (fun _ => S 12 0 + nI r)) 10 = S 10 from up_ne _ _ (by decide)] at *
  have dn : ∀ k, k ≠ 302 → k ≠ 345 → upd (upd d 302 (nI 0)) 345 (d 345 + nI r) k = d k := fun k b1 b2 => by rw [u_ne _ _ b2, u_ne _ _ b1]
  obtain ⟨d', b1, b2, b3, b4, b5, b6, b7, b8⟩ := m_goesOn (d := upd (upd d 302 (nI 0)) 345 (d 345 + nI r)) (sp := sp) (q := q) hM hv ht (by intro z hz; rw [dn _ (by omega) (by omega)]; exact hTM z hz) h1 (by intro z hz; rw [dn _ (by omega) (by omega)]; exact h3 z hz) hn hj hs (by rw [dn _ (by omega) (by omega)]; exact h7) l1 (by rw [dn _ (by omega) (by omega)]; exact l2)
  rw [dn 344 (by omega) (by omega), ← h15] at b2 b4 b6
  rw [dn 346 (by omega) (by omega)] at b3
  have hsq : VP (if S 11 0 = 0 ∧ enS w j then grS w t sp (wsn w j) else sp) := by
    by_cases c : S 11 0 = 0 ∧ enS w j
    · rw [if_pos c]; exact grS_VP h1
    · rw [if_neg c]; exact h1
  generalize hsp : (if S 11 0 = 0 ∧ enS w j then grS w t sp (wsn w j) else sp) = sq at a2 a4 b2 b6 hsq
  have x345 : d' 345 = d 345 + nI r := by rw [b8 345 (by omega) (by omega) (by omega) (by omega) (by omega), u_eq]
  have x12 : S' 12 0 = S 12 0 + nI r := by rw [a7 12 (by decide) (by decide) (by decide) (by decide) (by decide), up_eq]
  have frS : ∀ k, sGo k → S' k = S k := fun k ⟨q1, q2, q3, q4, q5, q6⟩ => by rw [a7 k q1 q2 q3 q4 q5, up_ne _ _ q6]
  have frd : ∀ k, dGo k → d' k = d k := fun k ⟨q1, q2, q3, q4⟩ => by rw [b8 k q1 q2 q3 (by omega) (by omega), dn k q2 (by omega)]
  have z01 : (S' 11 0 = 0 ∨ S' 11 0 = 1) := by
    rw [a6]
    by_cases c : enS w j
    · rw [if_pos c]; exact Or.inl rfl
    · rw [if_neg c]; exact h13
  have m01 : (d' 344 = 0 ∨ d' 344 = 1) := by
    rw [b4]
    by_cases c : nx w (j + 1) < wK w ∧ ¬ wsn w (nx w (j + 1)) = wsn w j
    · rw [if_pos c]; exact Or.inl rfl
    · rw [if_neg c]; exact h13
  by_cases c : nx w (j + 1) < wK w
  · obtain ⟨c1, c2, c3⟩ := b6 c
    obtain ⟨s1, s2, s3, s4⟩ := a4 c
    have hcl := wcl_le w (nx w (j + 1))
    obtain ⟨v1, v2⟩ := hsq (wcl w (nx w (j + 1))) (by omega)
    refine ⟨sq, S', d', wtn w t sq (nx w (j + 1)), a1, b1, ⟨hsq, a2, b2, by omega, fun z => n3 z, a3, b5, s1, c1, wtm_le hv ht c v1, fun _ => wtm_pos hv ht c (by omega) (n3 c), ?_, z01, m01, fun _ => ?_, by rw [x12, x345, h16]⟩, b3, frS, frd⟩
    · exact RLat.push (d := d) (f := S 10) c (n3 c) l1 l3 l4 l5 s2 s3 s4 (fun z => by
        obtain ⟨y1, y2, y3, y4⟩ := c2 z
        exact ⟨y1, by rw [y2, dn _ (by omega) (by omega)], by rw [y3, dn _ (by omega) (by omega)], y4⟩) (fun z => by
        obtain ⟨y1, y2, y3⟩ := c3 z
        exact ⟨y1, y2, fun x hx => by rw [y3 x hx, dn _ (by omega) (by omega)]⟩)
    · rw [a6, b4]
      by_cases ce : wsn w (nx w (j + 1)) = wsn w j
      · rw [if_neg (fun z => z ⟨c, ce⟩), if_neg (fun z => z.2 ce)]
      · rw [if_pos (fun z => ce z.2), if_pos ⟨c, ce⟩]
  · obtain ⟨c1, c2⟩ := b7 c
    obtain ⟨s1, s2⟩ := a5 c
    refine ⟨sq, S', d', 0, a1, b1, ⟨hsq, a2, b2, by omega, fun z => n3 z, a3, b5, s1, c1, by omega, fun z => absurd z c, ?_, z01, m01, fun z => absurd z c, by rw [x12, x345, h16]⟩, b3, frS, frd⟩
    exact RLat.same ⟨q, la, l1, l2, l3, l4, l5⟩ (fun i _ => by rw [s2]) (fun k y1 y2 => by rw [c2 k y1 y2, dn k (by omega) (by omega)])
/-- the class's end of a pass -/
def kLP : Int32 → Int32 → DM → Option (Int32 × DM) := fun x2 x3 XS => if XS 6 0 = -1 then some (x3, va_up XS 13 (fun _ => XS 13 0 + x3)) else some (x3, va_up (va_up (va_up XS 7 (fun _ => XS 7 0 - x2)) 12 (fun _ => XS 12 0 + x2)) 13 (fun _ => XS 13 0 + x3))
theorem letPass_eq (n : Nat) (S XW XP : DM) (p : Int32) : fX3_letPass n S XW XP p = fX3_letPass_L4 n XW XP kLP n p 0 S := rfl
theorem add0 (x : Int32) : x + nI 0 = x := Int32.add_zero x
theorem passB {w : WS} {XW XP XQ M : DM} {t : Nat → Nat} (hW : PW w XW XP XQ) (hM : PM w M) (hv : VS w) (ht : VT t) {n : Nat} (hn : 200 ≤ n) : ∀ (m j r : Nat) (sp : Nat → Nat) (S : DM) (d : Nat → Int32) (u e : Nat), wK w - j ≤ m → RC w t sp S d j r → e ≤ j → u < 2 ^ 31 → S 13 0 + nI e = d 346 → PT t (S 3) → MT t d → ∀ fu, m < fu → ∀ fu2, m + 1 < fu2 → ∃ (S' : DM) (d' : Nat → Int32) (j' r' : Nat) (sp' : Nat → Nat) (e' : Nat), fX3_letPass_L4 n XW XP kLP fu (nI u) (nI e) S = some (nI e', S') ∧ fX6_goes_L4 n fu2 (nI u) (nI e) (va_up M 0 d) = some (nI e', va_up M 0 d') ∧ RC w t sp' S' d' j' r' ∧ S' 13 0 = d' 346 ∧ (∀ k, sGo k → k ≠ 13 → S' k = S k) ∧ (∀ k, dGo k → d' k = d k) := by
  have hk := hv.1
  intro m
  induction m with
  | zero =>
    intro j r sp S d u e hm h he hu h13 hT hTM fu hf fu2 hf2
    obtain ⟨fu, rfl⟩ : ∃ z, fu = z + 1 := ⟨fu - 1, by omega⟩
    obtain ⟨fu2, rfl⟩ : ∃ z, fu2 = z + 1 := ⟨fu2 - 1, by omega⟩
    have hj : ¬ j < wK w := by omega
    have h6 : S 6 0 = -1 := by rw [h.2.2.2.2.2.1, oI_ge hj]
    have h301 : d 301 = -1 := by rw [h.2.2.2.2.2.2.1, oI_ge hj]
    refine ⟨va_up S 13 (fun _ => S 13 0 + nI e), d, j, r, sp, e, ?_, ?_, ?_, by rw [up_eq]; exact h13, fun k _ hk => up_ne _ _ hk, fun _ _ => rfl⟩
    · unfold fX3_letPass_L4
      have kk : ∀ x : Int32, kLP x (nI e) S = some (nI e, va_up S 13 (fun _ => S 13 0 + nI e)) := by
        intro x; unfold kLP; rw [if_pos h6]
      by_cases c : (150 : Int32) ≤ nI e
      · rw [if_pos c, kk]
      · rw [if_neg c, if_pos h6, kk]
    · unfold fX6_goes_L4
      by_cases c : nI u ≤ 0
      · rw [if_pos c]
      · rw [if_neg c, up_eq, rd_l (k := 301) _ (by omega) (by omega), bnd_s, if_pos h301]
    · unfold RC at h ⊢
      simpa only [up_ne (k := 13) (j := 4) S _ (by decide), up_ne (k := 13) (j := 6) S _ (by decide), up_ne (k := 13) (j := 7) S _ (by decide), up_ne (k := 13) (j := 10) S _ (by decide), up_ne (k := 13) (j := 11) S _ (by decide), up_ne (k := 13) (j := 12) S _ (by decide)] using h
  | succ m ih =>
    intro j r sp S d u e hm h he hu h13 hT hTM fu hf fu2 hf2
    obtain ⟨fu, rfl⟩ : ∃ z, fu = z + 1 := ⟨fu - 1, by omega⟩
    obtain ⟨fu2, rfl⟩ : ∃ z, fu2 = z + 1 := ⟨fu2 - 1, by omega⟩
    by_cases hj : j < wK w
    · have hRC := h
      obtain ⟨h1, h2, h3, h4, h5, h6, h7, h8, h9, h10, h11, h12, h13a, h14, h15, h16⟩ := h
      rw [oI_lt hj] at h6 h7
      have hr := h11 hj
      unfold fX3_letPass_L4 fX6_goes_L4
      rw [if_neg (fun q => absurd ((le_l1 (k := 150) (a := e) (by omega) (by omega)).mp q) (by omega)), h6, if_neg (nI_ne_m1 (by omega)), h8]
      simp only [sl_s, up_eq, up_up]
      by_cases cu : u < r
      · rw [if_pos (nI_lt cu (by omega))]
        have ck : kLP (nI u) (nI e) S = some (nI e, va_up (va_up (va_up S 7 (fun _ => nI (r - u))) 12 (fun _ => S 12 0 + nI u)) 13 (fun _ => S 13 0 + nI e)) := by
          unfold kLP
          rw [h6, if_neg (nI_ne_m1 (by omega)), h8, n_sub (by omega)]
        rw [ck]
        have rel : ∀ d' : Nat → Int32, d' 302 = nI (r - u) → d' 345 = d 345 + nI u → (∀ k, k ≠ 302 → k ≠ 345 → d' k = d k) → RC w t sp (va_up (va_up (va_up S 7 (fun _ => nI (r - u))) 12 (fun _ => S 12 0 + nI u)) 13 (fun _ => S 13 0 + nI e)) d' j (r - u) ∧ (va_up (va_up (va_up S 7 (fun _ => nI (r - u))) 12 (fun _ => S 12 0 + nI u)) 13 (fun _ => S 13 0 + nI e)) 13 0 = d' 346 := by
          intro d' q1 q2 q3
          have g : ∀ k, k ≠ 7 → k ≠ 12 → k ≠ 13 → (va_up (va_up (va_up S 7 (fun _ => nI (r - u))) 12 (fun _ => S 12 0 + nI u)) 13 (fun _ => S 13 0 + nI e)) k = S k := fun k z1 z2 z3 => by rw [up_ne _ _ z3, up_ne _ _ z2, up_ne _ _ z1]
          refine ⟨⟨h1, by rw [g 4 (by decide) (by decide) (by decide)]; exact h2, by intro z hz; rw [q3 _ (by omega) (by omega)]; exact h3 z hz, h4, h5, by rw [g 6 (by decide) (by decide) (by decide), oI_lt hj]; exact h6, by rw [q3 _ (by omega) (by omega), oI_lt hj]; exact h7, by rw [up_ne _ _ (by decide), up_ne _ _ (by decide), up_eq], q1, by omega, fun _ => by omega, ?_, by rw [g 11 (by decide) (by decide) (by decide)]; exact h13a, by rw [q3 _ (by omega) (by omega)]; exact h14, fun z => by rw [g 11 (by decide) (by decide) (by decide), q3 _ (by omega) (by omega)]; exact h15 z, by rw [up_ne _ _ (by decide), up_eq, q2, h16]⟩, by rw [up_eq, q3 _ (by omega) (by omega)]; exact h13⟩
          exact RLat.same h12 (fun i _ => by rw [g 10 (by decide) (by decide) (by decide)]) (fun k z1 z2 => q3 k (by omega) (by omega))
        have frS : ∀ k, sGo k → k ≠ 13 → (va_up (va_up (va_up S 7 (fun _ => nI (r - u))) 12 (fun _ => S 12 0 + nI u)) 13 (fun _ => S 13 0 + nI e)) k = S k := fun k ⟨_, _, z3, _, _, z6⟩ z7 => by rw [up_ne _ _ z7, up_ne _ _ z6, up_ne _ _ z3]
        by_cases c0 : u = 0
        · subst c0
          rw [if_pos (by decide)]
          obtain ⟨p1, p2⟩ := rel d (by rw [h9]; rfl) (by rw [add0]) (fun _ _ _ => rfl)
          exact ⟨_, d, j, r - 0, sp, e, rfl, rfl, p1, p2, frS, fun _ _ => rfl⟩
        · rw [if_neg (nI_nle (by omega) (by omega)), rd_l (k := 301) _ (by omega) (by omega), bnd_s, h7, if_neg (nI_ne_m1 (by omega)), rd_l (k := 302) _ (by omega) (by omega), bnd_s, h9, if_neg (nI_ge cu (by omega)), bnd_s, wr_l (k := 302) _ _ (by omega) (by omega), bnd_s, n_sub (by omega), n_sub (by omega)]
          rw [rd_l (k := 345) _ (by omega) (by omega), bnd_s, u_ne _ _ (by omega), wr_l (k := 345) _ _ (by omega) (by omega), bnd_s, rd_l (k := 302) _ (by omega) (by omega), bnd_s, u_ne _ _ (by omega), u_eq, if_neg (nI_ne0 (by omega) (by omega))]
          obtain ⟨fu2, rfl⟩ : ∃ z, fu2 = z + 1 := ⟨fu2 - 1, by omega⟩
          unfold fX6_goes_L4
          rw [Nat.sub_self, if_pos (by decide)]
          obtain ⟨p1, p2⟩ := rel (upd (upd d 302 (nI (r - u))) 345 (d 345 + nI u)) (by rw [u_ne _ _ (by omega), u_eq]) (by rw [u_eq]) (fun k z1 z2 => by rw [u_ne _ _ z2, u_ne _ _ z1])
          exact ⟨_, _, j, r - u, sp, e, rfl, rfl, p1, p2, frS, fun k ⟨_, z2, _, z4⟩ => by rw [u_ne _ _ (by omega), u_ne _ _ z2]⟩
      · rw [if_neg (nI_nlt (by omega) (by omega)), if_neg (nI_nle (by omega) (by omega)), rd_l (k := 301) _ (by omega) (by omega), bnd_s, h7, if_neg (nI_ne_m1 (by omega)), rd_l (k := 302) _ (by omega) (by omega), bnd_s, h9, if_pos (nI_le (by omega) (by omega)), bnd_s, bnd_s, wr_l (k := 302) _ _ (by omega) (by omega), bnd_s, n_sub (by omega), n_sub (by omega)]
        rw [rd_l (k := 345) _ (by omega) (by omega), bnd_s, u_ne _ _ (by omega), wr_l (k := 345) _ _ (by omega) (by omega), bnd_s, rd_l (k := 302) _ (by omega) (by omega), bnd_s, u_ne _ _ (by omega), u_eq, Nat.sub_self, if_pos (show nI 0 = (0 : Int32) from rfl)]
        obtain ⟨sp1, S1, d1, r1, a1, a2, a3, a4, a5, a6⟩ := JS hW hM hv ht hT hTM hn hRC hj
        obtain ⟨n1, n2, -, -⟩ := nx_spec w (show j + 1 ≤ wK w by omega)
        rw [a2, bnd_s, nI_1]
        have a1' := a1 (fun X27 => fX3_letPass_L4 n XW XP kLP fu (nI (u - r)) (nI (e + 1)) X27)
        unfold cStep at a1'
        rw [show (va_up S 12 (fun _ => S 12 0 + nI r)) 6 0 = nI j from by rw [up_ne _ _ (by decide)]; exact h6] at a1'
        obtain ⟨S', d', j', r', sp', e', b1, b2, b3, b4, b5, b6⟩ := ih (nx w (j + 1)) r1 sp1 S1 d1 (u - r) (e + 1) (by omega) a3 (by omega) (by omega) (by rw [a4, a5 13 (by decide), ← h13, ← nI_1, Int32.add_assoc]) (by rw [a5 3 (by decide)]; exact hT) (by intro z hz; rw [a6 _ (by omega)]; exact hTM z hz) fu (by omega) fu2 (by omega)
        refine ⟨S', d', j', r', sp', e', ?_, b2, b3, b4, fun k z1 z2 => (b5 k z1 z2).trans (a5 k z1), fun k z => (b6 k z).trans (a6 k z)⟩
        rw [← b1, ← a1']
        simp only [up_ne (k := 12) (j := 6) S _ (by decide), h6]
    · have := ih j r sp S d u e (by omega) h he hu h13 hT hTM (fu + 1) (by omega) (fu2 + 1) (by omega)
      exact this
