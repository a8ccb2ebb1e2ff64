/-! places to return to -/
def RPl (w : WS) (S : DM) (d : Nat → Int32) : Prop := ∃ (k : Nat) (pl : Nat → Nat), k ≤ 5 ∧ S 9 0 = nI k ∧ d 303 = nI k ∧ ∀ i, i < k → pl i < wK w ∧ ¬ wkd w (pl i) = 3 ∧ S 8 i = nI (pl i) ∧ d (304 + i) = nI (pl i)
def lpC (n : Nat) (XW XP : DM) (x1 : Int32) (XS : DM) : Option DM := bnd (fX5_put 5 (XS 8) (XS 9 0) (XS 6 0)) fun f1 => bnd (fX5_at 150 (XP 0) x1) fun r9 => bnd (fX3_becomePresent n (va_up (va_up (va_up XS 8 f1) 9 (fun _ => (va_up XS 8 f1) 9 0 + 1)) 11 (fun _ => 0)) XW r9) fun X14 => some X14
theorem leapTo_eq (n : Nat) (S XW XP : DM) (p : Int32) : fX3_leapTo n S XW XP p = if S 9 0 < 5 then lpC n XW XP p S else fX3_leapTo_L10 n XW XP (fun x1 XS => lpC n XW XP x1 (va_up XS 9 (fun _ => 4))) n p 1 S := rfl
def lpM (n : Nat) (x1 : Int32) (XM : DM) : Option DM := bnd (rdA 348 (XM 0) 303) fun v4 => bnd (rdA 348 (XM 0) 301) fun v7 => bnd (wrA 348 (XM 0) (304 + v4) v7) fun f10 => sl (va_up XM 0 f10) fun X13 => bnd (rdA 348 (X13 0) 303) fun v15 => bnd (wrA 348 (X13 0) 303 (v15 + 1)) fun f18 => sl (va_up X13 0 f18) fun X21 => bnd (wrA 348 (X21 0) 344 0) fun f23 => sl (va_up X21 0 f23) fun X26 => bnd (fX6_firstOf n X26 x1) fun r28 => bnd (fX6_becomes X26 r28) fun X33 => some X33
theorem sl_n {α β : Type} (x : α) (k : α → β) : sl x k = k x := by
  unfold sl
  exact rfl
theorem jumps_eq (n : Nat) (XM : DM) (p : Int32) : fX6_jumps n XM p = bnd (rdA 348 (XM 0) 303) fun v1 => if v1 = 5 then fX6_jumps_L14 n (fun x1 XM => bnd (rdA 348 (XM 0) 303) fun v36 => bnd (wrA 348 (XM 0) 303 (v36 - 1)) fun f39 => lpM n x1 (va_up XM 0 f39)) n p 0 XM else lpM n p XM := by unfold fX6_jumps lpM; simp only [sl_n]
theorem c_leap_L (n : Nat) (XW XP : DM) (kk : Int32 → DM → Option DM) (x1 : Int32) : ∀ (k c : Nat), c + k = 5 → 1 ≤ c → ∀ fu, k < fu → ∀ S : DM, ∃ S' : DM, fX3_leapTo_L10 n XW XP kk fu x1 (nI c) S = kk x1 S' ∧ (∀ i, c - 1 ≤ i → i < 4 → S' 8 i = S 8 (i + 1)) ∧ (∀ i, i < c - 1 → S' 8 i = S 8 i) ∧ ∀ k, k ≠ 8 → S' k = S k := by
  intro k
  induction k with
  | zero =>
    intro c hc h1 fu hf S
    obtain ⟨fu, rfl⟩ : ∃ z, fu = z + 1 := ⟨fu - 1, by omega⟩
    unfold fX3_leapTo_L10
    rw [if_pos ((le_l1 (k := 5) (a := c) (by omega) (by omega)).mpr (by omega))]
    exact ⟨S, rfl, fun i a b => by omega, fun _ _ => rfl, fun _ _ => rfl⟩
  | succ k ih =>
    intro c hc h1 fu hf S
    obtain ⟨fu, rfl⟩ : ∃ z, fu = z + 1 := ⟨fu - 1, by omega⟩
    unfold fX3_leapTo_L10
    rw [if_neg (fun e => absurd ((le_l1 (k := 5) (a := c) (by omega) (by omega)).mp e) (by omega)), rd_in _ (by omega) (by omega), bnd_s, lit_n 1, n_sub (by omega), wr_in _ _ (by omega) (by omega), bnd_s, sl_s, sl_s, nI_add]
    obtain ⟨S', e1, e2, e3, e4⟩ := ih (c + 1) (by omega) (by omega) fu (by omega) (va_up S 8 (upd (S 8) (c - 1) (S 8 c)))
    refine ⟨S', e1, fun i a b => ?_, fun i a => ?_, fun k hk => by rw [e4 k hk, up_ne _ _ hk]⟩
    · by_cases z : i = c - 1
      · rw [e3 i (by omega), up_eq, z, u_eq, show c - 1 + 1 = c by omega]
      · rw [e2 i (by omega) b, up_eq, u_ne _ _ (by omega)]
    · rw [e3 i (by omega), up_eq, u_ne _ _ (by omega)]
theorem m_leap_L (n : Nat) (M : DM) (kk : Int32 → DM → Option DM) (x1 : Int32) : ∀ (k c : Nat), c + k = 4 → ∀ fu, k < fu → ∀ d : Nat → Int32, ∃ d' : Nat → Int32, fX6_jumps_L14 n kk fu x1 (nI c) (va_up M 0 d) = kk x1 (va_up M 0 d') ∧ (∀ i, c ≤ i → i < 4 → d' (304 + i) = d (304 + i + 1)) ∧ (∀ i, (i < 304 + c ∨ 307 < i) → d' i = d i) := by
  intro k
  induction k with
  | zero =>
    intro c hc fu hf d
    obtain ⟨fu, rfl⟩ : ∃ z, fu = z + 1 := ⟨fu - 1, by omega⟩
    unfold fX6_jumps_L14
    rw [if_pos ((le_l1 (k := 4) (a := c) (by omega) (by omega)).mpr (by omega))]
    exact ⟨d, rfl, fun i a b => by omega, fun _ _ => rfl⟩
  | succ k ih =>
    intro c hc fu hf d
    obtain ⟨fu, rfl⟩ : ∃ z, fu = z + 1 := ⟨fu - 1, by omega⟩
    unfold fX6_jumps_L14
    rw [if_neg (fun e => absurd ((le_l1 (k := 4) (a := c) (by omega) (by omega)).mp e) (by omega)), lit_n 304, nI_add, nI_1, up_eq, rd_in _ (by omega) (by omega), bnd_s, wr_in _ _ (by omega) (by omega), bnd_s, sl_s, sl_s, nI_1, up_up]
    obtain ⟨d', e1, e2, e3⟩ := ih (c + 1) (by omega) fu (by omega) (upd d (304 + c) (d (304 + c + 1)))
    refine ⟨d', e1, fun i a b => ?_, fun i a => ?_⟩
    · by_cases z : i = c
      · rw [e3 (304 + i) (by omega), z, u_eq]
      · rw [e2 i (by omega) b, u_ne _ _ (by omega)]
    · rw [e3 i (by omega), u_ne _ _ (by omega)]
abbrev dPl (k : Nat) : Prop := dGo k ∧ (k < 303 ∨ 308 < k)
theorem leapK {w : WS} {S XW XP XQ M : DM} {d : Nat → Int32} {t sp : Nat → Nat} {j r : Nat} (hW : PW w XW XP XQ) (hM : PM w M) (hv : VS w) (ht : VT t) (hT : PT t (S 3)) (hTM : MT t d) {n : Nat} (hn : 200 ≤ n) (h : RC w t sp S d j r) (hj : j < wK w) {k : Nat} {pl : Nat → Nat} (hk4 : k ≤ 4) (p1 : S 9 0 = nI k) (p2 : d 303 = nI k) (p3 : ∀ i, i < k → pl i < wK w ∧ ¬ wkd w (pl i) = 3 ∧ S 8 i = nI (pl i) ∧ d (304 + i) = nI (pl i)) {s : Nat} (hs : s < wnS w) (hsh : ¬ wkd w (fsp w s) = 3) : ∃ (S' : DM) (d' : Nat → Int32) (r' : Nat), lpC n XW XP (nI s) S = some S' ∧ lpM n (nI s) (va_up M 0 d) = some (va_up M 0 d') ∧ RC w t sp S' d' (fsp w s) r' ∧ RPl w S' d' ∧ (∀ k, sGo k → k ≠ 8 → k ≠ 9 → S' k = S k) ∧ S' 12 = S 12 ∧ (∀ k, dPl k → d' k = d k) ∧ d' 345 = d 345 ∧ d' 346 = d 346 := by
  obtain ⟨h1, h2, h3, h4, h5, h6, h7, h8, h9, h10, h11, hL, h13, h14, h15, h16⟩ := h
  have hk := hv.1
  have hN := nS_le hv
  obtain ⟨f1, f2, f3⟩ := fsp_spec hv hs
  rw [oI_lt hj] at h6 h7
  unfold lpC lpM
  rw [p1, h6, put_in _ _ (by omega) (by omega), bnd_s, at_in _ (by omega) (by omega), bnd_s, firsts_ok hW hv hs]
  rw [up_eq, rd_l (k := 303) _ (by omega) (by omega), bnd_s, rd_l (k := 301) _ (by omega) (by omega), bnd_s, p2, h7, lit_n 304, nI_add, wr_in _ _ (by omega) (by omega), bnd_s]
  try simp only [sl_s, up_up, up_eq]
  rw [rd_l (k := 303) _ (by omega) (by omega), bnd_s, u_ne _ _ (by omega), p2, nI_1, wr_l (k := 303) _ _ (by omega) (by omega), bnd_s]
  try simp only [sl_s, up_up, up_eq]
  rw [wr_l (k := 344) _ _ (by omega) (by omega), bnd_s, m_firstOf (hM.up _) hv hn (by omega), bnd_s, fsh_eq hv hs, if_neg hsh, oI_lt f1]
  have f : ∀ z, z ≠ 303 → z ≠ 304 + k → z ≠ 344 → upd (upd (upd d (304 + k) (nI j)) 303 (nI (k + 1))) 344 0 z = d z := fun z a b c => by rw [u_ne _ _ c, u_ne _ _ a, u_ne _ _ b]
  have f303 : upd (upd (upd d (304 + k) (nI j)) 303 (nI (k + 1))) 344 0 303 = nI (k + 1) := by rw [u_ne _ _ (by omega), u_eq]
  have fk : upd (upd (upd d (304 + k) (nI j)) 303 (nI (k + 1))) 344 0 (304 + k) = nI j := by rw [u_ne _ _ (by omega), u_ne _ _ (by omega), u_eq]
  have f344 : upd (upd (upd d (304 + k) (nI j)) 303 (nI (k + 1))) 344 0 344 = 0 := u_eq _ _ _
  generalize upd (upd (upd d (304 + k) (nI j)) 303 (nI (k + 1))) 344 0 = D at f f303 fk f344
  have g : ∀ z, z ≠ 8 → z ≠ 9 → z ≠ 11 → (va_up (va_up (va_up S 8 (upd (S 8) k (nI j))) 9 (fun _ => (va_up S 8 (upd (S 8) k (nI j))) 9 0 + 1)) 11 (fun _ => 0)) z = S z := fun z a b c => by rw [up_ne _ _ c, up_ne _ _ b, up_ne _ _ a]
  have g8 : (va_up (va_up (va_up S 8 (upd (S 8) k (nI j))) 9 (fun _ => (va_up S 8 (upd (S 8) k (nI j))) 9 0 + 1)) 11 (fun _ => 0)) 8 = upd (S 8) k (nI j) := by rw [up_ne _ _ (by decide), up_ne _ _ (by decide), up_eq]
  have g9 : (va_up (va_up (va_up S 8 (upd (S 8) k (nI j))) 9 (fun _ => (va_up S 8 (upd (S 8) k (nI j))) 9 0 + 1)) 11 (fun _ => 0)) 9 0 = nI (k + 1) := by rw [up_ne _ _ (by decide), up_eq, up_ne _ _ (by decide), p1, nI_1]
  have g11 : (va_up (va_up (va_up S 8 (upd (S 8) k (nI j))) 9 (fun _ => (va_up S 8 (upd (S 8) k (nI j))) 9 0 + 1)) 11 (fun _ => 0)) 11 0 = 0 := by rw [up_eq]
  generalize (va_up (va_up (va_up S 8 (upd (S 8) k (nI j))) 9 (fun _ => (va_up S 8 (upd (S 8) k (nI j))) 9 0 + 1)) 11 (fun _ => 0)) = X at g g8 g9 g11
  obtain ⟨S', d', c1, c2, c3, c4, c5⟩ := BJ (S := X) (d := D) (sp := sp) hW hM hv ht (by rw [g 3 (by decide) (by decide) (by decide)]; exact hT) (by intro z hz; rw [f _ (by omega) (by omega) (by omega)]; exact hTM z hz) h1 (by rw [g 4 (by decide) (by decide) (by decide)]; exact h2) (by intro z hz; rw [f _ (by omega) (by omega) (by omega)]; exact h3 z hz) (RLat.same hL (fun i _ => by rw [g 10 (by decide) (by decide) (by decide)]) (fun z z1 z2 => f z (by omega) (by omega) (by omega))) (by rw [g11, f344]) (Or.inl f344) (by rw [g 12 (by decide) (by decide) (by decide), f 345 (by omega) (by omega) (by omega)]; exact h16) hn f1 hsh
  refine ⟨S', d', _, by rw [c1, bnd_s], by rw [c2, bnd_s], c3, ⟨k + 1, fun i => if i = k then j else pl i, by omega, ?_, ?_, fun i hi => ?_⟩, fun z ⟨z1, z2, z3, z4, z5, z6⟩ z7 z8 => ?_, ?_, fun z ⟨⟨z1, z2, z3, z4⟩, z5⟩ => ?_, ?_, ?_⟩
  · rw [c4 9 (by decide) (by decide) (by decide)]; exact g9
  · rw [c5 303 (by omega)]; exact f303
  · rw [c4 8 (by decide) (by decide) (by decide), c5 (304 + i) (by omega), g8]
    dsimp only
    by_cases z : i = k
    · subst z
      rw [if_pos rfl, u_eq, fk]
      exact ⟨hj, h5 hj, rfl, rfl⟩
    · rw [if_neg z, u_ne _ _ z, f _ (by omega) (by omega) (by omega)]
      exact p3 i (by omega)
  · rw [c4 z z2 z3 z4, g z z7 z8 z5]
  · rw [c4 12 (by decide) (by decide) (by decide), g 12 (by decide) (by decide) (by decide)]
  · rw [c5 z (by omega), f z (by omega) (by omega) (by omega)]
  · rw [c5 345 (by omega), f 345 (by omega) (by omega) (by omega)]
  · rw [c5 346 (by omega), f 346 (by omega) (by omega) (by omega)]
theorem leapJ {w : WS} {S XW XP XQ M : DM} {d : Nat → Int32} {t sp : Nat → Nat} {j r : Nat} (hW : PW w XW XP XQ) (hM : PM w M) (hv : VS w) (ht : VT t) (hT : PT t (S 3)) (hTM : MT t d) {n : Nat} (hn : 200 ≤ n) (h : RC w t sp S d j r) (hj : j < wK w) (hP : RPl w S d) {s : Nat} (hs : s < wnS w) (hsh : ¬ wkd w (fsp w s) = 3) : ∃ (S' : DM) (d' : Nat → Int32) (r' : Nat), fX3_leapTo n S XW XP (nI s) = some S' ∧ fX6_jumps n (va_up M 0 d) (nI s) = some (va_up M 0 d') ∧ RC w t sp S' d' (fsp w s) r' ∧ RPl w S' d' ∧ (∀ k, sGo k → k ≠ 8 → k ≠ 9 → S' k = S k) ∧ S' 12 = S 12 ∧ (∀ k, dPl k → d' k = d k) ∧ d' 345 = d 345 ∧ d' 346 = d 346 := by
  obtain ⟨k, pl, p0, p1, p2, p3⟩ := hP
  rw [leapTo_eq, jumps_eq, up_eq, rd_l (k := 303) _ (by omega) (by omega), bnd_s, p1, p2]
  by_cases c : k = 5
  · subst c
    rw [if_neg (by decide), if_pos (show nI 5 = (5 : Int32) from rfl)]
    obtain ⟨S1, a1, a2, a3, a4⟩ := c_leap_L n XW XP (fun x1 XS => lpC n XW XP x1 (va_up XS 9 (fun _ => 4))) (nI s) 4 1 (by omega) (by omega) n (by omega) S
    obtain ⟨d1, b1, b2, b3⟩ := m_leap_L n M (fun x1 XM => bnd (rdA 348 (XM 0) 303) fun v36 => bnd (wrA 348 (XM 0) 303 (v36 - 1)) fun f39 => lpM n x1 (va_up XM 0 f39)) (nI s) 4 0 (by omega) n (by omega) d
    rw [show fX3_leapTo_L10 n XW XP (fun x1 XS => lpC n XW XP x1 (va_up XS 9 (fun _ => 4))) n (nI s) 1 S = _ from a1]
    rw [show fX6_jumps_L14 n (fun x1 XM => bnd (rdA 348 (XM 0) 303) fun v36 => bnd (wrA 348 (XM 0) 303 (v36 - 1)) fun f39 => lpM n x1 (va_up XM 0 f39)) n (nI s) 0 (va_up M 0 d) = _ from b1]
    try simp only []
    rw [up_eq, rd_l (k := 303) _ (by omega) (by omega), bnd_s, b3 303 (by omega), p2, wr_l (k := 303) _ _ (by omega) (by omega), bnd_s, up_up, show (nI 5 - 1 : Int32) = nI 4 from rfl]
    have g : ∀ z, z ≠ 8 → z ≠ 9 → va_up S1 9 (fun _ => 4) z = S z := fun z x y => by rw [up_ne _ _ y, a4 z x]
    have f : ∀ z, (z < 303 ∨ 307 < z) → upd d1 303 (nI 4) z = d z := fun z x => by rw [u_ne _ _ (by omega), b3 z (by omega)]
    obtain ⟨h1, h2, h3, h4, h5, h6, h7, h8, h9, h10, h11, hL, h13, h14, h15, h16⟩ := h
    obtain ⟨S', d', r', c1, c2, c3, c4, c5, c6, c7, c8, c9⟩ := leapK (S := va_up S1 9 (fun _ => 4)) (d := upd d1 303 (nI 4)) (k := 4) (pl := fun i => pl (i + 1)) (sp := sp) (j := j) (r := r) hW hM hv ht (by rw [g 3 (by decide) (by decide)]; exact hT) (by intro z hz; rw [f _ (by omega)]; exact hTM z hz) hn ⟨h1, by rw [g 4 (by decide) (by decide)]; exact h2, by intro z hz; rw [f _ (by omega)]; exact h3 z hz, h4, h5, by rw [g 6 (by decide) (by decide)]; exact h6, by rw [f _ (by omega)]; exact h7, by rw [g 7 (by decide) (by decide)]; exact h8, by rw [f _ (by omega)]; exact h9, h10, h11, RLat.same hL (fun i _ => by rw [g 10 (by decide) (by decide)]) (fun z z1 z2 => f z (by omega)), by rw [g 11 (by decide) (by decide)]; exact h13, by rw [f _ (by omega)]; exact h14, fun q => by rw [g 11 (by decide) (by decide), f _ (by omega)]; exact h15 q, by rw [g 12 (by decide) (by decide), f _ (by omega)]; exact h16⟩ hj (Nat.le_refl _) (by rw [up_eq]; rfl) (u_eq _ _ _) (fun i hi => by
      obtain ⟨q1, q2, q3, q4⟩ := p3 (i + 1) (by omega)
      exact ⟨q1, q2, by rw [up_ne _ _ (by decide), a2 i (by omega) hi]; exact q3, by rw [u_ne _ _ (by omega), b2 i (by omega) hi]; exact q4⟩) hs hsh
    refine ⟨S', d', r', c1, c2, c3, c4, fun z z1 z2 z3 => by rw [c5 z z1 z2 z3, g z z2 z3], by rw [c6, g 12 (by decide) (by decide)], fun z z1 => by rw [c7 z z1, f z (by omega)], by rw [c8, f 345 (by omega)], by rw [c9, f 346 (by omega)]⟩
  · rw [if_pos ((lt_l2 (a := k) (k := 5) (by omega) (by omega)).mpr (by omega)), if_neg (fun e => c ((eq_l (a := k) (k := 5) (by omega) (by omega)).mp e))]
    exact leapK hW hM hv ht hT hTM hn h hj (by omega) p1 p2 p3 hs hsh
theorem retJ {w : WS} {S XW XP XQ M : DM} {d : Nat → Int32} {t sp : Nat → Nat} {j r : Nat} (hW : PW w XW XP XQ) (hM : PM w M) (hv : VS w) (ht : VT t) (hT : PT t (S 3)) (hTM : MT t d) {n : Nat} (hn : 200 ≤ n) (h : RC w t sp S d j r) (hP : RPl w S d) (h0 : ¬ S 9 0 = 0) : ∃ (S' : DM) (d' : Nat → Int32) (j' r' : Nat), fX3_returnToPlace n S XW = some S' ∧ fX6_returns (va_up M 0 d) = some (va_up M 0 d') ∧ RC w t sp S' d' j' r' ∧ j' < wK w ∧ RPl w S' d' ∧ (∀ k, sGo k → k ≠ 9 → S' k = S k) ∧ S' 12 = S 12 ∧ (∀ k, dPl k → d' k = d k) ∧ d' 345 = d 345 ∧ d' 346 = d 346 := by
  obtain ⟨k, pl, p0, p1, p2, p3⟩ := hP
  obtain ⟨h1, h2, h3, h4, h5, h6, h7, h8, h9, h10, h11, hL, h13, h14, h15, h16⟩ := h
  have hk := hv.1
  have k0 : k ≠ 0 := fun e => h0 (by rw [p1, e]; rfl)
  obtain ⟨k, rfl⟩ : ∃ z, k = z + 1 := ⟨k - 1, by omega⟩
  obtain ⟨q1, q2, q3, q4⟩ := p3 k (by omega)
  unfold fX3_returnToPlace fX6_returns
  try simp only [sl_s, up_up, up_eq]
  rw [rd_l (k := 303) _ (by omega) (by omega), bnd_s, p2, wr_l (k := 303) _ _ (by omega) (by omega), bnd_s]
  try simp only [sl_s, up_up, up_eq]
  rw [wr_l (k := 344) _ _ (by omega) (by omega), bnd_s]
  try simp only [sl_s, up_up, up_eq]
  rw [show (nI (k + 1) - 1 : Int32) = nI k from nI_pred k, rd_l (k := 303) _ (by omega) (by omega), bnd_s, u_ne _ _ (by omega), u_eq, lit_n 304, nI_add, rd_in _ (by omega) (by omega), bnd_s, u_ne _ _ (by omega), u_ne _ _ (by omega), q4]
  have f : ∀ z, z ≠ 303 → z ≠ 344 → upd (upd d 303 (nI k)) 344 0 z = d z := fun z a b => by rw [u_ne _ _ b, u_ne _ _ a]
  have f303 : upd (upd d 303 (nI k)) 344 0 303 = nI k := by rw [u_ne _ _ (by omega), u_eq]
  have f344 : upd (upd d 303 (nI k)) 344 0 344 = 0 := u_eq _ _ _
  generalize upd (upd d 303 (nI k)) 344 0 = D at f f303 f344
  have g : ∀ z, z ≠ 9 → z ≠ 11 → va_up (va_up S 9 (fun _ => S 9 0 - 1)) 11 (fun _ => 0) z = S z := fun z a b => by rw [up_ne _ _ b, up_ne _ _ a]
  have g9 : va_up (va_up S 9 (fun _ => S 9 0 - 1)) 11 (fun _ => 0) 9 0 = nI k := by rw [up_ne _ _ (by decide), up_eq, p1]; exact nI_pred k
  have g11 : va_up (va_up S 9 (fun _ => S 9 0 - 1)) 11 (fun _ => 0) 11 0 = 0 := by rw [up_eq]
  generalize va_up (va_up S 9 (fun _ => S 9 0 - 1)) 11 (fun _ => 0) = X at g g9 g11
  rw [g9, at_in _ (by omega) (by omega), bnd_s, g 8 (by decide) (by decide), q3]
  obtain ⟨S', d', c1, c2, c3, c4, c5⟩ := BJ (S := X) (d := D) (sp := sp) hW hM hv ht (by rw [g 3 (by decide) (by decide)]; exact hT) (by intro z hz; rw [f _ (by omega) (by omega)]; exact hTM z hz) h1 (by rw [g 4 (by decide) (by decide)]; exact h2) (by intro z hz; rw [f _ (by omega) (by omega)]; exact h3 z hz) (RLat.same hL (fun i _ => by rw [g 10 (by decide) (by decide)]) (fun z z1 z2 => f z (by omega) (by omega))) (by rw [g11, f344]) (Or.inl f344) (by rw [g 12 (by decide) (by decide), f 345 (by omega) (by omega)]; exact h16) hn q1 q2
  refine ⟨S', d', _, _, by rw [c1, bnd_s], by rw [c2, bnd_s], c3, q1, ⟨k, pl, by omega, ?_, ?_, fun i hi => ?_⟩, fun z ⟨z1, z2, z3, z4, z5, z6⟩ z7 => ?_, ?_, fun z ⟨⟨z1, z2, z3, z4⟩, z5⟩ => ?_, ?_, ?_⟩
  · rw [c4 9 (by decide) (by decide) (by decide)]; exact g9
  · rw [c5 303 (by omega)]; exact f303
  · rw [c4 8 (by decide) (by decide) (by decide), c5 (304 + i) (by omega), g 8 (by decide) (by decide), f _ (by omega) (by omega)]
    exact p3 i (by omega)
  · rw [c4 z z2 z3 z4, g z z7 z5]
  · rw [c4 12 (by decide) (by decide) (by decide), g 12 (by decide) (by decide)]
  · rw [c5 z (by omega), f z (by omega) (by omega)]
  · rw [c5 345 (by omega), f 345 (by omega) (by omega)]
  · rw [c5 346 (by omega), f 346 (by omega) (by omega)]
