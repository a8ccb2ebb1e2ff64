/-! a word becomes the present one -/
theorem up_eq {α : Type} (f : Nat → α) (k : Nat) (v : α) : va_up f k v k = v := va_up_self f k v
theorem up_ne {α : Type} (f : Nat → α) {k j : Nat} (v : α) (h : j ≠ k) : va_up f k v j = f j := va_up_ne f v h
theorem u_eq (f : Nat → Int32) (k : Nat) (x : Int32) : upd f k x k = x := pk_us
theorem u_ne (f : Nat → Int32) {k j : Nat} (x : Int32) (h : j ≠ k) : upd f k x j = f j := pk_un h
theorem PW.notS {w : WS} {XW XP XQ : DM} (hW : PW w XW XP XQ) : PW w XW XP XQ := hW
theorem c_bp {w : WS} {XS XW XP XQ : DM} {t sp : Nat → Nat} (hW : PW w XW XP XQ) (hv : VS w) (ht : VT t) (hT : PT t (XS 3)) (hp : VP sp) (hV : PV sp (XS 4)) {n : Nat} (hn : 200 ≤ n) {i : Nat} (hi : i < wK w) : ∃ S' : DM, fX3_becomePresent n XS XW (nI i) = some S' ∧ S' 6 0 = nI i ∧ S' 7 0 = nI (wtn w t sp i) ∧ S' 10 0 = nI i ∧ S' 10 1 = XS 10 0 ∧ S' 10 2 = XS 10 1 ∧ ∀ k, k ≠ 6 → k ≠ 7 → k ≠ 10 → S' k = XS k := by
  have h2 := wcl_le w i
  obtain ⟨a, b⟩ := hp (wcl w i) (by omega)
  obtain ⟨n, rfl⟩ : ∃ z, n = z + 4 := ⟨n - 4, by omega⟩
  unfold fX3_becomePresent
  rw [has_in hW hv hi, bnd_s, if_neg (by decide)]
  simp only [sl_s]
  rw [speedOf_ok hW hv (XS := va_up XS 6 (fun _ => nI i)) (sp := sp) (by rw [up_ne _ _ (by decide)]; exact hV) hi, bnd_s, timeWith_ok hW hv ht (XS := va_up XS 6 (fun _ => nI i)) (by rw [up_ne _ _ (by decide)]; exact hT) hi (by omega) b, bnd_s]
  unfold fX3_becomePresent_L49
  rw [if_neg (by decide)]
  simp only [show (3 : Int32) - 1 - 1 = 1 from rfl, show (3 : Int32) - 1 = 2 from rfl, show (2 : Int32) - 1 = 1 from rfl, show (2 : Int32) + -1 = 1 from rfl, sl_s]
  rw [rd_l (k := 1) _ (by omega) (by omega), bnd_s, wr_l (k := 2) _ _ (by omega) (by omega), bnd_s]
  unfold fX3_becomePresent_L49
  rw [if_neg (by decide)]
  simp only [show (1 : Int32) - 1 = 0 from rfl, show (1 : Int32) + -1 = 0 from rfl, sl_s]
  rw [rd_l (k := 0) _ (by omega) (by omega), bnd_s, wr_l (k := 1) _ _ (by omega) (by omega), bnd_s]
  unfold fX3_becomePresent_L49
  rw [if_pos (by decide), put_l (k := 0) _ _ (by omega) (by omega), bnd_s]
  refine ⟨_, rfl, ?_, ?_, ?_, ?_, ?_, ?_⟩
  · simp [va_up]
  · simp [va_up, wtn]
  · simp [va_up, upd]
  · simp [va_up, upd]
  · simp [va_up, upd]
  · intro k h6 h7 h10
    simp [va_up, h6, h7, h10]
theorem c_bp_none {XW XS : DM} {w : WS} {XP XQ : DM} (hW : PW w XW XP XQ) (n : Nat) : ∃ S' : DM, fX3_becomePresent n XS XW (-1) = some S' ∧ S' 6 0 = -1 ∧ S' 7 0 = 0 ∧ ∀ k, k ≠ 6 → k ≠ 7 → S' k = XS k := by
  unfold fX3_becomePresent
  rw [has_out hW (Or.inl m1_lt0), bnd_s, if_pos rfl]
  simp only [sl_s]
  refine ⟨_, rfl, ?_, ?_, ?_⟩
  · simp [va_up]
  · simp [va_up]
  · intro k h6 h7
    simp [va_up, h6, h7]
theorem PM.up {w : WS} {M : DM} (h : PM w M) (d : Nat → Int32) : PM w (va_up M 0 d) := by
  unfold PM at h ⊢
  simpa [va_up] using h
theorem up_up (M : DM) (d e : Nat → Int32) : va_up (va_up M 0 d) 0 e = va_up M 0 e := bx_uu M 0 d e
theorem m_bec {w : WS} {M : DM} {d : Nat → Int32} {t sp : Nat → Nat} (hM : PM w M) (hv : VS w) (ht : VT t) (hT : MT t d) (hp : VP sp) (hV : MV sp d) {i q : Nat} (hi : i < wK w) (hq : q ≤ 3) (h340 : d 340 = nI q) : ∃ d' : Nat → Int32, fX6_becomes (va_up M 0 d) (nI i) = some (va_up M 0 d') ∧ d' 301 = nI i ∧ d' 302 = nI (wtn w t sp i) ∧ (q = 3 → d' 340 = nI 3 ∧ d' 341 = d 342 ∧ d' 342 = d 343 ∧ d' 343 = nI i) ∧ (q < 3 → d' 340 = nI (q + 1) ∧ d' (341 + q) = nI i ∧ ∀ j, j < q → d' (341 + j) = d (341 + j)) ∧ ∀ k, k ≠ 301 → k ≠ 302 → (k < 340 ∨ 343 < k) → d' k = d k := by
  have hk := hv.1
  unfold fX6_becomes
  simp only [up_eq, up_up, sl_s]
  rw [wr_l (k := 301) _ _ (by omega) (by omega), bnd_s, if_neg (nI_ne_m1 (by omega))]
  rw [m_timeOf (XM := va_up M 0 (upd d 301 (nI i))) (hM.up _) hv ht (by intro j hj; rw [up_eq, u_ne _ _ (by omega)]; exact hT j hj) hp (by intro j hj; rw [up_eq, u_ne _ _ (by omega)]; exact hV j hj) hi, bnd_s]
  try simp only [up_eq, up_up, sl_s]
  rw [wr_l (k := 302) _ _ (by omega) (by omega), bnd_s, if_neg (nI_ne_m1 (by omega))]
  try simp only [up_eq, up_up, sl_s]
  have e340 : upd (upd d 301 (nI i)) 302 (nI (wtn w t sp i)) 340 = nI q := by rw [u_ne _ _ (by omega), u_ne _ _ (by omega)]; exact h340
  rw [rd_l (k := 340) _ (by omega) (by omega), bnd_s, e340]
  by_cases c : q = 3
  · subst c
    rw [if_pos (show nI 3 = (3 : Int32) from rfl), rd_l (k := 342) _ (by omega) (by omega), bnd_s, wr_l (k := 341) _ _ (by omega) (by omega), bnd_s]
    try simp only [up_eq, up_up, sl_s]
    rw [rd_l (k := 343) _ (by omega) (by omega), bnd_s, wr_l (k := 342) _ _ (by omega) (by omega), bnd_s]
    try simp only [up_eq, up_up, sl_s]
    rw [rd_l (k := 340) _ (by omega) (by omega), bnd_s, u_ne (k := 342) (j := 340) _ _ (by omega), u_ne (k := 341) (j := 340) _ _ (by omega), e340, wr_l (k := 340) _ _ (by omega) (by omega), bnd_s]
    try simp only [up_eq, up_up, sl_s]
    rw [rd_l (k := 340) _ (by omega) (by omega), bnd_s, u_eq, show (341 : Int32) + (nI 3 - 1) = nI 343 from rfl, wr_in _ _ (by omega) (by omega), bnd_s]
    try simp only [up_eq, up_up, sl_s]
    rw [rd_l (k := 340) _ (by omega) (by omega), bnd_s, u_ne (k := 343) (j := 340) _ _ (by omega), u_eq, show (nI 3 - 1 : Int32) + 1 = nI 3 from rfl, wr_l (k := 340) _ _ (by omega) (by omega), bnd_s]
    try simp only [up_eq, up_up, sl_s]
    refine ⟨_, rfl, by simp [upd], by simp [upd], fun _ => ⟨by simp [upd], by simp [upd], by simp [upd], by simp [upd]⟩, fun h => by omega, fun k h1 h2 h3 => ?_⟩
    have : k ≠ 340 ∧ k ≠ 341 ∧ k ≠ 342 ∧ k ≠ 343 := by omega
    simp [upd, h1, h2, this]
  · rw [if_neg (fun e => c ((eq_l (a := q) (k := 3) (by omega) (by omega)).mp e)), bnd_s, lit_n 341, nI_add, wr_in _ _ (by omega) (by omega), bnd_s]
    try simp only [up_eq, up_up, sl_s]
    rw [rd_l (k := 340) _ (by omega) (by omega), bnd_s, u_ne _ _ (by omega), e340, nI_1, wr_l (k := 340) _ _ (by omega) (by omega), bnd_s]
    try simp only [up_eq, up_up, sl_s]
    refine ⟨_, rfl, ?_, ?_, fun h => absurd h c, fun h => ⟨by simp [upd], ?_, fun j hj => ?_⟩, fun k h1 h2 h3 => ?_⟩
    · rw [u_ne _ _ (by omega), u_ne _ _ (by omega), u_ne _ _ (by omega), u_eq]
    · rw [u_ne _ _ (by omega), u_ne _ _ (by omega), u_eq]
    · rw [u_ne _ _ (by omega), u_eq]
    · rw [u_ne _ _ (by omega), u_ne _ _ (by omega), u_ne _ _ (by omega), u_ne _ _ (by omega)]
    · rw [u_ne _ _ (by omega), u_ne _ _ (by omega), u_ne _ _ (by omega), u_ne _ _ (by omega)]
theorem m_bec_none {M : DM} {d : Nat → Int32} : ∃ d' : Nat → Int32, fX6_becomes (va_up M 0 d) (-1) = some (va_up M 0 d') ∧ d' 301 = -1 ∧ d' 302 = 0 ∧ ∀ k, k ≠ 301 → k ≠ 302 → d' k = d k := by
  unfold fX6_becomes
  simp only [up_eq, up_up, sl_s]
  rw [wr_l (k := 301) _ _ (by omega) (by omega), bnd_s]
  simp only [up_eq, up_up, sl_s, if_true]
  rw [wr_l (k := 302) _ _ (by omega) (by omega), bnd_s]
  try simp only [up_eq, up_up, sl_s, if_true]
  refine ⟨_, rfl, by simp [upd], by simp [upd], fun k h1 h2 => by simp [upd, h1, h2]⟩
/-- the latest present words, on both sides -/
def RLat (w : WS) (f d : Nat → Int32) : Prop := ∃ (q : Nat) (la : Nat → Nat), q ≤ 3 ∧ d 340 = nI q ∧ (∀ i, i < q → la i < wK w ∧ ¬ wkd w (la i) = 3) ∧ (∀ i, i < 3 → f i = if i < q then nI (la i) else -1) ∧ (∀ i, i < q → d (341 + (q - 1 - i)) = nI (la i))
def lap (i : Nat) (la : Nat → Nat) : Nat → Nat := fun k => if k = 0 then i else la (k - 1)
theorem lap_0 (i : Nat) (la : Nat → Nat) : lap i la 0 = i := rfl
theorem lap_s (i : Nat) (la : Nat → Nat) {k : Nat} (h : ¬ k = 0) : lap i la k = la (k - 1) := if_neg h
theorem RLat.push {w : WS} {f d f' d' : Nat → Int32} {i : Nat} (hi : i < wK w) (hs : ¬ wkd w i = 3) {q : Nat} {la : Nat → Nat} (hq : q ≤ 3) (hl : ∀ i, i < q → la i < wK w ∧ ¬ wkd w (la i) = 3) (hf : ∀ i, i < 3 → f i = if i < q then nI (la i) else -1) (hd : ∀ i, i < q → d (341 + (q - 1 - i)) = nI (la i))
    (f0 : f' 0 = nI i) (f1 : f' 1 = f 0) (f2 : f' 2 = f 1) (h3 : q = 3 → d' 340 = nI 3 ∧ d' 341 = d 342 ∧ d' 342 = d 343 ∧ d' 343 = nI i) (h2 : q < 3 → d' 340 = nI (q + 1) ∧ d' (341 + q) = nI i ∧ ∀ j, j < q → d' (341 + j) = d (341 + j)) : RLat w f' d' := by
  have hf0 := hf 0 (by omega)
  have hf1 := hf 1 (by omega)
  refine ⟨min (q + 1) 3, lap i la, by omega, ?_, fun k hk => ?_, fun k hk => ?_, fun k hk => ?_⟩
  · by_cases c : q = 3
    · rw [(h3 c).1, c]; rfl
    · rw [(h2 (by omega)).1, Nat.min_eq_left (by omega)]
  · by_cases c : k = 0
    · subst c; exact ⟨hi, hs⟩
    · rw [lap_s _ _ c]; exact hl _ (by omega)
  · rcases (show k = 0 ∨ k = 1 ∨ k = 2 by omega) with rfl | rfl | rfl
    · rw [f0, if_pos (by omega), lap_0]
    · rw [f1, hf0, lap_s _ _ (by decide)]
      by_cases c : 0 < q
      · rw [if_pos c, if_pos (by omega)]
      · rw [if_neg c, if_neg (by omega)]
    · rw [f2, hf1, lap_s _ _ (by decide)]
      by_cases c : 1 < q
      · rw [if_pos c, if_pos (by omega)]
      · rw [if_neg c, if_neg (by omega)]
  · by_cases c : q = 3
    · subst c
      obtain ⟨-, a1, a2, a3⟩ := h3 rfl
      have d0 := hd 0 (by omega)
      have d1 := hd 1 (by omega)
      rcases (show k = 0 ∨ k = 1 ∨ k = 2 by omega) with rfl | rfl | rfl
      · exact a3
      · exact a2.trans d0
      · exact a1.trans d1
    · obtain ⟨-, a1, a2⟩ := h2 (by omega)
      rw [Nat.min_eq_left (by omega)] at hk ⊢
      by_cases c0 : k = 0
      · subst c0
        rw [lap_0]
        simpa using a1
      · rw [lap_s _ _ c0, ← hd (k - 1) (by omega), ← a2 (q - 1 - (k - 1)) (by omega)]
        congr 1
        omega
