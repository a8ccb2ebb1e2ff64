/-! asking back, whole -/
theorem fsp_shown {w : WS} (hv : VS w) {j : Nat} (hj : j < wK w) (hs : ¬ wkd w j = 3) : ¬ wkd w (fsp w (wsn w j)) = 3 := by
  intro h
  obtain ⟨h1, h2, h3⟩ := fsp_spec hv (sn_nS hv hj)
  have h4 := fsp_le hv hj
  by_cases e : fsp w (wsn w j) = j
  · rw [e] at h; exact hs h
  · have h5 := hv.2.2.2.2.1 (fsp w (wsn w j))
    rw [if_pos (by omega)] at h5
    have := sn_mono hv (show fsp w (wsn w j) + 1 ≤ j by omega)
    omega
theorem pvs_spec {w : WS} (hv : VS w) : ∀ s, s ≤ wnS w → pvs w s < wK w → ¬ wkd w (pvs w s) = 3 := by
  intro s
  induction s with
  | zero => intro _ h; exact absurd h (by unfold pvs; omega)
  | succ s ih =>
    intro hs h
    unfold pvs at h ⊢
    by_cases c : fsh w s < wK w
    · rw [if_pos c] at h ⊢
      rw [fsh_eq hv (by omega)] at c ⊢
      by_cases z : wkd w (fsp w s) = 3
      · rw [if_pos z] at c; omega
      · rw [if_neg z]; exact z
    · rw [if_neg c] at h ⊢
      exact ih (by omega) h
theorem pvs_le {w : WS} (s : Nat) : pvs w s ≤ wK w := by
  induction s with
  | zero => exact Nat.le_refl _
  | succ s ih =>
    unfold pvs
    by_cases c : fsh w s < wK w
    · rw [if_pos c]; omega
    · rw [if_neg c]; exact ih
theorem pvs_ex {w : WS} (hv : VS w) (h : nx w 0 < wK w) : pvs w (wnS w) < wK w := by
  have hn := (nx_spec w (Nat.zero_le _)).2.2.1 h
  have key : ∀ s, s ≤ wnS w → (∃ j, j < wK w ∧ ¬ wkd w j = 3 ∧ wsn w j < s) → pvs w s < wK w := by
    intro s
    induction s with
    | zero => rintro _ ⟨j, _, _, h3⟩; omega
    | succ s ih =>
      rintro hs ⟨j, h1, h2, h3⟩
      unfold pvs
      by_cases c : fsh w s < wK w
      · rw [if_pos c]; exact c
      · rw [if_neg c]
        refine ih (by omega) ⟨j, h1, h2, ?_⟩
        by_cases e : wsn w j = s
        · exfalso
          apply c
          rw [← e, fsh_eq hv (sn_nS hv h1), if_neg (fsp_shown hv h1 h2)]
          exact (fsp_spec hv (sn_nS hv h1)).1
        · omega
  exact key _ (Nat.le_refl _) ⟨nx w 0, h, hn, sn_nS hv h⟩
theorem m_pvs_L {w : WS} {XM : DM} (hM : PM w XM) (hv : VS w) {n : Nat} (hn : 200 ≤ n) (kk : Int32 → DM → Option DM) {S : Nat} (hS : S ≤ wnS w) : ∀ (k s : Nat), s + k = S → ∀ fu, k < fu → fX6_asks_L206 n kk fu (nI S) (oI (wK w) (pvs w s)) (nI s) XM = kk (oI (wK w) (pvs w S)) XM := by
  have hk := hv.1
  have hN := nS_le hv
  intro k
  induction k with
  | zero =>
    intro s hs fu hf
    obtain ⟨fu, rfl⟩ : ∃ z, fu = z + 1 := ⟨fu - 1, by omega⟩
    unfold fX6_asks_L206
    rw [if_pos (nI_le (by omega) (by omega)), show s = S by omega]
  | succ k ih =>
    intro s hs fu hf
    obtain ⟨fu, rfl⟩ : ∃ z, fu = z + 1 := ⟨fu - 1, by omega⟩
    have ih := ih (s + 1) (by omega) fu (by omega)
    unfold fX6_asks_L206
    rw [if_neg (nI_ge (by omega) (by omega)), m_firstOf hM hv hn (by omega)]
    simp only [bnd_s, sl_s, nI_1]
    rw [show pvs w (s + 1) = if fsh w s < wK w then fsh w s else pvs w s from rfl] at ih
    by_cases c : fsh w s < wK w
    · rw [if_pos c] at ih
      rw [if_neg (fun e => ((oI_m1 hk).mp e) c)]
      exact ih
    · rw [if_neg c] at ih
      rw [if_pos ((oI_m1 hk).mpr c)]
      exact ih
theorem m_pvs0 {w : WS} {XM : DM} (hM : PM w XM) (hv : VS w) {n : Nat} (hn : 200 ≤ n) (kk : Int32 → DM → Option DM) {S : Nat} (hS : S ≤ wnS w) : fX6_asks_L206 n kk n (nI S) (-1) 0 XM = kk (oI (wK w) (pvs w S)) XM := by
  have := m_pvs_L hM hv hn kk hS S 0 (by omega) n (by have := nS_le hv; omega)
  rw [show oI (wK w) (pvs w 0) = -1 from oI_ge (by unfold pvs; omega)] at this
  exact this
/-- where asking back goes -/
def bkT (w : WS) (j : Nat) : Nat := if j < wK w then (if j = fsp w (wsn w j) then (if pvs w (wsn w j) < wK w then pvs w (wsn w j) else j) else fsp w (wsn w j)) else pvs w (wnS w)
theorem bkT_ok {w : WS} (hv : VS w) {j : Nat} (hs : j < wK w → ¬ wkd w j = 3) (h0 : nx w 0 < wK w) : bkT w j < wK w ∧ ¬ wkd w (bkT w j) = 3 := by
  unfold bkT
  by_cases c : j < wK w
  · rw [if_pos c]
    obtain ⟨h1, h2, h3⟩ := fsp_spec hv (sn_nS hv c)
    have hn := sn_nS hv c
    by_cases e : j = fsp w (wsn w j)
    · rw [if_pos e]
      by_cases z : pvs w (wsn w j) < wK w
      · rw [if_pos z]; exact ⟨z, pvs_spec hv _ (by omega) z⟩
      · rw [if_neg z]; exact ⟨c, hs c⟩
    · rw [if_neg e]; exact ⟨h1, fsp_shown hv c (hs c)⟩
  · rw [if_neg c]
    have := pvs_ex hv h0
    exact ⟨this, pvs_spec hv _ (Nat.le_refl _) this⟩
theorem askFor_ok {w : WS} {S XW XP XQ : DM} (hW : PW w XW XP XQ) (hv : VS w) {n : Nat} (hn : 200 ≤ n) {j : Nat} (hs : j < wK w → ¬ wkd w j = 3) (h0 : nx w 0 < wK w) (h6 : S 6 0 = oI (wK w) j) : fX3_wordAskedFor n S XW XP = some (nI (bkT w j)) := by
  have hk := hv.1
  have hN := nS_le hv
  unfold fX3_wordAskedFor bkT
  rw [h6]
  by_cases c : j < wK w
  · obtain ⟨h1, h2, h3⟩ := fsp_spec hv (sn_nS hv c)
    have hs1 := sn_le hv j
    have hn1 := sn_nS hv c
    rw [oI_lt c, if_neg (nI_ne_m1 (by omega)), at_in _ (by omega) (by omega), bnd_s, hW.2.2.1.2.1 j c, at_in _ (by omega) (by omega), bnd_s, firsts_ok hW hv hn1, if_pos c]
    by_cases e : j = fsp w (wsn w j)
    · rw [if_pos (by rw [← e]), if_pos e, firstBefore_ok hW hv hn (by omega), bnd_s]
      by_cases z : pvs w (wsn w j) < wK w
      · rw [if_neg (fun y => ((oI_m1 hk).mp y) z), if_pos z, oI_lt z]
      · rw [if_pos ((oI_m1 hk).mpr z), if_neg z]
    · rw [if_neg (fun y => e ((nI_eq (by omega) (by omega)).mp y)), if_neg e]
  · rw [oI_ge c, if_pos rfl, if_neg c, hW.2.2.1.1, show (if wK w = 0 then 0 else wsn w (wK w - 1) + 1) = wnS w from rfl, firstBefore_ok hW hv hn (Nat.le_refl _), bnd_s, oI_lt (pvs_ex hv h0)]
theorem backJ {w : WS} {S XW XP XQ M : DM} {d : Nat → Int32} {t sp : Nat → Nat} {j r : Nat} (hW : PW w XW XP XQ) (hM : PM w M) (hv : VS w) (ht : VT t) (hT : PT t (S 3)) (hTM : MT t d) {n : Nat} (hn : 200 ≤ n) (h : RC w t sp S d j r) (h14 : S 14 0 = d 347) (h0 : nx w 0 < wK w) : ∃ (sp' : Nat → Nat) (S' : DM) (d' : Nat → Int32) (j' r' : Nat), fX3_askBack n S XW XP = some S' ∧ fX6_asks n (va_up M 0 d) = some (va_up M 0 d') ∧ RC w t sp' S' d' j' r' ∧ j' < wK w ∧ S' 14 0 = d' 347 ∧ (∀ k, sGo k → k ≠ 14 → S' k = S k) ∧ S' 12 = S 12 ∧ (∀ k, dGo k → k ≠ 347 → d' k = d k) ∧ d' 345 = d 345 ∧ d' 346 = d 346 := by
  obtain ⟨h1, h2, h3, h4, h5, h6, h7, h8, h9, h10, h11, ⟨q, la, l1, l2, l3, l4, l5⟩, h13, h14a, h15, h16⟩ := h
  have hk := hv.1
  have hN := nS_le hv
  have hb := bkT_ok hv h5 h0
  have hsA : VP (spA w t sp q la) := spA_VP h1
  obtain ⟨S1, a1, a2, a3⟩ := c_ask_L hW hv ht h1 hn l3 (fun XS => bnd (fX3_wordAskedFor n (va_up (va_up XS 11 fun _ => 1) 14 fun _ => (va_up XS 11 fun _ => 1) 14 0 + 1) XW XP) fun r5 => bnd (fX3_becomePresent n (va_up (va_up XS 11 fun _ => 1) 14 fun _ => (va_up XS 11 fun _ => 1) 14 0 + 1) XW r5) fun X10 => some X10) 3 0 (by omega) n (by omega) S hT l4 (fun c' h' => by rw [if_neg (by omega)]; exact h2 c' h')
  have hc1 : fX3_askBack n S XW XP = bnd (fX3_wordAskedFor n (va_up (va_up S1 11 fun _ => 1) 14 fun _ => (va_up S1 11 fun _ => 1) 14 0 + 1) XW XP) fun r5 => bnd (fX3_becomePresent n (va_up (va_up S1 11 fun _ => 1) 14 fun _ => (va_up S1 11 fun _ => 1) 14 0 + 1) XW r5) fun X10 => some X10 := a1
  have g : ∀ k, k ≠ 4 → k ≠ 11 → k ≠ 14 → (va_up (va_up S1 11 fun _ => 1) 14 fun _ => (va_up S1 11 fun _ => 1) 14 0 + 1) k = S k := fun k z1 z2 z3 => by rw [up_ne _ _ z3, up_ne _ _ z2, a3 k z1]
  have g4 : (va_up (va_up S1 11 fun _ => 1) 14 fun _ => (va_up S1 11 fun _ => 1) 14 0 + 1) 4 = S1 4 := by rw [up_ne _ _ (by decide), up_ne _ _ (by decide)]
  have g11 : (va_up (va_up S1 11 fun _ => 1) 14 fun _ => (va_up S1 11 fun _ => 1) 14 0 + 1) 11 0 = 1 := by rw [up_ne _ _ (by decide), up_eq]
  have g14 : (va_up (va_up S1 11 fun _ => 1) 14 fun _ => (va_up S1 11 fun _ => 1) 14 0 + 1) 14 0 = S 14 0 + 1 := by rw [up_eq, up_ne _ _ (by decide), a3 14 (by decide)]
  generalize hX : (va_up (va_up S1 11 fun _ => 1) 14 fun _ => (va_up S1 11 fun _ => 1) 14 0 + 1) = X at hc1 g g4 g11 g14
  rw [askFor_ok hW hv hn h5 h0 (by rw [g 6 (by decide) (by decide) (by decide)]; exact h6), bnd_s] at hc1
  -- the reference
  have hm := m_ask_L hM hv ht h1 hn l1 l3
  unfold fX6_asks
  simp only [sl_s]
  obtain ⟨d1, b1, b2, b3⟩ := hm _ 3 0 (by omega) n (by omega) d hTM l2 l5 (fun c' h' => by rw [if_neg (by omega)]; exact h3 c' h')
  rw [show fX6_asks_L2 n _ n 0 (va_up M 0 d) = _ from b1]
  simp only [up_eq, up_up]
  rw [wr_l (k := 344) _ _ (by omega) (by omega)]
  simp only [bnd_s, up_eq, up_up]
  rw [rd_l (k := 347) _ (by omega) (by omega)]
  simp only [bnd_s]
  rw [wr_l (k := 347) _ _ (by omega) (by omega)]
  simp only [bnd_s, up_eq, up_up]
  have e347 : upd d1 344 1 347 = d 347 := by rw [u_ne _ _ (by omega), b3 _ (by omega)]
  rw [e347]
  have f : ∀ k, (k < 330 ∨ 332 < k) → k ≠ 344 → k ≠ 347 → upd (upd d1 344 1) 347 (d 347 + 1) k = d k := fun k z1 z2 z3 => by rw [u_ne _ _ z3, u_ne _ _ z2, b3 k z1]
  have f344 : upd (upd d1 344 1) 347 (d 347 + 1) 344 = 1 := by rw [u_ne _ _ (by omega), u_eq]
  have f347 : upd (upd d1 344 1) 347 (d 347 + 1) 347 = d 347 + 1 := u_eq _ _ _
  have fV : MV (spA w t sp q la) (upd (upd d1 344 1) 347 (d 347 + 1)) := by intro z hz; rw [u_ne _ _ (by omega), u_ne _ _ (by omega)]; exact b2 z hz
  generalize hD : upd (upd d1 344 1) 347 (d 347 + 1) = D at f f344 f347 fV
  rw [rd_l (k := 301) _ (by omega) (by omega)]
  simp only [bnd_s]
  rw [f 301 (by omega) (by omega) (by omega), h7]
  have hMD := hM.up D
  obtain ⟨S', d', c1, c2, c3, c4, c5⟩ := BJ (S := X) (d := D) (sp := spA w t sp q la) hW hM hv ht (by rw [g 3 (by decide) (by decide) (by decide)]; exact hT) (by intro z hz; rw [f _ (by omega) (by omega) (by omega)]; exact hTM z hz) hsA (by rw [g4]; exact a2) fV (RLat.same ⟨q, la, l1, l2, l3, l4, l5⟩ (fun i _ => by rw [g 10 (by decide) (by decide) (by decide)]) (fun k z1 z2 => f k (by omega) (by omega) (by omega))) (by rw [g11, f344]) (Or.inr f344) (by rw [g 12 (by decide) (by decide) (by decide), f 345 (by omega) (by omega) (by omega)]; exact h16) hn hb.1 hb.2
  rw [c1, bnd_s] at hc1
  have fin : ∃ (sp' : Nat → Nat) (S' : DM) (d' : Nat → Int32) (j' r' : Nat), fX3_askBack n S XW XP = some S' ∧ (bnd (fX6_becomes (va_up M 0 D) (nI (bkT w j))) fun X23 => some X23) = some (va_up M 0 d') ∧ RC w t sp' S' d' j' r' ∧ j' < wK w ∧ S' 14 0 = d' 347 ∧ (∀ k, sGo k → k ≠ 14 → S' k = S k) ∧ S' 12 = S 12 ∧ (∀ k, dGo k → k ≠ 347 → d' k = d k) ∧ d' 345 = d 345 ∧ d' 346 = d 346 := by
    refine ⟨_, S', d', _, _, hc1, by rw [c2, bnd_s], c3, hb.1, ?_, fun k ⟨z1, z2, z3, z4, z5, z6⟩ z7 => ?_, ?_, fun k ⟨z1, z2, z3, z4⟩ z5 => ?_, ?_, ?_⟩
    · rw [c4 14 (by decide) (by decide) (by decide), g14, c5 347 (by omega), f347, h14]
    · rw [c4 k z2 z3 z4, g k z1 z5 z7]
    · rw [c4 12 (by decide) (by decide) (by decide), g 12 (by decide) (by decide) (by decide)]
    · rw [c5 k (by omega), f k z3 (by omega) z5]
    · rw [c5 345 (by omega), f 345 (by omega) (by omega) (by omega)]
    · rw [c5 346 (by omega), f 346 (by omega) (by omega) (by omega)]
  by_cases c : j < wK w
  · have hs1 := sn_le hv j
    have hn1 := sn_nS hv c
    obtain ⟨y1, y2, y3⟩ := fsp_spec hv hn1
    rw [oI_lt c, if_neg (nI_ne_m1 (by omega))]
    simp only [show (va_up M 0 D) 17 = M 17 from up_ne _ _ (by decide)]
    rw [rd_in (M 17) (by omega) (by omega)]
    simp only [bnd_s]
    rw [(hM.2.2.2 j c).2.2.2.2.2.1, if_neg (nI_ne_m1 (by omega)), m_firstOf hMD hv hn (by omega)]
    simp only [bnd_s]
    rw [fsh_eq hv hn1, if_neg (fsp_shown hv c (h5 c)), oI_lt y1]
    unfold bkT at fin
    rw [if_pos c] at fin
    by_cases e : j = fsp w (wsn w j)
    · rw [if_pos e] at fin
      rw [if_pos (by rw [← e])]
      rw [m_pvs0 hMD hv hn _ (by omega)]
      by_cases z : pvs w (wsn w j) < wK w
      · rw [if_pos z] at fin
        rw [if_neg (fun y => ((oI_m1 hk).mp y) z), oI_lt z]
        exact fin
      · rw [if_neg z] at fin
        rw [if_pos ((oI_m1 hk).mpr z), rd_l (k := 301) _ (by omega) (by omega), bnd_s, up_eq, f 301 (by omega) (by omega) (by omega), h7, oI_lt c]
        exact fin
    · rw [if_neg e] at fin
      rw [if_neg (fun y => e ((nI_eq (by omega) (by omega)).mp y).symm)]
      exact fin
  · have hp := pvs_ex hv h0
    rw [oI_ge c, if_pos rfl, if_pos rfl, if_pos rfl, show (va_up M 0 D) 10 0 = nI (wnS w) from hMD.2.1]
    unfold bkT at fin
    rw [if_neg c] at fin
    rw [m_pvs0 hMD hv hn _ (Nat.le_refl _), if_neg (fun y => ((oI_m1 hk).mp y) hp), oI_lt hp]
    exact fin
