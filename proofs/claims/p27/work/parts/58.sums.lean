/-! sums -/
def smN (f : Nat → Nat) : Nat → Nat → Nat
  | 0, _ => 0
  | k + 1, a => f a + smN f k (a + 1)
theorem smN_s (f : Nat → Nat) (k a : Nat) : smN f (k + 1) a = f a + smN f k (a + 1) := rfl
theorem pred_lt (a : Nat) (h : a < 2 ^ 31) : nI a - 1 < nI a := by
  by_cases c : a = 0
  · subst c; decide
  · obtain ⟨a, rfl⟩ : ∃ z, a = z + 1 := ⟨a - 1, by omega⟩
    rw [nI_pred]
    exact nI_lt (by omega) h
theorem c_toa_L {w : WS} {S XW XP XQ : DM} {t sp : Nat → Nat} (hW : PW w XW XP XQ) (hv : VS w) (ht : VT t) (hT : PT t (S 3)) (hp : VP sp) (hV : PV sp (S 4)) (n : Nat) : ∀ (k a acc : Nat), a + k ≤ wK w → ∀ fu, k < fu → fX3_timeOfAll_L5 n S XW fu (nI (a + k) - 1) (nI acc) (nI a) = some (nI (acc + smN (wtn w t sp) k a)) := by
  have hk := hv.1
  intro k
  induction k with
  | zero =>
    intro a acc ha fu hfu
    obtain ⟨fu, rfl⟩ : ∃ z, fu = z + 1 := ⟨fu - 1, by omega⟩
    unfold fX3_timeOfAll_L5
    rw [Nat.add_zero, if_pos (pred_lt a (by omega))]
    rfl
  | succ k ih =>
    intro a acc ha fu hfu
    obtain ⟨fu, rfl⟩ : ∃ z, fu = z + 1 := ⟨fu - 1, by omega⟩
    unfold fX3_timeOfAll_L5
    rw [show a + (k + 1) = (a + k) + 1 by omega, nI_pred, if_neg (nI_nlt (by omega) (by omega)), timeOf_ok hW hv ht hT hp hV (show a < wK w by omega), bnd_s, sl_s, sl_s, nI_add, nI_1]
    have := ih (a + 1) (acc + wtn w t sp a) (by omega) fu (by omega)
    rw [show a + 1 + k = (a + k) + 1 by omega, nI_pred] at this
    rw [this, smN_s, Nat.add_assoc]
theorem c_toa {w : WS} {S XW XP XQ : DM} {t sp : Nat → Nat} (hW : PW w XW XP XQ) (hv : VS w) (ht : VT t) (hT : PT t (S 3)) (hp : VP sp) (hV : PV sp (S 4)) {n : Nat} (hn : 200 ≤ n) {a k : Nat} (ha : a + k ≤ wK w) : fX3_timeOfAll n S XW (nI a) (nI (a + k) - 1) = some (nI (smN (wtn w t sp) k a)) := by
  have hk := hv.1
  have := c_toa_L hW hv ht hT hp hV n k a 0 ha n (by omega)
  rw [Nat.zero_add] at this
  exact this
theorem m_cnt_L {w : WS} {XM : DM} {t sp : Nat → Nat} (hM : PM w XM) (hv : VS w) (ht : VT t) (hT : MT t (XM 0)) (hp : VP sp) (hV : MV sp (XM 0)) (n : Nat) (kk : Int32 → Int32 → Option Int32) (x1 : Int32) : ∀ (k a acc : Nat), a + k = wK w → ∀ fu, k < fu → fX6_count_L54 n XM kk fu x1 (nI acc) (nI a) = kk x1 (nI (acc + smN (wtn w t sp) k a)) := by
  have hk := hv.1
  intro k
  induction k with
  | zero =>
    intro a acc ha fu hfu
    obtain ⟨fu, rfl⟩ : ∃ z, fu = z + 1 := ⟨fu - 1, by omega⟩
    unfold fX6_count_L54
    rw [hM.1, if_pos (nI_le (by omega) (by omega))]
    rfl
  | succ k ih =>
    intro a acc ha fu hfu
    obtain ⟨fu, rfl⟩ : ∃ z, fu = z + 1 := ⟨fu - 1, by omega⟩
    unfold fX6_count_L54
    rw [hM.1, if_neg (nI_ge (by omega) (by omega)), m_timeOf hM hv ht hT hp hV (show a < wK w by omega), bnd_s, sl_s, sl_s, nI_add, nI_1, ih (a + 1) _ (by omega) fu (by omega), smN_s, Nat.add_assoc]
