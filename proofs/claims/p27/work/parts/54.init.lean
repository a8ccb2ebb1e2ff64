/-! the beginning -/
def d0 : Nat → Int32 := upd (upd (upd (upd (upd (upd (upd (upd (upd (upd (upd (X0D 0) 301 (-1)) 333 6) 334 3) 335 150) 336 220) 337 130) 338 10) 339 2) 330 100) 331 100) 332 100
theorem m_init {n : Nat} (hn : 1400 ≤ n) : fX6_initT n = some (va_up X0D 0 d0) := by
  obtain ⟨n, rfl⟩ : ∃ z, n = z + 4 := ⟨n - 4, by omega⟩
  unfold fX6_initT
  rw [wr_l (k := 301) _ _ (by omega) (by omega), bnd_s, sl_s, up_eq, wr_l (k := 333) _ _ (by omega) (by omega), bnd_s, sl_s, up_up, up_eq, wr_l (k := 334) _ _ (by omega) (by omega), bnd_s, sl_s, up_up, up_eq, wr_l (k := 335) _ _ (by omega) (by omega), bnd_s, sl_s, up_up, up_eq, wr_l (k := 336) _ _ (by omega) (by omega), bnd_s, sl_s, up_up, up_eq, wr_l (k := 337) _ _ (by omega) (by omega), bnd_s, sl_s, up_up, up_eq, wr_l (k := 338) _ _ (by omega) (by omega), bnd_s, sl_s, up_up, up_eq, wr_l (k := 339) _ _ (by omega) (by omega), bnd_s, sl_s, up_up]
  unfold fX6_init_L184
  rw [if_neg (by decide), up_eq, show (330 : Int32) + 0 = 330 from rfl, wr_l (k := 330) _ _ (by omega) (by omega), bnd_s, sl_s, sl_s, up_up, show (0 : Int32) + 1 = 1 from rfl]
  unfold fX6_init_L184
  rw [if_neg (by decide), up_eq, show (330 : Int32) + 1 = 331 from rfl, wr_l (k := 331) _ _ (by omega) (by omega), bnd_s, sl_s, sl_s, up_up, show (1 : Int32) + 1 = 2 from rfl]
  unfold fX6_init_L184
  rw [if_neg (by decide), up_eq, show (330 : Int32) + 2 = 332 from rfl, wr_l (k := 332) _ _ (by omega) (by omega), bnd_s, sl_s, sl_s, up_up, show (2 : Int32) + 1 = 3 from rfl]
  unfold fX6_init_L184
  rw [if_pos (by decide)]
  rfl
def t0 (j : Nat) : Nat := if j = 0 then 6 else if j = 1 then 3 else if j = 2 then 150 else if j = 3 then 220 else if j = 4 then 130 else if j = 5 then 10 else 2
theorem rn0 : RN (fun _ => 0) 0 XS0 d0 := by
  have hw : wK (wsOf (fun _ => 0) 0) = 0 := rfl
  refine ⟨by decide, rfl, ?_, fun i hi => absurd hi (Nat.not_lt_zero _), ⟨t0, fun _ => 100, 0, 0, by unfold VT; decide, fun z hz => ?_, fun z hz => ?_, ⟨fun z _ => ⟨by show 50 ≤ 100; omega, by show 100 ≤ 400; omega⟩, fun z hz => ?_, fun z hz => ?_, Nat.zero_le _, fun h => absurd h (Nat.not_lt_zero _), ?_, ?_, rfl, ?_, by decide, fun h => absurd h (Nat.not_lt_zero _), ⟨0, fun _ => 0, by decide, ?_, fun i hi => absurd hi (Nat.not_lt_zero _), fun i hi => ?_, fun i hi => absurd hi (Nat.not_lt_zero _)⟩, Or.inl rfl, Or.inl ?_, fun h => absurd h (Nat.not_lt_zero _), ?_⟩⟩, ⟨0, fun _ => 0, by decide, rfl, ?_, fun i hi => absurd hi (Nat.not_lt_zero _)⟩, ⟨fun _ => 0, 0, fun _ => 0, by decide, ?_, fun i hi => absurd hi (Nat.not_lt_zero _), fun i _ hi => absurd hi (Nat.not_lt_zero _), fun i hi => ⟨rfl, Nat.zero_le _⟩, fun i hi h => absurd rfl h⟩, ?_, ?_⟩
  · rfl
  · rcases (show z = 0 ∨ z = 1 ∨ z = 2 ∨ z = 3 ∨ z = 4 ∨ z = 5 ∨ z = 6 by omega) with rfl | rfl | rfl | rfl | rfl | rfl | rfl <;> rfl
  · rcases (show z = 0 ∨ z = 1 ∨ z = 2 ∨ z = 3 ∨ z = 4 ∨ z = 5 ∨ z = 6 by omega) with rfl | rfl | rfl | rfl | rfl | rfl | rfl <;> rfl
  · rcases (show z = 0 ∨ z = 1 ∨ z = 2 by omega) with rfl | rfl | rfl <;> rfl
  · rcases (show z = 0 ∨ z = 1 ∨ z = 2 by omega) with rfl | rfl | rfl <;> rfl
  · rfl
  · rfl
  · rfl
  · rfl
  · rcases (show i = 0 ∨ i = 1 ∨ i = 2 by omega) with rfl | rfl | rfl <;> rfl
  · rfl
  · rfl
  · rfl
  · rfl
  · rfl
  · rfl
theorem ok_init {n : Nat} (hn : 1400 ≤ n) : ∃ XM : DM, fX6_initT n = some XM ∧ INV X0D XS0 XS0 X0D X0D X0D X0D XH0 XM := by
  have z0 : ∀ (no : Nat → Nat), PSp 0 no X0D := fun no => ⟨rfl, fun i hi => absurd hi (Nat.not_lt_zero _), fun i hi => absurd hi (Nat.not_lt_zero _), fun i hi => absurd hi (Nat.not_lt_zero _)⟩
  have e : ∀ r, r ≠ 0 → va_up X0D 0 d0 r = X0D r := fun r hr => up_ne _ _ hr
  refine ⟨_, m_init hn, ⟨fun _ => 0, 0, by rw [up_eq]; exact rn0, ⟨rfl, fun i hi => absurd hi (Nat.not_lt_zero _), z0 _, z0 _⟩, ⟨?_, ?_, ?_, fun i hi => absurd hi (Nat.not_lt_zero _)⟩⟩, ⟨0, fun _ => 0, by decide, rfl, ?_, fun i hi => absurd hi (Nat.not_lt_zero _)⟩, ⟨0, by decide, rfl, ?_, fun i hi => hi, fun i j _ _ h => h, fun i hi => absurd hi (Nat.not_lt_zero _)⟩⟩
  · rw [e 9 (by decide)]; rfl
  · rw [e 10 (by decide)]; rfl
  · rw [e 11 (by decide)]; rfl
  · rw [e 5 (by decide)]; rfl
  · rw [e 2 (by decide)]; rfl
