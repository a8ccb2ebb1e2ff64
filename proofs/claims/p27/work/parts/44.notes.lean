/-! notes kept on words -/
def NO (K : Nat) (sh : Nat → Prop) (nt : Nat → Nat) (m : Nat) (pos : Nat → Nat) (f d : Nat → Int32) : Prop := m ≤ 10 ∧ d 309 = nI m ∧ (∀ a, a < m → pos a < K ∧ sh (pos a) ∧ nt (pos a) ≠ 0 ∧ d (310 + a) = nI (pos a) ∧ d (320 + a) = nI (nt (pos a))) ∧ (∀ a b, a < m → b < m → pos a = pos b → a = b) ∧ (∀ i, i < 150 → f i = nI (nt i) ∧ nt i ≤ 99) ∧ (∀ i, i < 150 → nt i ≠ 0 → ∃ a, a < m ∧ pos a = i)
def RNo (w : WS) (S : DM) (d : Nat → Int32) : Prop := ∃ (nt : Nat → Nat) (m : Nat) (pos : Nat → Nat), NO (wK w) (fun i => ¬ wkd w i = 3) nt m pos (S 5) d
def cnN (f : Nat → Nat) : Nat → Nat
  | 0 => 0
  | k + 1 => cnN f k + (if f k = 0 then 0 else 1)
theorem cnN_congr {f g : Nat → Nat} {N : Nat} (h : ∀ i, i < N → (f i = 0 ↔ g i = 0)) : cnN f N = cnN g N := by
  induction N with
  | zero => rfl
  | succ N ih =>
    show cnN f N + _ = cnN g N + _
    rw [ih (fun i hi => h i (by omega))]
    by_cases c : f N = 0
    · rw [if_pos c, if_pos ((h N (by omega)).mp c)]
    · rw [if_neg c, if_neg (fun e => c ((h N (by omega)).mpr e))]
theorem cnN_del {f : Nat → Nat} {N x : Nat} (hx : x < N) (h : f x ≠ 0) : cnN f N = cnN (fun i => if i = x then 0 else f i) N + 1 := by
  induction N with
  | zero => omega
  | succ N ih =>
    show cnN f N + (if f N = 0 then 0 else 1) = cnN (fun i => if i = x then 0 else f i) N + (if (if N = x then 0 else f N) = 0 then 0 else 1) + 1
    by_cases c : x = N
    · subst c
      rw [if_neg h, if_pos rfl, if_pos rfl]
      rw [cnN_congr (f := fun i => if i = x then 0 else f i) (g := f) (fun i hi => by rw [if_neg (by omega)])]
    · have hc : ¬ N = x := fun e => c e.symm
      rw [ih (by omega)]
      simp only [if_neg hc]
      omega
theorem cn_enum : ∀ (m : Nat) (f pos : Nat → Nat) (N : Nat), (∀ a, a < m → pos a < N ∧ f (pos a) ≠ 0) → (∀ a b, a < m → b < m → pos a = pos b → a = b) → (∀ i, i < N → f i ≠ 0 → ∃ a, a < m ∧ pos a = i) → cnN f N = m := by
  intro m
  induction m with
  | zero =>
    intro f pos N h1 h2 h3
    have : ∀ N', N' ≤ N → cnN f N' = 0 := by
      intro N' hN
      induction N' with
      | zero => rfl
      | succ N' ih =>
        show cnN f N' + _ = 0
        rw [ih (by omega), if_pos]
        by_cases c : f N' = 0
        · exact c
        · obtain ⟨a, ha, _⟩ := h3 N' (by omega) c
          omega
    exact this N (Nat.le_refl _)
  | succ m ih =>
    intro f pos N h1 h2 h3
    obtain ⟨b1, b2⟩ := h1 m (by omega)
    rw [cnN_del b1 b2, ih _ pos N]
    · intro a ha
      obtain ⟨c1, c2⟩ := h1 a (by omega)
      refine ⟨c1, ?_⟩
      rw [if_neg (fun e => by have := h2 a m (by omega) (by omega) e; omega)]
      exact c2
    · intro a b ha hb
      exact h2 a b (by omega) (by omega)
    · intro i hi hne
      by_cases c : i = pos m
      · rw [if_pos c] at hne; exact absurd rfl hne
      · rw [if_neg c] at hne
        obtain ⟨a, a1, a2⟩ := h3 i hi hne
        refine ⟨a, ?_, a2⟩
        by_cases e : a = m
        · subst e; exact absurd a2.symm c
        · omega
theorem c_cn_L (n : Nat) {S : DM} {nt : Nat → Nat} (hf : ∀ i, i < 150 → S 5 i = nI (nt i) ∧ nt i ≤ 99) : ∀ (k i : Nat), i + k = 150 → ∀ fu, k < fu → fX3_countNotes_L4 n S fu (nI (cnN nt i)) (nI i) = some (nI (cnN nt 150)) := by
  intro k
  induction k with
  | zero =>
    intro i hi fu hfu
    obtain ⟨fu, rfl⟩ : ∃ z, fu = z + 1 := ⟨fu - 1, by omega⟩
    unfold fX3_countNotes_L4
    rw [if_pos ((le_l1 (k := 150) (a := i) (by omega) (by omega)).mpr (by omega)), show i = 150 by omega]
  | succ k ih =>
    intro i hi fu hfu
    obtain ⟨fu, rfl⟩ : ∃ z, fu = z + 1 := ⟨fu - 1, by omega⟩
    have ih := ih (i + 1) (by omega) fu (by omega)
    rw [show cnN nt (i + 1) = cnN nt i + (if nt i = 0 then 0 else 1) from rfl] at ih
    obtain ⟨h1, h2⟩ := hf i (by omega)
    unfold fX3_countNotes_L4
    rw [if_neg (fun e => absurd ((le_l1 (k := 150) (a := i) (by omega) (by omega)).mp e) (by omega)), rd_in _ (by omega) (by omega), bnd_s, h1]
    simp only [sl_s, nI_1]
    by_cases c : nt i = 0
    · rw [if_pos (by rw [c]; rfl)]
      rw [if_pos c] at ih
      exact ih
    · rw [if_neg (nI_ne0 (by omega) (by omega))]
      rw [if_neg c] at ih
      exact ih
theorem NO.count {K : Nat} {sh : Nat → Prop} {nt : Nat → Nat} {m : Nat} {pos : Nat → Nat} {f d : Nat → Int32} (hK : K ≤ 150) (h : NO K sh nt m pos f d) : cnN nt 150 = m := cn_enum m nt pos 150 (fun a ha => ⟨by have := (h.2.2.1 a ha).1; omega, (h.2.2.1 a ha).2.2.1⟩) h.2.2.2.1 h.2.2.2.2.2
theorem c_cn {K : Nat} {sh : Nat → Prop} {nt : Nat → Nat} {m : Nat} {pos : Nat → Nat} {S : DM} {d : Nat → Int32} (hK : K ≤ 150) (h : NO K sh nt m pos (S 5) d) {n : Nat} (hn : 200 ≤ n) : fX3_countNotes n S = some (nI m) := by
  have := c_cn_L n h.2.2.2.2.1 150 0 (by omega) n (by omega)
  rw [h.count hK] at this
  exact this
/-- the place of a word in the reference's list of notes -/
def ixo (pos : Nat → Nat) (m i : Nat) : Nat := fst (fun a => decide (pos a = i)) m 0
theorem ixo_spec (pos : Nat → Nat) (m i : Nat) : ixo pos m i ≤ m ∧ (ixo pos m i < m → pos (ixo pos m i) = i) ∧ ∀ a, a < ixo pos m i → ¬ pos a = i := by
  obtain ⟨h1, h2, h3, h4⟩ := fst_spec (fun a => decide (pos a = i)) m 0
  refine ⟨by unfold ixo; omega, fun h => ?_, fun a ha => ?_⟩
  · have := h3 (by unfold ixo at h; omega)
    simpa [ixo] using this
  · have := h4 a (Nat.zero_le _) ha
    simpa using this
theorem m_no_L {m : Nat} (hm : m ≤ 10) {pos : Nat → Nat} {XM : DM} (h0 : XM 0 309 = nI m) (hp : ∀ a, a < m → pos a < 150 ∧ XM 0 (310 + a) = nI (pos a)) (n : Nat) {i : Nat} (hi : i < 150) : ∀ (k a : Nat), a + k = m → ∀ fu, k < fu → fX6_noteOf_L2 n XM fu (nI i) (nI a) = some (oI m (fst (fun a => decide (pos a = i)) k a)) := by
  intro k
  induction k with
  | zero =>
    intro a ha fu hfu
    obtain ⟨fu, rfl⟩ : ∃ z, fu = z + 1 := ⟨fu - 1, by omega⟩
    unfold fX6_noteOf_L2 fst
    rw [rd_l (k := 309) _ (by omega) (by omega), bnd_s, h0, if_pos (nI_le (by omega) (by omega)), oI_ge (by omega)]
  | succ k ih =>
    intro a ha fu hfu
    obtain ⟨fu, rfl⟩ : ∃ z, fu = z + 1 := ⟨fu - 1, by omega⟩
    obtain ⟨p1, p2⟩ := hp a (by omega)
    unfold fX6_noteOf_L2 fst
    rw [rd_l (k := 309) _ (by omega) (by omega), bnd_s, h0, if_neg (nI_ge (by omega) (by omega)), lit_n 310, nI_add, rd_in _ (by omega) (by omega), bnd_s, p2]
    by_cases c : pos a = i
    · rw [if_pos (by rw [c]), if_pos (by simp [c]), oI_lt (by omega)]
    · rw [if_neg (fun e => c ((nI_eq (by omega) (by omega)).mp e)), if_neg (by simp [c]), sl_s, nI_1]
      exact ih (a + 1) (by omega) fu (by omega)
theorem m_no {K : Nat} {sh : Nat → Prop} {nt : Nat → Nat} {m : Nat} {pos : Nat → Nat} {f : Nat → Int32} {XM : DM} (hK : K ≤ 150) (h : NO K sh nt m pos f (XM 0)) {n : Nat} (hn : 200 ≤ n) {i : Nat} (hi : i < 150) : fX6_noteOf n XM (nI i) = some (oI m (ixo pos m i)) := by
  unfold fX6_noteOf
  exact m_no_L h.1 h.2.1 (fun a ha => ⟨by have := (h.2.2.1 a ha).1; omega, (h.2.2.1 a ha).2.2.2.1⟩) n hi m 0 (by omega) n (by have := h.1; omega)
theorem NO.ix {K : Nat} {sh : Nat → Prop} {nt : Nat → Nat} {m : Nat} {pos : Nat → Nat} {f d : Nat → Int32} (h : NO K sh nt m pos f d) {i : Nat} (hi : i < 150) : (ixo pos m i < m ↔ nt i ≠ 0) := by
  obtain ⟨a1, a2, a3⟩ := ixo_spec pos m i
  constructor
  · intro c
    have := (h.2.2.1 _ c).2.2.1
    rw [a2 c] at this
    exact this
  · intro c
    obtain ⟨a, b1, b2⟩ := h.2.2.2.2.2 i hi c
    by_cases z : ixo pos m i < m
    · exact z
    · exact absurd b2 (a3 a (by omega))
theorem noteJ {K : Nat} {sh : Nat → Prop} {nt : Nat → Nat} {m : Nat} {pos : Nat → Nat} {f d : Nat → Int32} (M : DM) (hK : K ≤ 150) (h : NO K sh nt m pos f d) {n : Nat} (hn : 200 ≤ n) {i v : Nat} (hi : i < K) (hs : sh i) (h1 : 1 ≤ v) (h2 : v ≤ 99) (hm : nt i ≠ 0 ∨ m < 10) : ∃ (d' : Nat → Int32) (nt' : Nat → Nat) (m' : Nat) (pos' : Nat → Nat), fX6_notes n (va_up M 0 d) (nI i) (nI v) = some (va_up M 0 d') ∧ NO K sh nt' m' pos' (upd f i (nI v)) d' ∧ (∀ k, (k < 309 ∨ 329 < k) → d' k = d k) := by
  have hx := h.ix (show i < 150 by omega)
  obtain ⟨a1, a2, a3⟩ := ixo_spec pos m i
  have hno := m_no (XM := va_up M 0 d) (f := f) hK (by rw [up_eq]; exact h) hn (show i < 150 by omega)
  obtain ⟨c1, c2, c3, c4, c5, c6⟩ := h
  unfold fX6_notes
  rw [hno]
  simp only [bnd_s, sl_s]
  have vals : ∀ j, j < 150 → (upd f i (nI v)) j = nI (if j = i then v else nt j) ∧ (if j = i then v else nt j) ≤ 99 := by
    intro j hj
    by_cases z : j = i
    · subst z; rw [u_eq, if_pos rfl]; exact ⟨rfl, h2⟩
    · rw [u_ne _ _ z, if_neg z]; exact c5 j hj
  by_cases c : ixo pos m i < m
  · rw [oI_lt c, if_neg (nI_ne_m1 (by omega)), up_eq, lit_n 310, nI_add, wr_in _ _ (by omega) (by omega), bnd_s, up_up, up_eq, lit_n 320, nI_add, wr_in _ _ (by omega) (by omega), bnd_s, up_up]
    refine ⟨_, fun j => if j = i then v else nt j, m, pos, rfl, ⟨c1, ?_, fun a ha => ?_, c4, vals, fun j hj hne => ?_⟩, fun k hk => ?_⟩
    · rw [u_ne _ _ (by omega), u_ne _ _ (by omega)]; exact c2
    · dsimp only
      obtain ⟨q1, q2, q3, q4, q5⟩ := c3 a ha
      by_cases z : a = ixo pos m i
      · subst z
        rw [a2 c]
        refine ⟨hi, hs, by rw [if_pos rfl]; omega, ?_, ?_⟩
        · rw [u_ne _ _ (by omega), u_eq]
        · rw [u_eq, if_pos rfl]
      · have ne : ¬ pos a = i := fun e => z (c4 a _ ha c (by rw [e, a2 c]))
        refine ⟨q1, q2, by rw [if_neg ne]; exact q3, ?_, ?_⟩
        · rw [u_ne _ _ (by omega), u_ne _ _ (by omega)]; exact q4
        · rw [u_ne _ _ (by omega), u_ne _ _ (by omega), if_neg ne]; exact q5
    · dsimp only at hne
      by_cases z : j = i
      · subst z; exact ⟨_, c, a2 c⟩
      · rw [if_neg z] at hne; exact c6 j hj hne
    · rw [u_ne _ _ (by omega), u_ne _ _ (by omega)]
  · have nt0 : nt i = 0 := by
      by_cases z : nt i = 0
      · exact z
      · exact absurd (hx.mpr z) c
    have hm : m < 10 := hm.resolve_left (fun q => q nt0)
    have hne : ∀ a, a < m → ¬ pos a = i := fun a ha => a3 a (by omega)
    rw [oI_ge c, if_pos rfl, up_eq, rd_l (k := 309) _ (by omega) (by omega), bnd_s, bnd_s, c2, nI_1, wr_l (k := 309) _ _ (by omega) (by omega), bnd_s, up_up, up_eq, lit_n 310, nI_add, wr_in _ _ (by omega) (by omega), bnd_s, up_up, up_eq, lit_n 320, nI_add, wr_in _ _ (by omega) (by omega), bnd_s, up_up]
    refine ⟨_, fun j => if j = i then v else nt j, m + 1, fun a => if a = m then i else pos a, rfl, ⟨by omega, ?_, fun a ha => ?_, fun a b ha hb hab => ?_, vals, fun j hj hne' => ?_⟩, fun k hk => ?_⟩
    · rw [u_ne _ _ (by omega), u_ne _ _ (by omega), u_eq]
    · dsimp only
      by_cases z : a = m
      · subst z
        rw [if_pos rfl, if_pos rfl]
        refine ⟨hi, hs, by omega, ?_, ?_⟩
        · rw [u_ne _ _ (by omega), u_eq]
        · rw [u_eq]
      · obtain ⟨q1, q2, q3, q4, q5⟩ := c3 a (by omega)
        rw [if_neg z, if_neg (hne a (by omega))]
        refine ⟨q1, q2, q3, ?_, ?_⟩
        · rw [u_ne _ _ (by omega), u_ne _ _ (by omega), u_ne _ _ (by omega)]; exact q4
        · rw [u_ne _ _ (by omega), u_ne _ _ (by omega), u_ne _ _ (by omega)]; exact q5
    · dsimp only at hab
      by_cases z : a = m
      · rw [if_pos z] at hab
        by_cases y : b = m
        · omega
        · rw [if_neg y] at hab; exact absurd hab.symm (hne b (by omega))
      · rw [if_neg z] at hab
        by_cases y : b = m
        · rw [if_pos y] at hab; exact absurd hab (hne a (by omega))
        · rw [if_neg y] at hab; exact c4 a b (by omega) (by omega) hab
    · dsimp only at hne'
      by_cases z : j = i
      · exact ⟨m, by omega, by dsimp only; rw [if_pos rfl, z]⟩
      · rw [if_neg z] at hne'
        obtain ⟨a, b1, b2⟩ := c6 j hj hne'
        exact ⟨a, by omega, by dsimp only; rw [if_neg (by omega)]; exact b2⟩
    · rw [u_ne _ _ (by omega), u_ne _ _ (by omega), u_ne _ _ (by omega)]
/-- the reference takes a note away -/
def unM (n : Nat) (r7 : Int32) (X13 : DM) : Option (Int32 × DM) := bnd (rdA 348 (X13 0) (320 + r7)) fun v15 => bnd (rdA 348 (X13 0) 309) fun v18 => bnd (wrA 348 (X13 0) 309 (v18 - 1)) fun f21 => sl (va_up X13 0 f21) fun X24 => bnd (rdA 348 (X24 0) 309) fun v26 => bnd (rdA 348 (X24 0) (310 + v26)) fun v29 => bnd (wrA 348 (X24 0) (310 + r7) v29) fun f32 => sl (va_up X24 0 f32) fun X35 => bnd (rdA 348 (X35 0) 309) fun v37 => bnd (rdA 348 (X35 0) (320 + v37)) fun v40 => bnd (wrA 348 (X35 0) (320 + r7) v40) fun f43 => sl (va_up X35 0 f43) fun X46 => some (v15, X46)
theorem unJ {K : Nat} {sh : Nat → Prop} {nt : Nat → Nat} {m : Nat} {pos : Nat → Nat} {f d : Nat → Int32} (M : DM) (hK : K ≤ 150) (h : NO K sh nt m pos f d) (n : Nat) {i : Nat} (hi : i < K) (hne : nt i ≠ 0) : ∃ (d' : Nat → Int32) (nt' : Nat → Nat) (m' : Nat) (pos' : Nat → Nat), unM n (oI m (ixo pos m i)) (va_up M 0 d) = some (nI (nt i), va_up M 0 d') ∧ NO K sh nt' m' pos' (upd f i 0) d' ∧ (∀ k, (k < 309 ∨ 329 < k) → d' k = d k) := by
  have c := (h.ix (show i < 150 by omega)).mpr hne
  obtain ⟨a1, a2', a3⟩ := ixo_spec pos m i
  have a2 := a2' c
  clear a2'
  obtain ⟨c1, c2, c3, c4, c5, c6⟩ := h
  rw [oI_lt c]
  generalize ixo pos m i = x at c a1 a2 a3
  obtain ⟨m, rfl⟩ : ∃ z, m = z + 1 := ⟨m - 1, by omega⟩
  obtain ⟨q1, q2, q3, q4, q5⟩ := c3 x c
  obtain ⟨r1, r2, r3, r4, r5⟩ := c3 m (by omega)
  unfold unM
  simp only [sl_s]
  rw [up_eq, lit_n 320, nI_add, rd_in _ (by omega) (by omega), bnd_s, q5, a2, rd_l (k := 309) _ (by omega) (by omega), bnd_s, c2, nI_pred, wr_l (k := 309) _ _ (by omega) (by omega), bnd_s]
  try simp only [up_up, up_eq]
  rw [rd_l (k := 309) _ (by omega) (by omega), bnd_s, u_eq, lit_n 310, nI_add, nI_add, rd_in _ (by omega) (by omega), bnd_s, u_ne _ _ (by omega), r4, wr_in _ _ (by omega) (by omega), bnd_s]
  try simp only [up_up, up_eq]
  rw [rd_l (k := 309) _ (by omega) (by omega), bnd_s, u_ne _ _ (by omega), u_eq, nI_add, rd_in _ (by omega) (by omega), bnd_s, u_ne _ _ (by omega), u_ne _ _ (by omega), r5, wr_in _ _ (by omega) (by omega), bnd_s]
  try simp only [up_up, up_eq]
  refine ⟨_, fun j => if j = i then 0 else nt j, m, fun a => if a = x then pos m else pos a, rfl, ⟨by omega, ?_, fun a ha => ?_, fun a b ha hb hab => ?_, fun j hj => ?_, fun j hj hj' => ?_⟩, fun k hk => ?_⟩
  · rw [u_ne _ _ (by omega), u_ne _ _ (by omega), u_eq]
  · dsimp only
    by_cases z : a = x
    · subst z
      have ne : ¬ pos m = i := fun e => by have := c4 m a (by omega) c (by rw [e, a2]); omega
      rw [if_pos rfl, if_neg ne]
      refine ⟨r1, r2, r3, ?_, ?_⟩
      · rw [u_ne _ _ (by omega), u_eq]
      · rw [u_eq]
    · obtain ⟨s1, s2, s3, s4, s5⟩ := c3 a (by omega)
      have ne : ¬ pos a = i := fun e => z (c4 a x (by omega) c (by rw [e, a2]))
      rw [if_neg z, if_neg ne]
      refine ⟨s1, s2, s3, ?_, ?_⟩
      · rw [u_ne _ _ (by omega), u_ne _ _ (by omega), u_ne _ _ (by omega)]; exact s4
      · rw [u_ne _ _ (by omega), u_ne _ _ (by omega), u_ne _ _ (by omega)]; exact s5
  · dsimp only at hab
    by_cases z : a = x
    · rw [if_pos z] at hab
      by_cases y : b = x
      · omega
      · rw [if_neg y] at hab
        have := c4 m b (by omega) (by omega) hab
        omega
    · rw [if_neg z] at hab
      by_cases y : b = x
      · rw [if_pos y] at hab
        have := c4 a m (by omega) (by omega) hab
        omega
      · rw [if_neg y] at hab
        exact c4 a b (by omega) (by omega) hab
  · dsimp only
    by_cases z : j = i
    · subst z; rw [u_eq, if_pos rfl]; exact ⟨rfl, by omega⟩
    · rw [u_ne _ _ z, if_neg z]; exact c5 j hj
  · dsimp only at hj'
    by_cases z : j = i
    · rw [if_pos z] at hj'; exact absurd rfl hj'
    · rw [if_neg z] at hj'
      obtain ⟨a, b1, b2⟩ := c6 j hj hj'
      by_cases y : a = m
      · subst y
        have : x ≠ a := fun e => z (by rw [← b2, ← e, a2])
        exact ⟨x, by omega, by dsimp only; rw [if_pos rfl]; exact b2⟩
      · refine ⟨a, by omega, ?_⟩
        dsimp only
        rw [if_neg (fun e => z (by rw [← b2, e, a2]))]
        exact b2
  · rw [u_ne _ _ (by omega), u_ne _ _ (by omega), u_ne _ _ (by omega)]
