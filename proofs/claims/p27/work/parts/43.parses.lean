/-! the reference reads the words, whole -/
theorem m_rw_L {T : Nat → Int32} {L : Nat} (hL : L ≤ 300) (n : Nat) (kk : Int32 → DM → Option DM) {s m K : Nat} (hK : K < 151) (he : s + m ≤ L) : ∀ (j k : Nat), k + j = m → ∀ fu, j < fu → ∀ XM : DM, (∀ i, i < L → XM 0 (1 + i) = T i) → XM 14 K = nI (ltn T s k) → XM 16 K = nI (fgn T s k) → ∃ X' : DM, fX6_readsWord_L48 n kk fu (nI s) (nI m) (nI K) (nI (s + k)) XM = kk (nI K) X' ∧ X' 14 K = nI (ltn T s m) ∧ X' 16 K = nI (fgn T s m) ∧ (∀ i, i ≠ K → X' 14 i = XM 14 i ∧ X' 16 i = XM 16 i) ∧ ∀ r, r ≠ 14 → r ≠ 16 → X' r = XM r := by
  intro j
  induction j with
  | zero =>
    intro k hk fu hfu XM hd h14 h16
    obtain ⟨fu, rfl⟩ : ∃ z, fu = z + 1 := ⟨fu - 1, by omega⟩
    unfold fX6_readsWord_L48
    rw [show k = m by omega] at h14 h16 ⊢
    rw [nI_add, if_pos (nI_le (by omega) (by omega))]
    exact ⟨XM, rfl, h14, h16, fun _ _ => ⟨rfl, rfl⟩, fun _ _ _ => rfl⟩
  | succ j ih =>
    intro k hk fu hfu XM hd h14 h16
    obtain ⟨fu, rfl⟩ : ∃ z, fu = z + 1 := ⟨fu - 1, by omega⟩
    have hfg := fgn_le T s k
    have hlt := ltn_le T s k
    unfold fX6_readsWord_L48
    rw [nI_add, if_neg (nI_ge (by omega) (by omega)), rd_in _ (by omega) (by omega)]
    simp only [bnd_s, sl_s, h14, one_add]
    rw [rd_in _ (by omega) (by omega)]
    simp only [bnd_s, hd _ (show s + k < L by omega), isL_m, nI_1]
    -- figures
    have fg : ∀ Y : DM, (∀ i, i < L → Y 0 (1 + i) = T i) → Y 14 K = nI (ltn T s (k + 1)) → Y 16 K = nI (fgn T s k) → (∀ i, i ≠ K → Y 14 i = XM 14 i ∧ Y 16 i = XM 16 i) → (∀ r, r ≠ 14 → r ≠ 16 → Y r = XM r) → ∃ X' : DM, (bnd (rdA 151 (Y 16) (nI K)) fun v76 => if v76 = 0 then bnd (rdA 348 (Y 0) (nI (1 + (s + k)))) fun v87 => bnd (fX6_isFigure v87) fun r90 => if r90 = 0 then bnd (wrA 151 (Y 16) (nI K) (vp_nar .boolean 0)) fun f79 => fX6_readsWord_L48 n kk fu (nI s) (nI m) (nI K) (nI (s + k + 1)) (va_up Y 16 f79) else bnd (wrA 151 (Y 16) (nI K) (vp_nar .boolean 1)) fun f79 => fX6_readsWord_L48 n kk fu (nI s) (nI m) (nI K) (nI (s + k + 1)) (va_up Y 16 f79) else bnd (wrA 151 (Y 16) (nI K) (vp_nar .boolean 1)) fun f79 => fX6_readsWord_L48 n kk fu (nI s) (nI m) (nI K) (nI (s + k + 1)) (va_up Y 16 f79)) = kk (nI K) X' ∧ X' 14 K = nI (ltn T s m) ∧ X' 16 K = nI (fgn T s m) ∧ (∀ i, i ≠ K → X' 14 i = XM 14 i ∧ X' 16 i = XM 16 i) ∧ ∀ r, r ≠ 14 → r ≠ 16 → X' r = XM r := by
      intro Y y0 y14 y16 yi yr
      have go : ∀ v : Int32, v = nI (fgn T s (k + 1)) → ∃ X' : DM, (bnd (wrA 151 (Y 16) (nI K) v) fun f79 => fX6_readsWord_L48 n kk fu (nI s) (nI m) (nI K) (nI (s + k + 1)) (va_up Y 16 f79)) = kk (nI K) X' ∧ X' 14 K = nI (ltn T s m) ∧ X' 16 K = nI (fgn T s m) ∧ (∀ i, i ≠ K → X' 14 i = XM 14 i ∧ X' 16 i = XM 16 i) ∧ ∀ r, r ≠ 14 → r ≠ 16 → X' r = XM r := by
        intro v hv
        rw [wr_in _ _ (by omega) (by omega), bnd_s]
        obtain ⟨X', e1, e2, e3, e4, e5⟩ := ih (k + 1) (by omega) fu (by omega) (va_up Y 16 (upd (Y 16) K v)) (fun i hi => by rw [up_ne _ _ (by decide)]; exact y0 i hi) (by rw [up_ne _ _ (by decide)]; exact y14) (by rw [up_eq, u_eq, hv])
        refine ⟨X', e1, e2, e3, fun i hi => ?_, fun r r1 r2 => by rw [e5 r r1 r2, up_ne _ _ r2, yr r r1 r2]⟩
        obtain ⟨a, b⟩ := e4 i hi
        obtain ⟨c, e⟩ := yi i hi
        exact ⟨by rw [a, up_ne _ _ (by decide), c], by rw [b, up_eq, u_ne _ _ hi, e]⟩
      rw [rd_in _ (by omega) (by omega), bnd_s, y16]
      by_cases z : fgn T s k = 0
      · rw [if_pos (by rw [z]; rfl), rd_in _ (by omega) (by omega), bnd_s, y0 _ (by omega), isF_m, bnd_s]
        by_cases y : isF (T (s + k)) = true
        · rw [if_pos y, if_neg (by decide)]
          exact go _ (by rw [fgn_s, if_pos y]; rfl)
        · rw [if_neg y, if_pos rfl]
          exact go _ (by rw [fgn_s, if_neg y, z]; rfl)
      · rw [if_neg (nI_ne0 (by omega) (by omega))]
        exact go _ (by rw [fgn_s]; have : fgn T s k = 1 := by omega
                       rw [this, ite_self]; rfl)
    have st : ∀ x : Int32, x = nI (ltn T s (k + 1)) → ∃ X' : DM, (bnd (wrA 151 (XM 14) (nI K) x) fun f71 => bnd (rdA 151 ((va_up XM 14 f71) 16) (nI K)) fun v76 => if v76 = 0 then bnd (rdA 348 ((va_up XM 14 f71) 0) (nI (1 + (s + k)))) fun v87 => bnd (fX6_isFigure v87) fun r90 => if r90 = 0 then bnd (wrA 151 ((va_up XM 14 f71) 16) (nI K) (vp_nar .boolean 0)) fun f79 => fX6_readsWord_L48 n kk fu (nI s) (nI m) (nI K) (nI (s + k + 1)) (va_up (va_up XM 14 f71) 16 f79) else bnd (wrA 151 ((va_up XM 14 f71) 16) (nI K) (vp_nar .boolean 1)) fun f79 => fX6_readsWord_L48 n kk fu (nI s) (nI m) (nI K) (nI (s + k + 1)) (va_up (va_up XM 14 f71) 16 f79) else bnd (wrA 151 ((va_up XM 14 f71) 16) (nI K) (vp_nar .boolean 1)) fun f79 => fX6_readsWord_L48 n kk fu (nI s) (nI m) (nI K) (nI (s + k + 1)) (va_up (va_up XM 14 f71) 16 f79)) = kk (nI K) X' ∧ X' 14 K = nI (ltn T s m) ∧ X' 16 K = nI (fgn T s m) ∧ (∀ i, i ≠ K → X' 14 i = XM 14 i ∧ X' 16 i = XM 16 i) ∧ ∀ r, r ≠ 14 → r ≠ 16 → X' r = XM r := by
      intro x hx
      rw [wr_in _ _ (by omega) (by omega), bnd_s]
      exact fg _ (fun i hi => by rw [up_ne _ _ (by decide)]; exact hd i hi) (by rw [up_eq, u_eq, hx]) (by rw [up_ne _ _ (by decide)]; exact h16) (fun i hi => ⟨by rw [up_eq, u_ne _ _ hi], by rw [up_ne _ _ (by decide)]⟩) (fun r r1 _ => up_ne _ _ r1)
    by_cases c1 : isL (T (s + k)) = true
    · rw [if_pos c1, if_neg (by decide)]
      exact st _ (by rw [ltn_s, if_pos c1])
    · rw [if_neg c1, if_pos rfl]
      exact st _ (by rw [ltn_s, if_neg c1]; exact Int32.add_zero _)
def HM (T : Nat → Int32) (l : List (Nat × Nat)) (XM : DM) : Prop := XM 9 0 = nI l.length ∧ ∀ i, i < l.length → XM 12 i = nI (lg l i).1 ∧ XM 13 i = nI (lg l i).2 ∧ XM 14 i = nI (ltn T (lg l i).1 (lg l i).2) ∧ XM 15 i = nI (kdN T (lg l i).1 (lg l i).2) ∧ XM 16 i = nI (fgn T (lg l i).1 (lg l i).2) ∧ XM 17 i = nI (wsn (wsL T l) i) ∧ XM 18 i = nI (wpg (wsL T l) i)
theorem acN_congr {p q : Nat → Nat} {i : Nat} (h : ∀ j, j < i → p j = q j) : acN p i = acN q i := by
  induction i with
  | zero => rfl
  | succ i ih =>
    show acN p i + p i = acN q i + q i
    rw [ih (fun j hj => h j (by omega)), h i (by omega)]
theorem sn_l (T : Nat → Int32) {l : List (Nat × Nat)} (x : Nat × Nat) {i : Nat} (h : i ≤ l.length) : wsn (wsL T (l ++ [x])) i = wsn (wsL T l) i := by
  show acN _ i = acN _ i
  exact acN_congr (fun j hj => by rw [lg_l x (show j < l.length by omega)])
theorem pg_l (T : Nat → Int32) {l : List (Nat × Nat)} (x : Nat × Nat) {i : Nat} (h : i ≤ l.length) : wpg (wsL T (l ++ [x])) i = wpg (wsL T l) i := by
  show acN _ i = acN _ i
  exact acN_congr (fun j hj => by rw [lg_l x (show j < l.length by omega)])
theorem m_rw {T : Nat → Int32} {L : Nat} (hL : L ≤ 300) {n : Nat} (hn : 400 ≤ n) {XM : DM} (hd : ∀ i, i < L → XM 0 (1 + i) = T i) {l : List (Nat × Nat)} (h : HM T l XM) (hl : l.length < 150) {s m : Nat} (hm : 1 ≤ m) (he : s + m ≤ L) : ∃ X' : DM, fX6_readsWord n XM (nI s) (nI m) = some X' ∧ HM T (l ++ [(s, m)]) X' ∧ ∀ r, r < 9 → X' r = XM r := by
  obtain ⟨h9, hr⟩ := h
  unfold fX6_readsWord
  rw [h9, wr_in _ _ (by omega) (by omega)]
  simp only [bnd_s, sl_s]
  rw [wr_in _ _ (by omega) (by omega)]
  simp only [bnd_s, sl_s]
  rw [m_kind (T := T) hL (by intro i hi; rw [up_ne _ _ (by decide), up_ne _ _ (by decide)]; exact hd i hi) hn hm he]
  simp only [bnd_s, sl_s]
  rw [wr_in _ _ (by omega) (by omega)]
  simp only [bnd_s, sl_s]
  rw [wr_in _ _ (by omega) (by omega)]
  simp only [bnd_s, sl_s]
  rw [wr_in _ _ (by omega) (by omega)]
  simp only [bnd_s, sl_s]
  generalize hX : va_up (va_up (va_up (va_up (va_up XM 12 _) 13 _) 15 _) 14 _) 16 _ = X
  have x9 : X 9 0 = nI l.length := by rw [← hX, up_ne _ _ (by decide), up_ne _ _ (by decide), up_ne _ _ (by decide), up_ne _ _ (by decide), up_ne _ _ (by decide), h9]
  have x12 : X 12 l.length = nI s := by rw [← hX, up_ne _ _ (by decide), up_ne _ _ (by decide), up_ne _ _ (by decide), up_ne _ _ (by decide), up_eq, u_eq]
  have x13 : X 13 l.length = nI m := by rw [← hX, up_ne _ _ (by decide), up_ne _ _ (by decide), up_ne _ _ (by decide), up_eq, u_eq]
  have x15 : X 15 l.length = nI (kdN T s m) := by rw [← hX, up_ne _ _ (by decide), up_ne _ _ (by decide), up_eq, u_eq]
  have x14 : X 14 l.length = nI (ltn T s 0) := by rw [← hX, up_ne _ _ (by decide), up_eq, u_eq]; rfl
  have x16 : X 16 l.length = nI (fgn T s 0) := by
    rw [← hX, up_eq, u_eq, show fgn T s 0 = 0 from rfl]
    first
      | rfl
      | decide
  have xi : ∀ r, (r < 9 ∨ 11 < r) → ∀ i, i ≠ l.length → X r i = XM r i := by
    intro r hr i hi
    rw [← hX]
    by_cases c : r = 16
    · rw [c, up_eq, u_ne _ _ hi, up_ne _ _ (by decide), up_ne _ _ (by decide), up_ne _ _ (by decide), up_ne _ _ (by decide)]
    · rw [up_ne _ _ c]
      by_cases c : r = 14
      · rw [c, up_eq, u_ne _ _ hi, up_ne _ _ (by decide), up_ne _ _ (by decide), up_ne _ _ (by decide)]
      · rw [up_ne _ _ c]
        by_cases c : r = 15
        · rw [c, up_eq, u_ne _ _ hi, up_ne _ _ (by decide), up_ne _ _ (by decide)]
        · rw [up_ne _ _ c]
          by_cases c : r = 13
          · rw [c, up_eq, u_ne _ _ hi, up_ne _ _ (by decide)]
          · rw [up_ne _ _ c]
            by_cases c : r = 12
            · rw [c, up_eq, u_ne _ _ hi]
            · rw [up_ne _ _ c]
  have xr : ∀ r, r < 9 → X r = XM r := fun r hr => by rw [← hX, up_ne _ _ (by omega), up_ne _ _ (by omega), up_ne _ _ (by omega), up_ne _ _ (by omega), up_ne _ _ (by omega)]
  clear hX
  have fin : ∀ (Y : DM) (a b : Int32), a = nI (wsn (wsL T l) l.length) → b = nI (wpg (wsL T l) l.length) → Y 14 l.length = nI (ltn T s m) → Y 16 l.length = nI (fgn T s m) → (∀ i, i ≠ l.length → Y 14 i = X 14 i ∧ Y 16 i = X 16 i) → (∀ r, r ≠ 14 → r ≠ 16 → Y r = X r) → HM T (l ++ [(s, m)]) (va_up (va_up (va_up Y 17 (upd (Y 17) l.length a)) 18 (upd (Y 18) l.length b)) 9 (fun _ => nI (l.length + 1))) ∧ ∀ r, r < 9 → (va_up (va_up (va_up Y 17 (upd (Y 17) l.length a)) 18 (upd (Y 18) l.length b)) 9 (fun _ => nI (l.length + 1))) r = XM r := by
    intro Y a b ha hb y14 y16 yi yr
    refine ⟨⟨by rw [up_eq, List.length_append]; rfl, fun i hi => ?_⟩, fun r hr => by rw [up_ne _ _ (by omega), up_ne _ _ (by omega), up_ne _ _ (by omega), yr r (by omega) (by omega), xr r hr]⟩
    simp only [List.length_append, List.length_cons, List.length_nil] at hi
    rw [sn_l T _ (by omega), pg_l T _ (by omega)]
    simp only [up_ne (k := 9) (j := 12) _ _ (show (12 : Nat) ≠ 9 by decide), up_ne (k := 9) (j := 13) _ _ (show (13 : Nat) ≠ 9 by decide), up_ne (k := 9) (j := 14) _ _ (show (14 : Nat) ≠ 9 by decide), up_ne (k := 9) (j := 15) _ _ (show (15 : Nat) ≠ 9 by decide), up_ne (k := 9) (j := 16) _ _ (show (16 : Nat) ≠ 9 by decide), up_ne (k := 9) (j := 17) _ _ (show (17 : Nat) ≠ 9 by decide), up_ne (k := 9) (j := 18) _ _ (show (18 : Nat) ≠ 9 by decide), up_ne (k := 18) (j := 12) _ _ (show (12 : Nat) ≠ 18 by decide), up_ne (k := 18) (j := 13) _ _ (show (13 : Nat) ≠ 18 by decide), up_ne (k := 18) (j := 14) _ _ (show (14 : Nat) ≠ 18 by decide), up_ne (k := 18) (j := 15) _ _ (show (15 : Nat) ≠ 18 by decide), up_ne (k := 18) (j := 16) _ _ (show (16 : Nat) ≠ 18 by decide), up_ne (k := 18) (j := 17) _ _ (show (17 : Nat) ≠ 18 by decide), up_eq, up_ne (k := 17) (j := 12) _ _ (show (12 : Nat) ≠ 17 by decide), up_ne (k := 17) (j := 13) _ _ (show (13 : Nat) ≠ 17 by decide), up_ne (k := 17) (j := 14) _ _ (show (14 : Nat) ≠ 17 by decide), up_ne (k := 17) (j := 15) _ _ (show (15 : Nat) ≠ 17 by decide), up_ne (k := 17) (j := 16) _ _ (show (16 : Nat) ≠ 17 by decide), yr 12 (by decide) (by decide), yr 13 (by decide) (by decide), yr 15 (by decide) (by decide), yr 17 (by decide) (by decide), yr 18 (by decide) (by decide)]
    by_cases z : i = l.length
    · subst z
      rw [lg_r, u_eq, u_eq]
      exact ⟨x12, x13, y14, x15, y16, ha, hb⟩
    · obtain ⟨e1, e2, e3, e4, e5, e6, e7⟩ := hr i (by omega)
      obtain ⟨f1, f2⟩ := yi i z
      rw [lg_l _ (by omega), u_ne _ _ z, u_ne _ _ z, f1, f2, xi 12 (by omega) i z, xi 13 (by omega) i z, xi 14 (by omega) i z, xi 15 (by omega) i z, xi 16 (by omega) i z, xi 17 (by omega) i z, xi 18 (by omega) i z]
      exact ⟨e1, e2, e3, e4, e5, e6, e7⟩
  obtain ⟨Y, a1, a2, a3, a4, a5⟩ := m_rw_L (T := T) hL n _ (show l.length < 151 by omega) he m 0 (by omega) n (by omega) X (by intro i hi; rw [xr 0 (by decide)]; exact hd i hi) x14 x16
  rw [show fX6_readsWord_L48 n _ n (nI s) (nI m) (nI l.length) (nI s) X = _ from a1]
  have y9 : Y 9 0 = nI l.length := by rw [a5 9 (by decide) (by decide)]; exact x9
  by_cases k0 : l.length = 0
  · rw [if_pos (by rw [k0]; rfl), wr_in _ _ (by omega) (by omega), bnd_s, if_pos (by rw [k0]; rfl)]
    rw [up_ne (k := 17) (j := 18) _ _ (by decide), wr_in _ _ (by omega) (by omega), bnd_s, up_ne (k := 18) (j := 9) _ _ (by decide), up_ne (k := 17) (j := 9) _ _ (by decide), y9, nI_1]
    obtain ⟨f1, f2⟩ := fin Y 0 0 (by rw [k0]; rfl) (by rw [k0]; rfl) a2 a3 a4 a5
    exact ⟨_, rfl, f1, f2⟩
  · obtain ⟨K, hK⟩ : ∃ z, l.length = z + 1 := ⟨l.length - 1, by omega⟩
    obtain ⟨e1, e2, e3, e4, e5, e6, e7⟩ := hr K (by omega)
    have hkd := kdN_le T (lg l K).1 (lg l K).2
    have hsn : wsn (wsL T l) l.length = wsn (wsL T l) K + (if 1 < kdN T (lg l K).1 (lg l K).2 then 1 else 0) := by rw [hK]; rfl
    have hpg : wpg (wsL T l) l.length = wpg (wsL T l) K + (if kdN T (lg l K).1 (lg l K).2 = 3 then 1 else 0) := by rw [hK]; rfl
    have eK : nI l.length - 1 = nI K := by rw [hK]; exact nI_pred K
    have y17 : Y 17 K = nI (wsn (wsL T l) K) := by rw [a5 17 (by decide) (by decide), xi 17 (by omega) K (by omega)]; exact e6
    have y18 : Y 18 K = nI (wpg (wsL T l) K) := by rw [a5 18 (by decide) (by decide), xi 18 (by omega) K (by omega)]; exact e7
    have y15 : Y 15 K = nI (kdN T (lg l K).1 (lg l K).2) := by rw [a5 15 (by decide) (by decide), xi 15 (by omega) K (by omega)]; exact e4
    have n0 : ¬ nI l.length = 0 := nI_ne0 (by omega) (by omega)
    rw [if_neg n0, eK, rd_in _ (by omega) (by omega), bnd_s, rd_in _ (by omega) (by omega), bnd_s, y15, y17]
    have cl : ∀ a : Int32, a = nI (wsn (wsL T l) l.length) → ∃ X' : DM, (bnd (wrA 151 (Y 17) (nI l.length) a) fun f31 => if nI l.length = 0 then bnd (wrA 151 ((va_up Y 17 f31) 18) (nI l.length) 0) fun f36 => some (va_up (va_up (va_up Y 17 f31) 18 f36) 9 (fun _ => (va_up (va_up Y 17 f31) 18 f36) 9 0 + 1)) else bnd (rdA 151 ((va_up Y 17 f31) 18) (nI K)) fun v44 => bnd (rdA 151 ((va_up Y 17 f31) 15) (nI K)) fun v47 => if v47 = 3 then bnd (wrA 151 ((va_up Y 17 f31) 18) (nI l.length) (v44 + 1)) fun f36 => some (va_up (va_up (va_up Y 17 f31) 18 f36) 9 (fun _ => (va_up (va_up Y 17 f31) 18 f36) 9 0 + 1)) else bnd (wrA 151 ((va_up Y 17 f31) 18) (nI l.length) (v44 + 0)) fun f36 => some (va_up (va_up (va_up Y 17 f31) 18 f36) 9 (fun _ => (va_up (va_up Y 17 f31) 18 f36) 9 0 + 1))) = some X' ∧ HM T (l ++ [(s, m)]) X' ∧ ∀ r, r < 9 → X' r = XM r := by
      intro a ha
      rw [wr_in _ _ (by omega) (by omega), bnd_s, if_neg n0, up_ne (k := 17) (j := 18) _ _ (by decide), up_ne (k := 17) (j := 15) _ _ (by decide), rd_in _ (by omega) (by omega), bnd_s, rd_in _ (by omega) (by omega), bnd_s, y15, y18]
      have cl2 : ∀ b : Int32, b = nI (wpg (wsL T l) l.length) → ∃ X' : DM, (bnd (wrA 151 (Y 18) (nI l.length) b) fun f36 => some (va_up (va_up (va_up Y 17 (upd (Y 17) l.length a)) 18 f36) 9 (fun _ => (va_up (va_up Y 17 (upd (Y 17) l.length a)) 18 f36) 9 0 + 1))) = some X' ∧ HM T (l ++ [(s, m)]) X' ∧ ∀ r, r < 9 → X' r = XM r := by
        intro b hb
        rw [wr_in _ _ (by omega) (by omega), bnd_s, up_ne (k := 18) (j := 9) _ _ (by decide), up_ne (k := 17) (j := 9) _ _ (by decide), y9, nI_1]
        obtain ⟨f1, f2⟩ := fin Y a b ha hb a2 a3 a4 a5
        exact ⟨_, rfl, f1, f2⟩
      by_cases c : kdN T (lg l K).1 (lg l K).2 = 3
      · rw [if_pos (by rw [c]; rfl)]
        exact cl2 _ (by rw [hpg, if_pos c, nI_1])
      · rw [if_neg (fun e => c ((eq_l (k := 3) (by omega) (by omega)).mp e))]
        exact cl2 _ (by rw [hpg, if_neg c]; exact Int32.add_zero _)
    by_cases c : 1 < kdN T (lg l K).1 (lg l K).2
    · rw [if_neg (fun e => absurd ((le_l2 (a := kdN T (lg l K).1 (lg l K).2) (k := 1) (by omega) (by omega)).mp e) (by omega))]
      exact cl _ (by rw [hsn, if_pos c, nI_1])
    · rw [if_pos ((le_l2 (a := kdN T (lg l K).1 (lg l K).2) (k := 1) (by omega) (by omega)).mpr (by omega))]
      exact cl _ (by rw [hsn, if_neg c]; exact Int32.add_zero _)
theorem m_par_L {T : Nat → Int32} {L : Nat} (hL : L ≤ 300) {n : Nat} (hn : 400 ≤ n) (kk : DM → Option DM) : ∀ (k s i : Nat), i + k = L + 1 → s ≤ i → ∀ (l : List (Nat × Nat)) (XM : DM), XM 0 0 = nI L → (∀ i, i < L → XM 0 (1 + i) = T i) → HM T l XM → (l ++ scn T L k s i).length ≤ 150 → ∀ fu, k < fu → ∃ X' : DM, fX6_parses_L9 n kk fu (nI (i - s)) (nI i) XM = kk X' ∧ HM T (l ++ scn T L k s i) X' ∧ ∀ r, r < 9 → X' r = XM r := by
  intro k
  induction k with
  | zero =>
    intro s i hi hs l XM h0 hd h _ fu hfu
    obtain ⟨fu, rfl⟩ : ∃ z, fu = z + 1 := ⟨fu - 1, by omega⟩
    unfold fX6_parses_L9 scn
    rw [rd_l (k := 0) _ (by omega) (by omega), bnd_s, h0, if_pos (nI_lt (by omega) (by omega)), List.append_nil]
    exact ⟨XM, rfl, h, fun _ _ => rfl⟩
  | succ k ih =>
    intro s i hi hs l XM h0 hd h hlen fu hfu
    obtain ⟨fu, rfl⟩ : ∃ z, fu = z + 1 := ⟨fu - 1, by omega⟩
    unfold fX6_parses_L9
    rw [rd_l (k := 0) _ (by omega) (by omega), bnd_s, h0, if_neg (nI_nlt (by omega) (by omega)), bnd_s]
    simp only [sl_s, nI_1, show ((1 : Int32) = 0) = False from eq_false (by decide), if_false, if_true]
    -- the end of a run
    have stop : (i = L ∨ T i = 32) → ∃ X' : DM, (if nI (i - s) ≤ 0 then fX6_parses_L9 n kk fu 0 (nI (i + 1)) XM else bnd (fX6_readsWord n XM (nI i - nI (i - s)) (nI (i - s))) fun X27 => fX6_parses_L9 n kk fu 0 (nI (i + 1)) X27) = kk X' ∧ HM T (l ++ scn T L (k + 1) s i) X' ∧ ∀ r, r < 9 → X' r = XM r := by
      intro c
      unfold scn at hlen ⊢
      rw [if_pos c] at hlen ⊢
      by_cases z : s < i
      · rw [if_pos z] at hlen ⊢
        rw [List.append_cons] at hlen ⊢
        have hl1 : l.length < 150 := by
          simp only [List.length_append, List.length_cons, List.length_nil] at hlen
          omega
        obtain ⟨X1, a1, a2, a3⟩ := m_rw (T := T) hL hn hd h hl1 (s := s) (m := i - s) (by omega) (by omega)
        rw [if_neg (fun e => by rw [lit_n 0, nI_leI (by omega) (by omega)] at e; omega), n_sub (by omega), show i - (i - s) = s by omega, a1, bnd_s]
        obtain ⟨X', b1, b2, b3⟩ := ih (i + 1) (i + 1) (by omega) (Nat.le_refl _) (l ++ [(s, i - s)]) X1 (by rw [a3 0 (by omega)]; exact h0) (by intro q hq; rw [a3 0 (by omega)]; exact hd q hq) a2 hlen fu (by omega)
        rw [Nat.sub_self] at b1
        exact ⟨X', b1, b2, fun r hr => by rw [b3 r hr, a3 r hr]⟩
      · rw [if_neg z] at hlen ⊢
        rw [if_pos (by rw [show i - s = 0 by omega]; decide)]
        have := ih (i + 1) (i + 1) (by omega) (Nat.le_refl _) l XM h0 hd h hlen fu (by omega)
        rw [Nat.sub_self] at this
        exact this
    by_cases c1 : i = L
    · rw [if_pos (by rw [c1])]
      exact stop (Or.inl c1)
    · rw [if_neg (fun e => c1 ((nI_eq (by omega) (by omega)).mp e)), one_add, rd_in _ (by omega) (by omega), bnd_s, hd _ (by omega)]
      by_cases c2 : T i = 32
      · rw [if_pos c2]
        exact stop (Or.inr c2)
      · rw [if_neg c2]
        unfold scn at hlen ⊢
        rw [if_neg (fun q => q.elim c1 c2)] at hlen ⊢
        have := ih s (i + 1) (by omega) (by omega) l XM h0 hd h hlen fu (by omega)
        rw [show i + 1 - s = i - s + 1 by omega] at this
        exact this
theorem m_parses {T : Nat → Int32} {L : Nat} (hL : L ≤ 300) {n : Nat} (hn : 400 ≤ n) {XM : DM} (h0 : XM 0 0 = nI L) (hd : ∀ i, i < L → XM 0 (1 + i) = T i) : ∃ X' : DM, fX6_parses n XM = some X' ∧ PM (wsOf T L) X' ∧ ∀ r, r < 9 → X' r = XM r := by
  have hv := wsOf_VS (T := T) hL
  have hS := nS_le hv
  unfold fX6_parses
  simp only [sl_s]
  have hlen : (scn T L (L + 1) 0 0).length ≤ 150 := hv.1
  obtain ⟨Y, a1, a2, a3⟩ := m_par_L (T := T) hL hn (fun XM => if (XM 9 0) = 0 then (if ((va_up XM 10 (fun _ => 0)) 9 0) = 0 then some (va_up (va_up XM 10 (fun _ => 0)) 11 (fun _ => 0)) else bnd (rdA 151 ((va_up XM 10 (fun _ => 0)) 18) (((va_up XM 10 (fun _ => 0)) 9 0) - 1)) fun v8 => some (va_up (va_up XM 10 (fun _ => 0)) 11 (fun _ => v8 + 1))) else bnd (rdA 151 (XM 17) ((XM 9 0) - 1)) fun v12 => (if ((va_up XM 10 (fun _ => v12 + 1)) 9 0) = 0 then some (va_up (va_up XM 10 (fun _ => v12 + 1)) 11 (fun _ => 0)) else bnd (rdA 151 ((va_up XM 10 (fun _ => v12 + 1)) 18) (((va_up XM 10 (fun _ => v12 + 1)) 9 0) - 1)) fun v8 => some (va_up (va_up XM 10 (fun _ => v12 + 1)) 11 (fun _ => v8 + 1)))) (L + 1) 0 0 (by omega) (Nat.le_refl _) [] (va_up XM 9 (fun _ => 0)) (by rw [up_ne _ _ (by decide)]; exact h0) (by intro i hi; rw [up_ne _ _ (by decide)]; exact hd i hi) ⟨by rw [up_eq]; rfl, fun i hi => absurd hi (Nat.not_lt_zero _)⟩ (by rw [List.nil_append]; exact hlen) n (by omega)
  rw [show fX6_parses_L9 n _ n 0 0 (va_up XM 9 (fun _ => 0)) = _ from a1]
  rw [List.nil_append] at a2
  have b : ∀ (x y : Int32), x = nI (wnS (wsOf T L)) → y = nI (wnP (wsOf T L)) → PM (wsOf T L) (va_up (va_up Y 10 (fun _ => x)) 11 (fun _ => y)) ∧ ∀ r, r < 9 → (va_up (va_up Y 10 (fun _ => x)) 11 (fun _ => y)) r = XM r := by
    intro x y hx hy
    refine ⟨⟨?_, ?_, ?_, fun i hi => ?_⟩, fun r hr => by rw [up_ne _ _ (by omega), up_ne _ _ (by omega), a3 r hr, up_ne _ _ (by omega)]⟩
    · rw [up_ne _ _ (by decide), up_ne _ _ (by decide)]; exact a2.1
    · rw [up_ne _ _ (by decide), up_eq, hx]
    · rw [up_eq, hy]
    · have q := a2.2 i hi
      simp only [up_ne (k := 11) (j := 12) _ _ (show (12 : Nat) ≠ 11 by decide), up_ne (k := 11) (j := 13) _ _ (show (13 : Nat) ≠ 11 by decide), up_ne (k := 11) (j := 14) _ _ (show (14 : Nat) ≠ 11 by decide), up_ne (k := 11) (j := 15) _ _ (show (15 : Nat) ≠ 11 by decide), up_ne (k := 11) (j := 16) _ _ (show (16 : Nat) ≠ 11 by decide), up_ne (k := 11) (j := 17) _ _ (show (17 : Nat) ≠ 11 by decide), up_ne (k := 11) (j := 18) _ _ (show (18 : Nat) ≠ 11 by decide), up_ne (k := 10) (j := 12) _ _ (show (12 : Nat) ≠ 10 by decide), up_ne (k := 10) (j := 13) _ _ (show (13 : Nat) ≠ 10 by decide), up_ne (k := 10) (j := 14) _ _ (show (14 : Nat) ≠ 10 by decide), up_ne (k := 10) (j := 15) _ _ (show (15 : Nat) ≠ 10 by decide), up_ne (k := 10) (j := 16) _ _ (show (16 : Nat) ≠ 10 by decide), up_ne (k := 10) (j := 17) _ _ (show (17 : Nat) ≠ 10 by decide), up_ne (k := 10) (j := 18) _ _ (show (18 : Nat) ≠ 10 by decide)]
      exact q
  have y9 : Y 9 0 = nI (wK (wsOf T L)) := a2.1
  try dsimp only
  rw [y9, up_ne (k := 10) (j := 9) _ _ (by decide), y9]
  by_cases c : wK (wsOf T L) = 0
  · rw [if_pos (by rw [c]; rfl), if_pos (by rw [c]; rfl)]
    obtain ⟨b1, b2⟩ := b 0 0 (by unfold wnS; rw [if_pos c]; rfl) (by unfold wnP; rw [if_pos c]; rfl)
    exact ⟨_, rfl, b1, b2⟩
  · have hk := hv.1
    obtain ⟨K, hK⟩ : ∃ z, wK (wsOf T L) = z + 1 := ⟨wK (wsOf T L) - 1, by omega⟩
    have q := a2.2 K (show K < wK (wsOf T L) by omega)
    have n0 : ¬ nI (wK (wsOf T L)) = 0 := nI_ne0 (by omega) (by omega)
    have eK : nI (wK (wsOf T L)) - 1 = nI K := by rw [hK]; exact nI_pred K
    rw [if_neg n0, eK, rd_in _ (by omega) (by omega), bnd_s]
    simp only [up_ne (k := 10) (j := 9) _ _ (show (9 : Nat) ≠ 10 by decide), up_ne (k := 10) (j := 18) _ _ (show (18 : Nat) ≠ 10 by decide), y9]
    rw [if_neg n0, eK, rd_in _ (by omega) (by omega), bnd_s]
    obtain ⟨b1, b2⟩ := b (Y 17 K + 1) (Y 18 K + 1) (by
      rw [q.2.2.2.2.2.1, nI_1]
      unfold wnS
      rw [if_neg c, hK]
      rfl) (by
      rw [q.2.2.2.2.2.2, nI_1]
      unfold wnP
      rw [if_neg c, hK]
      rfl)
    exact ⟨_, rfl, b1, b2⟩
