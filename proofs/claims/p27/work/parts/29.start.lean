theorem arr_at {args : Array Value} {s : State} {ty : FieldType} (h : (Cond.arrayClass ty).before args s = true) (hn : ∀ C, ty ≠ .object C) : ∃ c : ClassId, ArrOfT s c ty ∧ va_RA s c ty := by
  obtain ⟨c, k, comp, h1, h2, h3⟩ := Cond.arrayClass_spec (show (Cond.arrayClass ty).holds args s none s [] = true from h)
  refine ⟨c, fun n z => ⟨fun k h => (by cases h), k, h2, comp, h3⟩, ?_⟩
  cases ty <;> first | exact absurd rfl (hn _) | exact h1
theorem arr_atO {s : State} {C : String} (h : va_AO C s) : ∃ c : ClassId, ArrOfT s c (.object C) ∧ va_RA s c (.object C) := by
  obtain ⟨comp, c, k, h1, -, h3, h4, h5⟩ := Cond.arrayOver_spec (show (Cond.arrayOver (.object C)).holds #[] s none s [] = true from h)
  exact ⟨c, fun n z => ⟨fun k h => (by cases h), k, h3, comp, h4⟩, k, comp, h3, h4, h1, h5⟩
set_option maxHeartbeats 16000000 in
set_option maxRecDepth 100000 in
theorem start_open {p : Program} {e : Env} {s : State} {m : MethodId} {below : List Frame} {meth : Method} {c : Code} (l : Launch) {b L : Nat} {xs : Nat → Int32} (n : Nat) (hf : fL_lawT n L xs X0D XS0 X0D X0D X0D X0D XH0 = some 1) (C0 : lw_At p s m meth c b L xs) : W p l e room_1 s m #[Value.ref b] below meth c s.heap [] 0 0 (lw_Z below #[Value.ref b] s) (entryFrame m ([Value.ref b] : List Value).toArray 18) := by
  obtain ⟨hx, hb, hr, hml, hown, hts0, hX, hbl, hlocks, hgv⟩ := id C0
  have hts : ∀ w ∈ wsL_law, w.before #[Value.ref b] s = true := fun w h => hts0 w (wsL_law_in w h)
  have hA : ∀ q : Nat, s.heap.size ≤ q → (fun q : Nat => s.heap.size ≤ q) q := fun _ h => h
  obtain ⟨c0, iS0, hKn0⟩ := u_known (C := RX0) (T := TX0) (N := 2) (n := 2) hts0 inX0 (hts (.instantiable RX0 2) (List.mem_of_getElem? (i := 19) rfl))
  obtain ⟨c1, iS1, hKn1⟩ := u_known (C := RX1) (T := TX1) (N := 2) (n := 2) hts0 inX1 (hts (.instantiable RX1 2) (List.mem_of_getElem? (i := 23) rfl))
  obtain ⟨c2, iS2, hKn2⟩ := u_known (C := RX2) (T := TX2) (N := 4) (n := 4) hts0 inX2 (hts (.instantiable RX2 4) (List.mem_of_getElem? (i := 39) rfl))
  obtain ⟨c3, iS3, hKn3⟩ := u_known (C := RX3) (T := TX3) (N := 15) (n := 15) hts0 inX3 (hts (.instantiable RX3 15) (List.mem_of_getElem? (i := 14) rfl))
  obtain ⟨c4, iS4, hKn4⟩ := u_known (C := RX4) (T := TX4) (N := 9) (n := 9) hts0 inX4 (hts (.instantiable RX4 9) (List.mem_of_getElem? (i := 10) rfl))
  obtain ⟨c5, iS5, hKn5⟩ := u_known (C := RX5) (T := TX5) (N := 6) (n := 6) hts0 inX5 (hts (.instantiable RX5 6) (List.mem_of_getElem? (i := 1) rfl))
  obtain ⟨tL, tH, tF, hST, hSF⟩ := statics_at hgv hts0 (A := fun q : Nat => s.heap.size ≤ q) (fun a h => Nat.not_le.mpr h)
  obtain ⟨cI, hI⟩ := arr_at (ty := .int) (hts0 (.arrayClass .int) (by decide +kernel)) (fun C hc => by cases hc)
  obtain ⟨cS, hS9⟩ := arr_atO (C := RX3) hSF.2.2.2.2
  obtain ⟨g, hKW⟩ : ∃ g : GG, KW g s := by
    refine ⟨((fun k => if k = 0 then c0 else if k = 1 then c1 else if k = 2 then c2 else if k = 3 then c3 else if k = 4 then c4 else c5, fun k => if k = 0 then iS0 else if k = 1 then iS1 else if k = 2 then iS2 else if k = 3 then iS3 else if k = 4 then iS4 else iS5), cI, cI, cI, cS), ⟨?_, ?_⟩, fun w hw => va_Nw.of (nestL_t w hw) (hts0 w (nest_in w hw))⟩
    · intro k q hq
      match k, hq with
      | 0, hq => cases hq; exact hKn0
      | 1, hq => cases hq; exact hKn1
      | 2, hq => cases hq; exact hKn2
      | 3, hq => cases hq; exact hKn3
      | 4, hq => cases hq; exact hKn4
      | 5, hq => cases hq; exact hKn5
      | k + 6, hq => simp [vwCl] at hq
    · intro k q hq
      match k, hq with
      | 0, hq => cases hq; exact hI
      | 1, hq => cases hq; exact hI
      | 2, hq => cases hq; exact hI
      | 3, hq => cases hq; exact hS9
      | k + 4, hq => simp [tyG] at hq
  have hK := hKW.1
  have hS : va_S (fun q : Nat => s.heap.size ≤ q) s.heap s.heap [] := va_S.rf
  have hP : va_P g.1 vwCl [] s.heap := fun k q h => by simp at h
  have hD : va_D (fun q : Nat => s.heap.size ≤ q) [] := ⟨fun i j p q h => by simp at h, fun k q h => by simp at h⟩
  have hl := lv_entry ([.ref b]) (n := 18) (Nat.le_of_ble_eq_true rfl)
  rw [lg_entry_eq]
  generalize (lg_sl ([.ref b]) ++ List.replicate (18 - (lg_sl ([.ref b])).length) Slot.unset).toArray = ls at hl ⊢
  have hl : lv_has ls 18 [(0, .ref b)] := hl
  refine va_new (ci := 5) (fs := [.null, .null, .null, .null, .null, .null]) (C := RX5) (T := TX5) (N := 6) hx hb hts0 inX5 tyX5 tyX5_ok hown (hts (.classLink RL 10 RX5) (List.mem_of_getElem? (i := 0) rfl)) (hts (.instantiable RX5 6) (List.mem_of_getElem? (i := 1) rfl)) (hts (.initialized RX5) (List.mem_of_getElem? (i := 2) rfl)) hK hP hD hS hA rfl (fun j hj => by rcases (show j = 0 ∨ j = 1 ∨ j = 2 ∨ j = 3 ∨ j = 4 ∨ j = 5 by omega) with rfl | rfl | rfl | rfl | rfl | rfl <;> rfl) (Nat.le_of_ble_eq_true rfl) (Nat.le_of_ble_eq_true rfl) dL_law_0 (fun q5 H hP hD hS => ?_)
  have hP : va_P g.1 vwCl [(q5, .inr (5, [.null, .null, .null, .null, .null, .null]))] H := hP
  have hD : va_D (fun q : Nat => s.heap.size ≤ q) [(q5, .inr (5, [.null, .null, .null, .null, .null, .null]))] := hD
  refine W.widen (k := 1) (n := 6) (Nat.le_of_ble_eq_true rfl) (Nat.le_of_ble_eq_true rfl) ?_
  refine lv_dup hx hb dL_law_3 rfl ?_
  refine wr_n (rest := [.ref q5]) (wc := [(q5, .inr (5, [.null, .null, .null, .null, .null, .null]))]) (wr := []) (w1 := fun (u : U5) => w5 g u.1 u.2.1 u.2.2.1 u.2.2.2.1 u.2.2.2.2.1 u.2.2.2.2.2.1 u.2.2.2.2.2.2.1 u.2.2.2.2.2.2.2.1 u.2.2.2.2.2.2.2.2 X0D XS0 XS0 X0D X0D X0D X0D XH0) (mc := 62) (ms := 4933) hP hD hS hA [0] [] rfl rfl (by decide) (by decide) (rnI (As := []) (E := (fun U => STF (va_A [(q5, .inr (5, [.null, .null, .null, .null, .null, .null]))] H.size) tF U)) (fun a U gf mk h => STF.calling a U gf mk h) ⟨hx, hb, hml, hown, hts⟩ (c_X5_init l g q5 tF _) (cwI 0 hts gL_law_X5_init rfl rfl rfl (hts (.initialized RX5) (List.mem_of_getElem? (i := 2) rfl)) (hts (.methodLink RL 38 yX5_init) (List.mem_of_getElem? (i := 3) rfl)) (hts (.instanceMethod yX5_init) (List.mem_of_getElem? (i := 4) rfl)) rfl (by decide +kernel) ⟨Nat.le_of_ble_eq_true rfl, Nat.le_of_ble_eq_true rfl⟩) hKW hP hD [0] (by decide) rfl (hSF.at hS (va_free hD hS hA [0] (wc := [(q5, .inr (5, [.null, .null, .null, .null, .null, .null]))]) rfl)) rfl hl.1 rfl (lv_room (Nat.le_of_ble_eq_true rfl)) dL_law_4 ⟨Nat.le_of_ble_eq_true rfl, Nat.le_of_ble_eq_true rfl⟩) (fun u H locs hu hP hD hS => ?_)
  obtain ⟨aF, aN, aA, aW, aP, aQ, aO, aH, aB⟩ := u
  have hu : aF 0 = q5 := hu
  have hP : va_P g.1 vwCl (w5 g aF aN aA aW aP aQ aO aH aB X0D XS0 XS0 X0D X0D X0D X0D XH0) H := hP
  have hD : va_D (fun q : Nat => s.heap.size ≤ q) (w5 g aF aN aA aW aP aQ aO aH aB X0D XS0 XS0 X0D X0D X0D X0D XH0) := hD
  refine W.widen (k := 63) (n := 4939) (Nat.le_of_ble_eq_true rfl) (Nat.le_of_ble_eq_true rfl) ?_
  rw [← hu]
  refine lv_astore_n (lv' := [(1, .ref (aF 0)), (0, .ref b)]) hx hb dL_law_7 rfl hl (by decide) rfl (fun ls hl => ?_)
  exact law_walk C0 hKW hA (fun _ h => h) hST n aF aN aA aW aP aQ aO aH aB X0D XS0 X0D X0D X0D X0D XH0 hf H locs (hP.subm (wc := (pF g aF (aW 0) (aN 0) (aA 0) (aH 0) (aO 0) X0D ++ (pS g aN (aW 0) XS0 ++ (pW g aW (aP 0) (aQ 0) X0D ++ (pP g aP X0D ++ (pP g aQ X0D ++ (pO g aO X0D ++ (pH g aH aB (aW 0) XH0)))))))) [0, 1, 2, 3, 4, 5, 6, 7, 8, 16, 17, 18, 19, 20, 21, 22, 23, 24, 25, 26, 27, 28, 29, 30, 31, 32, 33, 34, 35, 36, 37, 38, 39, 40, 41, 42, 43, 44, 45, 46, 47, 48, 49, 50, 51, 52, 53, 54, 55, 56, 57, 58, 59, 60, 61, 62] rfl) (hD.sub (ws' := (pF g aF (aW 0) (aN 0) (aA 0) (aH 0) (aO 0) X0D ++ (pS g aN (aW 0) XS0 ++ (pW g aW (aP 0) (aQ 0) X0D ++ (pP g aP X0D ++ (pP g aQ X0D ++ (pO g aO X0D ++ (pH g aH aB (aW 0) XH0)))))))) [0, 1, 2, 3, 4, 5, 6, 7, 8, 16, 17, 18, 19, 20, 21, 22, 23, 24, 25, 26, 27, 28, 29, 30, 31, 32, 33, 34, 35, 36, 37, 38, 39, 40, 41, 42, 43, 44, 45, 46, 47, 48, 49, 50, 51, 52, 53, 54, 55, 56, 57, 58, 59, 60, 61, 62] (by decide) rfl) hS ls hl
