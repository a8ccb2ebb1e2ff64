abbrev rmX3_copy : Room := { frames := 2, cells := 0, slots := 0, locals := 61 }
set_option maxHeartbeats 8000000 in
set_option maxRecDepth 100000 in
theorem c_X3_copy (l : Launch) (g : GG) (aS : Nat → Nat) (aT : Nat → Nat) (aW : Nat → Nat) (aP : Nat → Nat) (aQ : Nat → Nat) (sz : Nat) (XS : DM) (XT : DM) (XSz : DM) (hf : fX3_copy XS XT = some XSz) : Met l yX3_copy wsX3_copy rmX3_copy (va_Pc [.ref (aS 0), .ref (aT 0)] (fun U => U.heap.size = sz ∧ va_P g.1 vwCl (pS g aS (aW 0) XS ++ (pS g aT (aW 0) XT)) U.heap ∧ KW g U ∧ va_D (fun _ => True) (pS g aS (aW 0) XS ++ (pS g aT (aW 0) XT)))) (va_Qv (fun (_ : Unit) => True) (fun (_ : Unit) t => va_P g.1 vwCl (pS g aS (aW 0) XSz ++ (pS g aT (aW 0) XT)) t.heap) (va_A (pS g aS (aW 0) XS ++ (pS g aT (aW 0) XT)) sz)) 0 0 (va_A (pS g aS (aW 0) XS ++ (pS g aT (aW 0) XT)) sz) := by
  refine Met.ofW (cc := cX3_copy) (maxL := 2) (ret := none) (by decide) rfl ?_
  intro p e s m args below meth c s₁ B hml hv
  obtain ⟨hargs, hsz, hP, hKW, hD0⟩ := hv
  have hK := hKW.1
  have hx := B.exec
  have hb := B.bytes
  have hr := B.returns
  have hts := atoms_spec (ws := wsX3_copy) B.pre
  have hown : s.vm.findClass RX3 = some m.cls := findClass_of_methodNamed B.named
  have hlocks := B.notSynchronized
  subst hsz
  have hD := hD0.self (sz := s.heap.size)
  generalize hAe : va_A (pS g aS (aW 0) XS ++ (pS g aT (aW 0) XT)) s.heap.size = A at hD ⊢
  have hA : ∀ q : Nat, s.heap.size ≤ q → A q := fun q h => by rw [← hAe]; exact Or.inr h
  have hS : va_S A s.heap s.heap [] := va_S.rf
  have i_X3 : ∀ w ∈ wsX30, w ∈ wsX3_copy := fun w h => List.mem_cons_of_mem _ (List.mem_append_right _ h)
  have hent : entryFrame m args 2 = F0 m 0 ((lg_sl ([.ref (aS 0), .ref (aT 0)]) ++ List.replicate (2 - (lg_sl ([.ref (aS 0), .ref (aT 0)])).length) Slot.unset).toArray) [] := by rw [hargs]; exact lg_entry_eq _ _ _
  rw [hent]
  have hl := lv_entry ([.ref (aS 0), .ref (aT 0)]) (n := 2) (Nat.le_of_ble_eq_true rfl)
  generalize (lg_sl ([.ref (aS 0), .ref (aT 0)]) ++ List.replicate (2 - (lg_sl ([.ref (aS 0), .ref (aT 0)])).length) Slot.unset).toArray = ls at hl ⊢
  have hl : lv_has ls 2 [(0, .ref (aS 0)), (1, .ref (aT 0))] := hl
  generalize hQ0 : MQ below _ _ _ _ _ _ = Q0
  unfold fX3_copy at hf
  refine lv_aload_n hx hb dX3_copy_0 rfl (lv_at hl 1 rfl) ?_
  refine va_get (D := g.1) (ci := 3) (v := .ref (aT 1)) (C := RX3) (T := TX3) (N := 15) hx hb hts i_X3 hown hK hP 7 rfl rfl 1 (by decide) (hts (.fieldLink RX3 15 "WordFlasher$State" "text" "[I") (List.mem_of_getElem? (i := 1) rfl)) (fun _ h9 => h9) rfl dX3_copy_1 ?_
  refine lv_aload_n hx hb dX3_copy_4 rfl (lv_at hl 0 rfl) ?_
  refine va_get (D := g.1) (ci := 3) (v := .ref (aS 1)) (C := RX3) (T := TX3) (N := 15) hx hb hts i_X3 hown hK hP 0 rfl rfl 1 (by decide) (hts (.fieldLink RX3 15 "WordFlasher$State" "text" "[I") (List.mem_of_getElem? (i := 1) rfl)) (fun _ h9 => h9) rfl dX3_copy_5 ?_
  obtain ⟨f1, h2, hf⟩ := bnd_el hf
  obtain ⟨X3, e4, hf⟩ := sl_el hf
  refine wr_v (rest := []) (wc := (pR g (aT 1) 300 (XT 1) ++ (pR g (aS 1) 300 (XS 1)))) (wc' := (pR g (aT 1) 300 (XT 1) ++ (pR g (aS 1) 300 f1))) (ws2 := (pS g aS (aW 0) X3 ++ (pS g aT (aW 0) XT))) hP hD hS hA [8, 1] rfl rfl (by subst e4; rfl) (rnN (As := [.ref (aT 1), .ref (aS 1)]) ⟨hx, hb, hml, hown, hts⟩ (c_X5_copyRow l g (aT 1) 300 (aS 1) 300 _ _ _ _ h2) ⟨va_cnB 2 hts gX3_copy_X5_copyRow_n50 rfl rfl rfl (hKW.2 _ (List.mem_of_getElem? (i := 7) rfl)) (hts (.initialized RX5) (List.mem_of_getElem? (i := 16) rfl)) (by decide +kernel) ⟨Nat.le_of_ble_eq_true rfl, Nat.le_of_ble_eq_true rfl⟩, (hts (.static yX5_copyRow) (List.mem_of_getElem? (i := 15) rfl)), trivial⟩ hKW hP hD [8, 1] (by decide) rfl rfl hl.1 rfl (lv_room (Nat.le_of_ble_eq_true rfl)) dX3_copy_8 ⟨Nat.zero_le _, Nat.zero_le _⟩) (fun H locs hP hD hS => ?_)
  refine lv_aload_n hx hb dX3_copy_11 rfl (lv_at hl 0 rfl) ?_
  refine lv_aload_n hx hb dX3_copy_12 rfl (lv_at hl 1 rfl) ?_
  refine va_get (D := g.1) (ci := 3) (v := .int (XT 2 0)) (C := RX3) (T := TX3) (N := 15) hx hb hts i_X3 hown hK hP 7 rfl rfl 2 (by decide) (hts (.fieldLink RX3 54 "WordFlasher$State" "length" "I") (List.mem_of_getElem? (i := 2) rfl)) (fun _ h9 => h9) rfl dX3_copy_13 ?_
  obtain ⟨X5, e6, hf⟩ := sl_el hf
  refine va_put (D := g.1) (ci := 3) (v := .int (XT 2 0)) (ty := .int) (C := RX3) (T := TX3) (N := 15) hx hb hts i_X3 tyX3 tyX3_ok nmX3 hown hK hP hD hS 0 rfl rfl 2 (by decide) (hts (.fieldLink RX3 54 "WordFlasher$State" "length" "I") (List.mem_of_getElem? (i := 2) rfl)) (fun _ h9 => h9) rfl (by decide +kernel) rfl rfl (Nat.le_of_ble_eq_true rfl) dX3_copy_16 (fun H locs hP hD hS => ?_)
  have hP : va_P g.1 vwCl (pS g aS (aW 0) X5 ++ (pS g aT (aW 0) XT)) H := by subst e6; exact hP
  have hD : va_D A (pS g aS (aW 0) X5 ++ (pS g aT (aW 0) XT)) := by subst e6; exact hD
  refine lv_aload_n hx hb dX3_copy_19 rfl (lv_at hl 1 rfl) ?_
  refine va_get (D := g.1) (ci := 3) (v := .ref (aT 2)) (C := RX3) (T := TX3) (N := 15) hx hb hts i_X3 hown hK hP 7 rfl rfl 3 (by decide) (hts (.fieldLink RX3 27 "WordFlasher$State" "settings" "[I") (List.mem_of_getElem? (i := 3) rfl)) (fun _ h9 => h9) rfl dX3_copy_20 ?_
  refine lv_aload_n hx hb dX3_copy_23 rfl (lv_at hl 0 rfl) ?_
  refine va_get (D := g.1) (ci := 3) (v := .ref (aS 2)) (C := RX3) (T := TX3) (N := 15) hx hb hts i_X3 hown hK hP 0 rfl rfl 3 (by decide) (hts (.fieldLink RX3 27 "WordFlasher$State" "settings" "[I") (List.mem_of_getElem? (i := 3) rfl)) (fun _ h9 => h9) rfl dX3_copy_24 ?_
  obtain ⟨f7, h8, hf⟩ := bnd_el hf
  obtain ⟨X9, e10, hf⟩ := sl_el hf
  refine wr_v (rest := []) (wc := (pR g (aT 2) 7 (XT 3) ++ (pR g (aS 2) 7 (X5 3)))) (wc' := (pR g (aT 2) 7 (XT 3) ++ (pR g (aS 2) 7 f7))) (ws2 := (pS g aS (aW 0) X9 ++ (pS g aT (aW 0) XT))) hP hD hS hA [9, 2] rfl rfl (by subst e10; rfl) (rnN (As := [.ref (aT 2), .ref (aS 2)]) ⟨hx, hb, hml, hown, hts⟩ (c_X5_copyRow l g (aT 2) 7 (aS 2) 7 _ _ _ _ h8) ⟨va_cnB 2 hts gX3_copy_X5_copyRow_n50 rfl rfl rfl (hKW.2 _ (List.mem_of_getElem? (i := 7) rfl)) (hts (.initialized RX5) (List.mem_of_getElem? (i := 16) rfl)) (by decide +kernel) ⟨Nat.le_of_ble_eq_true rfl, Nat.le_of_ble_eq_true rfl⟩, (hts (.static yX5_copyRow) (List.mem_of_getElem? (i := 15) rfl)), trivial⟩ hKW hP hD [9, 2] (by decide) rfl rfl hl.1 rfl (lv_room (Nat.le_of_ble_eq_true rfl)) dX3_copy_27 ⟨Nat.zero_le _, Nat.zero_le _⟩) (fun H locs hP hD hS => ?_)
  refine lv_aload_n hx hb dX3_copy_30 rfl (lv_at hl 1 rfl) ?_
  refine va_get (D := g.1) (ci := 3) (v := .ref (aT 3)) (C := RX3) (T := TX3) (N := 15) hx hb hts i_X3 hown hK hP 7 rfl rfl 4 (by decide) (hts (.fieldLink RX3 30 "WordFlasher$State" "speeds" "[I") (List.mem_of_getElem? (i := 4) rfl)) (fun _ h9 => h9) rfl dX3_copy_31 ?_
  refine lv_aload_n hx hb dX3_copy_34 rfl (lv_at hl 0 rfl) ?_
  refine va_get (D := g.1) (ci := 3) (v := .ref (aS 3)) (C := RX3) (T := TX3) (N := 15) hx hb hts i_X3 hown hK hP 0 rfl rfl 4 (by decide) (hts (.fieldLink RX3 30 "WordFlasher$State" "speeds" "[I") (List.mem_of_getElem? (i := 4) rfl)) (fun _ h9 => h9) rfl dX3_copy_35 ?_
  obtain ⟨f11, h12, hf⟩ := bnd_el hf
  obtain ⟨X13, e14, hf⟩ := sl_el hf
  refine wr_v (rest := []) (wc := (pR g (aT 3) 3 (XT 4) ++ (pR g (aS 3) 3 (X9 4)))) (wc' := (pR g (aT 3) 3 (XT 4) ++ (pR g (aS 3) 3 f11))) (ws2 := (pS g aS (aW 0) X13 ++ (pS g aT (aW 0) XT))) hP hD hS hA [10, 3] rfl rfl (by subst e14; rfl) (rnN (As := [.ref (aT 3), .ref (aS 3)]) ⟨hx, hb, hml, hown, hts⟩ (c_X5_copyRow l g (aT 3) 3 (aS 3) 3 _ _ _ _ h12) ⟨va_cnB 2 hts gX3_copy_X5_copyRow_n50 rfl rfl rfl (hKW.2 _ (List.mem_of_getElem? (i := 7) rfl)) (hts (.initialized RX5) (List.mem_of_getElem? (i := 16) rfl)) (by decide +kernel) ⟨Nat.le_of_ble_eq_true rfl, Nat.le_of_ble_eq_true rfl⟩, (hts (.static yX5_copyRow) (List.mem_of_getElem? (i := 15) rfl)), trivial⟩ hKW hP hD [10, 3] (by decide) rfl rfl hl.1 rfl (lv_room (Nat.le_of_ble_eq_true rfl)) dX3_copy_38 ⟨Nat.zero_le _, Nat.zero_le _⟩) (fun H locs hP hD hS => ?_)
  refine lv_aload_n hx hb dX3_copy_41 rfl (lv_at hl 1 rfl) ?_
  refine va_get (D := g.1) (ci := 3) (v := .ref (aT 4)) (C := RX3) (T := TX3) (N := 15) hx hb hts i_X3 hown hK hP 7 rfl rfl 5 (by decide) (hts (.fieldLink RX3 33 "WordFlasher$State" "notes" "[I") (List.mem_of_getElem? (i := 5) rfl)) (fun _ h9 => h9) rfl dX3_copy_42 ?_
  refine lv_aload_n hx hb dX3_copy_45 rfl (lv_at hl 0 rfl) ?_
  refine va_get (D := g.1) (ci := 3) (v := .ref (aS 4)) (C := RX3) (T := TX3) (N := 15) hx hb hts i_X3 hown hK hP 0 rfl rfl 5 (by decide) (hts (.fieldLink RX3 33 "WordFlasher$State" "notes" "[I") (List.mem_of_getElem? (i := 5) rfl)) (fun _ h9 => h9) rfl dX3_copy_46 ?_
  obtain ⟨f15, h16, hf⟩ := bnd_el hf
  obtain ⟨X17, e18, hf⟩ := sl_el hf
  refine wr_v (rest := []) (wc := (pR g (aT 4) 150 (XT 5) ++ (pR g (aS 4) 150 (X13 5)))) (wc' := (pR g (aT 4) 150 (XT 5) ++ (pR g (aS 4) 150 f15))) (ws2 := (pS g aS (aW 0) X17 ++ (pS g aT (aW 0) XT))) hP hD hS hA [11, 4] rfl rfl (by subst e18; rfl) (rnN (As := [.ref (aT 4), .ref (aS 4)]) ⟨hx, hb, hml, hown, hts⟩ (c_X5_copyRow l g (aT 4) 150 (aS 4) 150 _ _ _ _ h16) ⟨va_cnB 2 hts gX3_copy_X5_copyRow_n50 rfl rfl rfl (hKW.2 _ (List.mem_of_getElem? (i := 7) rfl)) (hts (.initialized RX5) (List.mem_of_getElem? (i := 16) rfl)) (by decide +kernel) ⟨Nat.le_of_ble_eq_true rfl, Nat.le_of_ble_eq_true rfl⟩, (hts (.static yX5_copyRow) (List.mem_of_getElem? (i := 15) rfl)), trivial⟩ hKW hP hD [11, 4] (by decide) rfl rfl hl.1 rfl (lv_room (Nat.le_of_ble_eq_true rfl)) dX3_copy_49 ⟨Nat.zero_le _, Nat.zero_le _⟩) (fun H locs hP hD hS => ?_)
  refine lv_aload_n hx hb dX3_copy_52 rfl (lv_at hl 0 rfl) ?_
  refine lv_aload_n hx hb dX3_copy_53 rfl (lv_at hl 1 rfl) ?_
  refine va_get (D := g.1) (ci := 3) (v := .int (XT 6 0)) (C := RX3) (T := TX3) (N := 15) hx hb hts i_X3 hown hK hP 7 rfl rfl 6 (by decide) (hts (.fieldLink RX3 46 "WordFlasher$State" "present" "I") (List.mem_of_getElem? (i := 6) rfl)) (fun _ h9 => h9) rfl dX3_copy_54 ?_
  obtain ⟨X19, e20, hf⟩ := sl_el hf
  refine va_put (D := g.1) (ci := 3) (v := .int (XT 6 0)) (ty := .int) (C := RX3) (T := TX3) (N := 15) hx hb hts i_X3 tyX3 tyX3_ok nmX3 hown hK hP hD hS 0 rfl rfl 6 (by decide) (hts (.fieldLink RX3 46 "WordFlasher$State" "present" "I") (List.mem_of_getElem? (i := 6) rfl)) (fun _ h9 => h9) rfl (by decide +kernel) rfl rfl (Nat.le_of_ble_eq_true rfl) dX3_copy_57 (fun H locs hP hD hS => ?_)
  have hP : va_P g.1 vwCl (pS g aS (aW 0) X19 ++ (pS g aT (aW 0) XT)) H := by subst e20; exact hP
  have hD : va_D A (pS g aS (aW 0) X19 ++ (pS g aT (aW 0) XT)) := by subst e20; exact hD
  refine lv_aload_n hx hb dX3_copy_60 rfl (lv_at hl 0 rfl) ?_
  refine lv_aload_n hx hb dX3_copy_61 rfl (lv_at hl 1 rfl) ?_
  refine va_get (D := g.1) (ci := 3) (v := .int (XT 7 0)) (C := RX3) (T := TX3) (N := 15) hx hb hts i_X3 hown hK hP 7 rfl rfl 7 (by decide) (hts (.fieldLink RX3 57 "WordFlasher$State" "rest" "I") (List.mem_of_getElem? (i := 7) rfl)) (fun _ h9 => h9) rfl dX3_copy_62 ?_
  obtain ⟨X21, e22, hf⟩ := sl_el hf
  refine va_put (D := g.1) (ci := 3) (v := .int (XT 7 0)) (ty := .int) (C := RX3) (T := TX3) (N := 15) hx hb hts i_X3 tyX3 tyX3_ok nmX3 hown hK hP hD hS 0 rfl rfl 7 (by decide) (hts (.fieldLink RX3 57 "WordFlasher$State" "rest" "I") (List.mem_of_getElem? (i := 7) rfl)) (fun _ h9 => h9) rfl (by decide +kernel) rfl rfl (Nat.le_of_ble_eq_true rfl) dX3_copy_65 (fun H locs hP hD hS => ?_)
  have hP : va_P g.1 vwCl (pS g aS (aW 0) X21 ++ (pS g aT (aW 0) XT)) H := by subst e22; exact hP
  have hD : va_D A (pS g aS (aW 0) X21 ++ (pS g aT (aW 0) XT)) := by subst e22; exact hD
  refine lv_aload_n hx hb dX3_copy_68 rfl (lv_at hl 1 rfl) ?_
  refine va_get (D := g.1) (ci := 3) (v := .ref (aT 5)) (C := RX3) (T := TX3) (N := 15) hx hb hts i_X3 hown hK hP 7 rfl rfl 8 (by decide) (hts (.fieldLink RX3 36 "WordFlasher$State" "places" "[I") (List.mem_of_getElem? (i := 8) rfl)) (fun _ h9 => h9) rfl dX3_copy_69 ?_
  refine lv_aload_n hx hb dX3_copy_72 rfl (lv_at hl 0 rfl) ?_
  refine va_get (D := g.1) (ci := 3) (v := .ref (aS 5)) (C := RX3) (T := TX3) (N := 15) hx hb hts i_X3 hown hK hP 0 rfl rfl 8 (by decide) (hts (.fieldLink RX3 36 "WordFlasher$State" "places" "[I") (List.mem_of_getElem? (i := 8) rfl)) (fun _ h9 => h9) rfl dX3_copy_73 ?_
  obtain ⟨f23, h24, hf⟩ := bnd_el hf
  obtain ⟨X25, e26, hf⟩ := sl_el hf
  refine wr_v (rest := []) (wc := (pR g (aT 5) 5 (XT 8) ++ (pR g (aS 5) 5 (X21 8)))) (wc' := (pR g (aT 5) 5 (XT 8) ++ (pR g (aS 5) 5 f23))) (ws2 := (pS g aS (aW 0) X25 ++ (pS g aT (aW 0) XT))) hP hD hS hA [12, 5] rfl rfl (by subst e26; rfl) (rnN (As := [.ref (aT 5), .ref (aS 5)]) ⟨hx, hb, hml, hown, hts⟩ (c_X5_copyRow l g (aT 5) 5 (aS 5) 5 _ _ _ _ h24) ⟨va_cnB 2 hts gX3_copy_X5_copyRow_n50 rfl rfl rfl (hKW.2 _ (List.mem_of_getElem? (i := 7) rfl)) (hts (.initialized RX5) (List.mem_of_getElem? (i := 16) rfl)) (by decide +kernel) ⟨Nat.le_of_ble_eq_true rfl, Nat.le_of_ble_eq_true rfl⟩, (hts (.static yX5_copyRow) (List.mem_of_getElem? (i := 15) rfl)), trivial⟩ hKW hP hD [12, 5] (by decide) rfl rfl hl.1 rfl (lv_room (Nat.le_of_ble_eq_true rfl)) dX3_copy_76 ⟨Nat.zero_le _, Nat.zero_le _⟩) (fun H locs hP hD hS => ?_)
  refine lv_aload_n hx hb dX3_copy_79 rfl (lv_at hl 0 rfl) ?_
  refine lv_aload_n hx hb dX3_copy_80 rfl (lv_at hl 1 rfl) ?_
  refine va_get (D := g.1) (ci := 3) (v := .int (XT 9 0)) (C := RX3) (T := TX3) (N := 15) hx hb hts i_X3 hown hK hP 7 rfl rfl 9 (by decide) (hts (.fieldLink RX3 60 "WordFlasher$State" "placed" "I") (List.mem_of_getElem? (i := 9) rfl)) (fun _ h9 => h9) rfl dX3_copy_81 ?_
  obtain ⟨X27, e28, hf⟩ := sl_el hf
  refine va_put (D := g.1) (ci := 3) (v := .int (XT 9 0)) (ty := .int) (C := RX3) (T := TX3) (N := 15) hx hb hts i_X3 tyX3 tyX3_ok nmX3 hown hK hP hD hS 0 rfl rfl 9 (by decide) (hts (.fieldLink RX3 60 "WordFlasher$State" "placed" "I") (List.mem_of_getElem? (i := 9) rfl)) (fun _ h9 => h9) rfl (by decide +kernel) rfl rfl (Nat.le_of_ble_eq_true rfl) dX3_copy_84 (fun H locs hP hD hS => ?_)
  have hP : va_P g.1 vwCl (pS g aS (aW 0) X27 ++ (pS g aT (aW 0) XT)) H := by subst e28; exact hP
  have hD : va_D A (pS g aS (aW 0) X27 ++ (pS g aT (aW 0) XT)) := by subst e28; exact hD
  refine lv_aload_n hx hb dX3_copy_87 rfl (lv_at hl 1 rfl) ?_
  refine va_get (D := g.1) (ci := 3) (v := .ref (aT 6)) (C := RX3) (T := TX3) (N := 15) hx hb hts i_X3 hown hK hP 7 rfl rfl 10 (by decide) (hts (.fieldLink RX3 39 "WordFlasher$State" "latest" "[I") (List.mem_of_getElem? (i := 10) rfl)) (fun _ h9 => h9) rfl dX3_copy_88 ?_
  refine lv_aload_n hx hb dX3_copy_91 rfl (lv_at hl 0 rfl) ?_
  refine va_get (D := g.1) (ci := 3) (v := .ref (aS 6)) (C := RX3) (T := TX3) (N := 15) hx hb hts i_X3 hown hK hP 0 rfl rfl 10 (by decide) (hts (.fieldLink RX3 39 "WordFlasher$State" "latest" "[I") (List.mem_of_getElem? (i := 10) rfl)) (fun _ h9 => h9) rfl dX3_copy_92 ?_
  obtain ⟨f29, h30, hf⟩ := bnd_el hf
  obtain ⟨X31, e32, hf⟩ := sl_el hf
  refine wr_v (rest := []) (wc := (pR g (aT 6) 3 (XT 10) ++ (pR g (aS 6) 3 (X27 10)))) (wc' := (pR g (aT 6) 3 (XT 10) ++ (pR g (aS 6) 3 f29))) (ws2 := (pS g aS (aW 0) X31 ++ (pS g aT (aW 0) XT))) hP hD hS hA [13, 6] rfl rfl (by subst e32; rfl) (rnN (As := [.ref (aT 6), .ref (aS 6)]) ⟨hx, hb, hml, hown, hts⟩ (c_X5_copyRow l g (aT 6) 3 (aS 6) 3 _ _ _ _ h30) ⟨va_cnB 2 hts gX3_copy_X5_copyRow_n50 rfl rfl rfl (hKW.2 _ (List.mem_of_getElem? (i := 7) rfl)) (hts (.initialized RX5) (List.mem_of_getElem? (i := 16) rfl)) (by decide +kernel) ⟨Nat.le_of_ble_eq_true rfl, Nat.le_of_ble_eq_true rfl⟩, (hts (.static yX5_copyRow) (List.mem_of_getElem? (i := 15) rfl)), trivial⟩ hKW hP hD [13, 6] (by decide) rfl rfl hl.1 rfl (lv_room (Nat.le_of_ble_eq_true rfl)) dX3_copy_95 ⟨Nat.zero_le _, Nat.zero_le _⟩) (fun H locs hP hD hS => ?_)
  refine lv_aload_n hx hb dX3_copy_98 rfl (lv_at hl 0 rfl) ?_
  refine lv_aload_n hx hb dX3_copy_99 rfl (lv_at hl 1 rfl) ?_
  refine va_get (D := g.1) (ci := 3) (v := .int (XT 11 0)) (C := RX3) (T := TX3) (N := 15) hx hb hts i_X3 hown hK hP 7 rfl rfl 11 (by decide) (hts (.fieldLink RX3 63 "WordFlasher$State" "askedBack" "Z") (List.mem_of_getElem? (i := 11) rfl)) (fun _ h9 => h9) rfl dX3_copy_100 ?_
  obtain ⟨z33, hf⟩ := zA_el hf
  obtain ⟨X34, e35, hf⟩ := sl_el hf
  refine va_put (D := g.1) (ci := 3) (v := .int (XT 11 0)) (ty := .boolean) (C := RX3) (T := TX3) (N := 15) hx hb hts i_X3 tyX3 tyX3_ok nmX3 hown hK hP hD hS 0 rfl rfl 11 (by decide) (hts (.fieldLink RX3 63 "WordFlasher$State" "askedBack" "Z") (List.mem_of_getElem? (i := 11) rfl)) (fun _ h9 => h9) rfl (by decide +kernel) (zA_n z33) (zA_f z33) (Nat.le_of_ble_eq_true rfl) dX3_copy_103 (fun H locs hP hD hS => ?_)
  have hP : va_P g.1 vwCl (pS g aS (aW 0) X34 ++ (pS g aT (aW 0) XT)) H := by subst e35; exact hP
  have hD : va_D A (pS g aS (aW 0) X34 ++ (pS g aT (aW 0) XT)) := by subst e35; exact hD
  refine lv_aload_n hx hb dX3_copy_106 rfl (lv_at hl 0 rfl) ?_
  refine lv_aload_n hx hb dX3_copy_107 rfl (lv_at hl 1 rfl) ?_
  refine va_get (D := g.1) (ci := 3) (v := .int (XT 12 0)) (C := RX3) (T := TX3) (N := 15) hx hb hts i_X3 hown hK hP 7 rfl rfl 12 (by decide) (hts (.fieldLink RX3 67 "WordFlasher$State" "ticksGone" "I") (List.mem_of_getElem? (i := 12) rfl)) (fun _ h9 => h9) rfl dX3_copy_108 ?_
  obtain ⟨X36, e37, hf⟩ := sl_el hf
  refine va_put (D := g.1) (ci := 3) (v := .int (XT 12 0)) (ty := .int) (C := RX3) (T := TX3) (N := 15) hx hb hts i_X3 tyX3 tyX3_ok nmX3 hown hK hP hD hS 0 rfl rfl 12 (by decide) (hts (.fieldLink RX3 67 "WordFlasher$State" "ticksGone" "I") (List.mem_of_getElem? (i := 12) rfl)) (fun _ h9 => h9) rfl (by decide +kernel) rfl rfl (Nat.le_of_ble_eq_true rfl) dX3_copy_111 (fun H locs hP hD hS => ?_)
  have hP : va_P g.1 vwCl (pS g aS (aW 0) X36 ++ (pS g aT (aW 0) XT)) H := by subst e37; exact hP
  have hD : va_D A (pS g aS (aW 0) X36 ++ (pS g aT (aW 0) XT)) := by subst e37; exact hD
  refine lv_aload_n hx hb dX3_copy_114 rfl (lv_at hl 0 rfl) ?_
  refine lv_aload_n hx hb dX3_copy_115 rfl (lv_at hl 1 rfl) ?_
  refine va_get (D := g.1) (ci := 3) (v := .int (XT 13 0)) (C := RX3) (T := TX3) (N := 15) hx hb hts i_X3 hown hK hP 7 rfl rfl 13 (by decide) (hts (.fieldLink RX3 70 "WordFlasher$State" "wordsEnded" "I") (List.mem_of_getElem? (i := 13) rfl)) (fun _ h9 => h9) rfl dX3_copy_116 ?_
  obtain ⟨X38, e39, hf⟩ := sl_el hf
  refine va_put (D := g.1) (ci := 3) (v := .int (XT 13 0)) (ty := .int) (C := RX3) (T := TX3) (N := 15) hx hb hts i_X3 tyX3 tyX3_ok nmX3 hown hK hP hD hS 0 rfl rfl 13 (by decide) (hts (.fieldLink RX3 70 "WordFlasher$State" "wordsEnded" "I") (List.mem_of_getElem? (i := 13) rfl)) (fun _ h9 => h9) rfl (by decide +kernel) rfl rfl (Nat.le_of_ble_eq_true rfl) dX3_copy_119 (fun H locs hP hD hS => ?_)
  have hP : va_P g.1 vwCl (pS g aS (aW 0) X38 ++ (pS g aT (aW 0) XT)) H := by subst e39; exact hP
  have hD : va_D A (pS g aS (aW 0) X38 ++ (pS g aT (aW 0) XT)) := by subst e39; exact hD
  refine lv_aload_n hx hb dX3_copy_122 rfl (lv_at hl 0 rfl) ?_
  refine lv_aload_n hx hb dX3_copy_123 rfl (lv_at hl 1 rfl) ?_
  refine va_get (D := g.1) (ci := 3) (v := .int (XT 14 0)) (C := RX3) (T := TX3) (N := 15) hx hb hts i_X3 hown hK hP 7 rfl rfl 14 (by decide) (hts (.fieldLink RX3 73 "WordFlasher$State" "askings" "I") (List.mem_of_getElem? (i := 14) rfl)) (fun _ h9 => h9) rfl dX3_copy_124 ?_
  obtain ⟨X40, e41, hf⟩ := sl_el hf
  refine va_put (D := g.1) (ci := 3) (v := .int (XT 14 0)) (ty := .int) (C := RX3) (T := TX3) (N := 15) hx hb hts i_X3 tyX3 tyX3_ok nmX3 hown hK hP hD hS 0 rfl rfl 14 (by decide) (hts (.fieldLink RX3 73 "WordFlasher$State" "askings" "I") (List.mem_of_getElem? (i := 14) rfl)) (fun _ h9 => h9) rfl (by decide +kernel) rfl rfl (Nat.le_of_ble_eq_true rfl) dX3_copy_127 (fun H locs hP hD hS => ?_)
  have hP : va_P g.1 vwCl (pS g aS (aW 0) X40 ++ (pS g aT (aW 0) XT)) H := by subst e41; exact hP
  have hD : va_D A (pS g aS (aW 0) X40 ++ (pS g aT (aW 0) XT)) := by subst e41; exact hD
  have er0 := Option.some.inj hf
  rw [← hQ0]; exact W.vret hx hb hr (fun t ht hW => ⟨⟨(), rfl, trivial, by dsimp only; rw [ht, ← er0]; exact hP⟩, hS.F ht⟩) hS.2.2 dX3_copy_130
abbrev rmX3_measureOf : Room := { frames := 1, cells := 0, slots := 0, locals := 21 }
set_option maxHeartbeats 8000000 in
set_option maxRecDepth 100000 in
theorem c_X3_measureOf (l : Launch) (g : GG) (aS : Nat → Nat) (aW : Nat → Nat) (aP : Nat → Nat) (aQ : Nat → Nat) (XS : DM) (XW : DM) (p1 : Int32) (r : Int32) (hf : fX3_measureOf XS XW p1 = some r) : Met l yX3_measureOf wsX3_measureOf rmX3_measureOf (va_Pc [.ref (aS 0), .int p1] (fun U => va_P g.1 vwCl (pS g aS (aW 0) XS ++ (pW g aW (aP 0) (aQ 0) XW)) U.heap ∧ KW g U)) (vp_Si (fun r' => r' = r ∧ True)) 0 0 (fun _ => False) := by
  refine Met.ofW (cc := cX3_measureOf) (maxL := 3) (ret := (some .int)) (by decide) rfl ?_
  intro p e s m args below meth c s₁ B hml hv
  obtain ⟨hargs, hP, hKW⟩ := hv
  have hK := hKW.1
  have hx := B.exec
  have hb := B.bytes
  have hr := B.returns
  have hts := atoms_spec (ws := wsX3_measureOf) B.pre
  have hown : s.vm.findClass RX3 = some m.cls := findClass_of_methodNamed B.named
  have hlocks := B.notSynchronized
  have i_X3 : ∀ w ∈ wsX30, w ∈ wsX3_measureOf := fun w h => List.mem_cons_of_mem _ (List.mem_append_left _ (List.mem_append_right _ h))
  have i_X4 : ∀ w ∈ wsX40, w ∈ wsX3_measureOf := fun w h => List.mem_cons_of_mem _ (List.mem_append_right _ h)
  have hent : entryFrame m args 3 = F0 m 0 ((lg_sl ([.ref (aS 0), .int p1]) ++ List.replicate (3 - (lg_sl ([.ref (aS 0), .int p1])).length) Slot.unset).toArray) [] := by rw [hargs]; exact lg_entry_eq _ _ _
  rw [hent]
  have hl := lv_entry ([.ref (aS 0), .int p1]) (n := 3) (Nat.le_of_ble_eq_true rfl)
  generalize (lg_sl ([.ref (aS 0), .int p1]) ++ List.replicate (3 - (lg_sl ([.ref (aS 0), .int p1])).length) Slot.unset).toArray = ls at hl ⊢
  have hl : lv_has ls 3 [(0, .ref (aS 0)), (1, .int p1)] := hl
  generalize hQ0 : MQ below _ _ _ _ _ _ = Q0
  unfold fX3_measureOf at hf
  refine lv_aload_n hx hb dX3_measureOf_0 rfl (lv_at hl 0 rfl) ?_
  refine va_get (D := g.1) (ci := 3) (v := .ref (aW 0)) (C := RX3) (T := TX3) (N := 15) hx hb hts i_X3 hown hK hP 0 rfl rfl 0 (by decide) (hts (.fieldLink RX3 9 "WordFlasher$State" "words" "LWordFlasher$Words;") (List.mem_of_getElem? (i := 1) rfl)) (fun _ h9 => h9) rfl dX3_measureOf_1 ?_
  refine va_get (D := g.1) (ci := 4) (v := .ref (aW 3)) (C := RX4) (T := TX4) (N := 9) hx hb hts i_X4 hown hK hP 7 rfl rfl 2 (by decide) (hts (.fieldLink RX3 96 "WordFlasher$Words" "lengths" "[I") (List.mem_of_getElem? (i := 2) rfl)) (fun _ h9 => h9) rfl dX3_measureOf_4 ?_
  refine lv_iload_n hx hb dX3_measureOf_7 rfl (lv_at hl 1 rfl) ?_
  obtain ⟨r1, h2, hf⟩ := bnd_el hf
  refine rdN (As := [.ref (aW 3), .int p1]) (rest := []) ⟨hx, hb, hml, hown, hts⟩ (c_X5_at l g (aW 3) 150 _ _ _ h2) ⟨va_cnB 2 hts gX3_measureOf_X5_at_n99 rfl rfl rfl (hKW.2 _ (List.mem_of_getElem? (i := 6) rfl)) (hts (.initialized RX5) (List.mem_of_getElem? (i := 9) rfl)) (by decide +kernel) ⟨Nat.le_of_ble_eq_true rfl, Nat.le_of_ble_eq_true rfl⟩, (hts (.static yX5_at) (List.mem_of_getElem? (i := 8) rfl)), trivial⟩ hKW hP [10] rfl rfl hl.1 rfl (lv_room (Nat.le_of_ble_eq_true rfl)) dX3_measureOf_8 ⟨Nat.zero_le _, Nat.zero_le _⟩ (fun r3 q4 => ?_)
  obtain ⟨q4, nb5⟩ := q4
  refine lv_as q4.symm ?_
  refine lv_istore_n (lv' := [(2, .int r1), (0, .ref (aS 0)), (1, .int p1)]) hx hb dX3_measureOf_11 rfl hl (by decide) rfl (fun ls hl => ?_)
  refine lv_iload_n hx hb dX3_measureOf_12 rfl (lv_at hl 0 rfl) ?_
  refine lv_bipush (v := 10) hx hb dX3_measureOf_13 (by decide) ?_
  obtain ⟨j29, ej29, hf⟩ := sl_el hf
  have J_29 : ∀ (x2 : Int32) (ls : Array Slot), lv_has ls 3 [(0, .ref (aS 0)), (2, .int x2)] → j29 x2 = some r → W p l e (headSpec wsX3_measureOf rmX3_measureOf).room s m args below meth c s.heap [] 0 0 Q0 (F0 m 29 ls []) := by
    intro x2 ls hl hf
    rw [ej29] at hf
    refine lv_iload_n hx hb dX3_measureOf_29 rfl (lv_at hl 1 rfl) ?_
    refine lv_aload_n hx hb dX3_measureOf_30 rfl (lv_at hl 0 rfl) ?_
    refine va_get (D := g.1) (ci := 3) (v := .ref (aS 2)) (C := RX3) (T := TX3) (N := 15) hx hb hts i_X3 hown hK hP 0 rfl rfl 3 (by decide) (hts (.fieldLink RX3 27 "WordFlasher$State" "settings" "[I") (List.mem_of_getElem? (i := 3) rfl)) (fun _ h9 => h9) rfl dX3_measureOf_31 ?_
    refine lv_iconst (v := 1) hx hb dX3_measureOf_34 (by decide) ?_
    obtain ⟨r6, h7, hf⟩ := bnd_el hf
    refine rdN (As := [.ref (aS 2), .int 1]) (rest := [.int x2]) ⟨hx, hb, hml, hown, hts⟩ (c_X5_at l g (aS 2) 7 _ _ _ h7) ⟨va_cnB 2 hts gX3_measureOf_X5_at_n99 rfl rfl rfl (hKW.2 _ (List.mem_of_getElem? (i := 6) rfl)) (hts (.initialized RX5) (List.mem_of_getElem? (i := 9) rfl)) (by decide +kernel) ⟨Nat.le_of_ble_eq_true rfl, Nat.le_of_ble_eq_true rfl⟩, (hts (.static yX5_at) (List.mem_of_getElem? (i := 8) rfl)), trivial⟩ hKW hP [2] rfl rfl hl.1 rfl (lv_room (Nat.le_of_ble_eq_true rfl)) dX3_measureOf_35 ⟨Nat.zero_le _, Nat.zero_le _⟩ (fun r8 q9 => ?_)
    obtain ⟨q9, nb10⟩ := q9
    refine lv_as q9.symm ?_
    obtain ⟨v11, e12, hf⟩ := sl_el hf
    refine va_mmax hx hb (hml.trans hl.1.symm) hown (hts (.methodLink RX3 103 Lib.Math.max.name) (List.mem_of_getElem? (i := 4) rfl)) (hts (.static Lib.Math.max.name) (List.mem_of_getElem? (i := 5) rfl)) (hts (.initialized "java/lang/Math") (List.mem_of_getElem? (i := 6) rfl)) (hts (.code Lib.Math.max.name Lib.Math.max.code 2 (some .int)) (List.mem_of_getElem? (i := 7) rfl)) (Nat.le_of_ble_eq_true rfl) (Nat.le_of_ble_eq_true rfl) (Nat.zero_le _) (Nat.zero_le _) dX3_measureOf_38 ?_
    refine lv_as e12 ?_
    have er0 := Option.some.inj hf
    rw [← hQ0]; exact W.iret (v := v11) hx hb hr (fun t ht hW => ⟨v11, rfl, ⟨er0, trivial⟩, ht⟩) (fun q h => by cases h) dX3_measureOf_41
  refine lv_icmp_le (tgt := 29) hx hb dX3_measureOf_15 (by decide) (fun c13 => ?_) (fun c13 => ?_)
  · have hf := ite_t hf c13
    exact J_29 r1 ls (lv_sub hl [1, 0] rfl) hf
  · have hf := ite_f hf c13
    refine lv_iload_n hx hb dX3_measureOf_18 rfl (lv_at hl 0 rfl) ?_
    refine lv_iload_n hx hb dX3_measureOf_19 rfl (lv_at hl 0 rfl) ?_
    refine lv_bipush (v := 10) hx hb dX3_measureOf_20 (by decide) ?_
    refine lv_isub hx hb dX3_measureOf_22 ?_
    refine lv_iconst (v := 1) hx hb dX3_measureOf_23 (by decide) ?_
    refine lv_iadd hx hb dX3_measureOf_24 ?_
    refine lv_iconst (v := 2) hx hb dX3_measureOf_25 (by decide) ?_
    obtain ⟨z16, v14, e15, hf⟩ := dvA_el hf
    refine lv_idiv hx hb dX3_measureOf_26 z16 ?_
    refine lv_as e15 ?_
    refine lv_isub hx hb dX3_measureOf_27 ?_
    obtain ⟨v17, e18, hf⟩ := sl_el hf
    refine lv_as e18 ?_
    refine lv_istore_n (lv' := [(2, .int v17), (0, .ref (aS 0)), (1, .int p1)]) hx hb dX3_measureOf_28 rfl hl (by decide) rfl (fun ls hl => ?_)
    exact J_29 v17 ls (lv_sub hl [1, 0] rfl) hf
abbrev rmX3_percentOf : Room := { frames := 1, cells := 0, slots := 0, locals := 21 }
set_option maxHeartbeats 8000000 in
set_option maxRecDepth 100000 in
theorem c_X3_percentOf (l : Launch) (g : GG) (aS : Nat → Nat) (aW : Nat → Nat) (aP : Nat → Nat) (aQ : Nat → Nat) (XS : DM) (XW : DM) (p1 : Int32) (r : Int32) (hf : fX3_percentOf XS XW p1 = some r) : Met l yX3_percentOf wsX3_percentOf rmX3_percentOf (va_Pc [.ref (aS 0), .int p1] (fun U => va_P g.1 vwCl (pS g aS (aW 0) XS ++ (pW g aW (aP 0) (aQ 0) XW)) U.heap ∧ KW g U)) (vp_Si (fun r' => r' = r ∧ True)) 0 0 (fun _ => False) := by
  refine Met.ofW (cc := cX3_percentOf) (maxL := 4) (ret := (some .int)) (by decide) rfl ?_
  intro p e s m args below meth c s₁ B hml hv
  obtain ⟨hargs, hP, hKW⟩ := hv
  have hK := hKW.1
  have hx := B.exec
  have hb := B.bytes
  have hr := B.returns
  have hts := atoms_spec (ws := wsX3_percentOf) B.pre
  have hown : s.vm.findClass RX3 = some m.cls := findClass_of_methodNamed B.named
  have hlocks := B.notSynchronized
  have i_X3 : ∀ w ∈ wsX30, w ∈ wsX3_percentOf := fun w h => List.mem_cons_of_mem _ (List.mem_append_left _ (List.mem_append_right _ h))
  have i_X4 : ∀ w ∈ wsX40, w ∈ wsX3_percentOf := fun w h => List.mem_cons_of_mem _ (List.mem_append_right _ h)
  have hent : entryFrame m args 4 = F0 m 0 ((lg_sl ([.ref (aS 0), .int p1]) ++ List.replicate (4 - (lg_sl ([.ref (aS 0), .int p1])).length) Slot.unset).toArray) [] := by rw [hargs]; exact lg_entry_eq _ _ _
  rw [hent]
  have hl := lv_entry ([.ref (aS 0), .int p1]) (n := 4) (Nat.le_of_ble_eq_true rfl)
  generalize (lg_sl ([.ref (aS 0), .int p1]) ++ List.replicate (4 - (lg_sl ([.ref (aS 0), .int p1])).length) Slot.unset).toArray = ls at hl ⊢
  have hl : lv_has ls 4 [(0, .ref (aS 0)), (1, .int p1)] := hl
  generalize hQ0 : MQ below _ _ _ _ _ _ = Q0
  unfold fX3_percentOf at hf
  refine lv_aload_n hx hb dX3_percentOf_0 rfl (lv_at hl 0 rfl) ?_
  refine va_get (D := g.1) (ci := 3) (v := .ref (aW 0)) (C := RX3) (T := TX3) (N := 15) hx hb hts i_X3 hown hK hP 0 rfl rfl 0 (by decide) (hts (.fieldLink RX3 9 "WordFlasher$State" "words" "LWordFlasher$Words;") (List.mem_of_getElem? (i := 1) rfl)) (fun _ h9 => h9) rfl dX3_percentOf_1 ?_
  refine va_get (D := g.1) (ci := 4) (v := .ref (aW 4)) (C := RX4) (T := TX4) (N := 9) hx hb hts i_X4 hown hK hP 7 rfl rfl 3 (by decide) (hts (.fieldLink RX3 109 "WordFlasher$Words" "closings" "[I") (List.mem_of_getElem? (i := 2) rfl)) (fun _ h9 => h9) rfl dX3_percentOf_4 ?_
  refine lv_iload_n hx hb dX3_percentOf_7 rfl (lv_at hl 1 rfl) ?_
  obtain ⟨r1, h2, hf⟩ := bnd_el hf
  refine rdN (As := [.ref (aW 4), .int p1]) (rest := []) ⟨hx, hb, hml, hown, hts⟩ (c_X5_at l g (aW 4) 150 _ _ _ h2) ⟨va_cnB 2 hts gX3_percentOf_X5_at_n99 rfl rfl rfl (hKW.2 _ (List.mem_of_getElem? (i := 6) rfl)) (hts (.initialized RX5) (List.mem_of_getElem? (i := 6) rfl)) (by decide +kernel) ⟨Nat.le_of_ble_eq_true rfl, Nat.le_of_ble_eq_true rfl⟩, (hts (.static yX5_at) (List.mem_of_getElem? (i := 5) rfl)), trivial⟩ hKW hP [11] rfl rfl hl.1 rfl (lv_room (Nat.le_of_ble_eq_true rfl)) dX3_percentOf_8 ⟨Nat.zero_le _, Nat.zero_le _⟩ (fun r3 q4 => ?_)
  obtain ⟨q4, nb5⟩ := q4
  refine lv_as q4.symm ?_
  refine lv_istore_n (lv' := [(2, .int r1), (0, .ref (aS 0)), (1, .int p1)]) hx hb dX3_percentOf_11 rfl hl (by decide) rfl (fun ls hl => ?_)
  refine lv_bipush (v := 100) hx hb dX3_percentOf_12 (by decide) ?_
  refine lv_istore_n (lv' := [(3, .int 100), (2, .int r1), (0, .ref (aS 0)), (1, .int p1)]) hx hb dX3_percentOf_14 rfl hl (by decide) rfl (fun ls hl => ?_)
  refine lv_iload_n hx hb dX3_percentOf_15 rfl (lv_at hl 1 rfl) ?_
  refine lv_iconst (v := 1) hx hb dX3_percentOf_16 (by decide) ?_
  obtain ⟨j46, ej46, hf⟩ := sl_el hf
  have J_46 : ∀ (x1 x3 : Int32) (ls : Array Slot), lv_has ls 4 [(0, .ref (aS 0)), (1, .int x1), (3, .int x3)] → j46 x1 x3 = some r → W p l e (headSpec wsX3_percentOf rmX3_percentOf).room s m args below meth c s.heap [] 0 0 Q0 (F0 m 46 ls []) := by
    intro x1 x3 ls hl hf
    rw [ej46] at hf
    refine lv_aload_n hx hb dX3_percentOf_46 rfl (lv_at hl 0 rfl) ?_
    refine va_get (D := g.1) (ci := 3) (v := .ref (aW 0)) (C := RX3) (T := TX3) (N := 15) hx hb hts i_X3 hown hK hP 0 rfl rfl 0 (by decide) (hts (.fieldLink RX3 9 "WordFlasher$State" "words" "LWordFlasher$Words;") (List.mem_of_getElem? (i := 1) rfl)) (fun _ h9 => h9) rfl dX3_percentOf_47 ?_
    refine va_get (D := g.1) (ci := 4) (v := .ref (aW 5)) (C := RX4) (T := TX4) (N := 9) hx hb hts i_X4 hown hK hP 7 rfl rfl 4 (by decide) (hts (.fieldLink RX3 112 "WordFlasher$Words" "figures" "[I") (List.mem_of_getElem? (i := 4) rfl)) (fun _ h9 => h9) rfl dX3_percentOf_50 ?_
    refine lv_iload_n hx hb dX3_percentOf_53 rfl (lv_at hl 1 rfl) ?_
    obtain ⟨r6, h7, hf⟩ := bnd_el hf
    refine rdN (As := [.ref (aW 5), .int x1]) (rest := []) ⟨hx, hb, hml, hown, hts⟩ (c_X5_at l g (aW 5) 150 _ _ _ h7) ⟨va_cnB 2 hts gX3_percentOf_X5_at_n99 rfl rfl rfl (hKW.2 _ (List.mem_of_getElem? (i := 6) rfl)) (hts (.initialized RX5) (List.mem_of_getElem? (i := 6) rfl)) (by decide +kernel) ⟨Nat.le_of_ble_eq_true rfl, Nat.le_of_ble_eq_true rfl⟩, (hts (.static yX5_at) (List.mem_of_getElem? (i := 5) rfl)), trivial⟩ hKW hP [12] rfl rfl hl.1 rfl (lv_room (Nat.le_of_ble_eq_true rfl)) dX3_percentOf_54 ⟨Nat.zero_le _, Nat.zero_le _⟩ (fun r8 q9 => ?_)
    obtain ⟨q9, nb10⟩ := q9
    refine lv_as q9.symm ?_
    refine lv_iconst (v := 1) hx hb dX3_percentOf_57 (by decide) ?_
    refine lv_icmp_ne (tgt := 75) hx hb dX3_percentOf_58 (by decide) (fun c11 => ?_) (fun c11 => ?_)
    · have hf := ite_f hf c11
      refine lv_iload_n hx hb dX3_percentOf_75 rfl (lv_at hl 2 rfl) ?_
      have er0 := Option.some.inj hf
      rw [← hQ0]; exact W.iret (v := x3) hx hb hr (fun t ht hW => ⟨x3, rfl, ⟨er0, trivial⟩, ht⟩) (fun q h => by cases h) dX3_percentOf_76
    · have hf := ite_t hf c11
      refine lv_iload_n hx hb dX3_percentOf_61 rfl (lv_at hl 2 rfl) ?_
      refine lv_aload_n hx hb dX3_percentOf_62 rfl (lv_at hl 0 rfl) ?_
      refine va_get (D := g.1) (ci := 3) (v := .ref (aS 2)) (C := RX3) (T := TX3) (N := 15) hx hb hts i_X3 hown hK hP 0 rfl rfl 3 (by decide) (hts (.fieldLink RX3 27 "WordFlasher$State" "settings" "[I") (List.mem_of_getElem? (i := 3) rfl)) (fun _ h9 => h9) rfl dX3_percentOf_63 ?_
      refine lv_iconst (v := 4) hx hb dX3_percentOf_66 (by decide) ?_
      obtain ⟨r12, h13, hf⟩ := bnd_el hf
      refine rdN (As := [.ref (aS 2), .int 4]) (rest := [.int x3]) ⟨hx, hb, hml, hown, hts⟩ (c_X5_at l g (aS 2) 7 _ _ _ h13) ⟨va_cnB 2 hts gX3_percentOf_X5_at_n99 rfl rfl rfl (hKW.2 _ (List.mem_of_getElem? (i := 6) rfl)) (hts (.initialized RX5) (List.mem_of_getElem? (i := 6) rfl)) (by decide +kernel) ⟨Nat.le_of_ble_eq_true rfl, Nat.le_of_ble_eq_true rfl⟩, (hts (.static yX5_at) (List.mem_of_getElem? (i := 5) rfl)), trivial⟩ hKW hP [2] rfl rfl hl.1 rfl (lv_room (Nat.le_of_ble_eq_true rfl)) dX3_percentOf_67 ⟨Nat.zero_le _, Nat.zero_le _⟩ (fun r14 q15 => ?_)
      obtain ⟨q15, nb16⟩ := q15
      refine lv_as q15.symm ?_
      refine lv_imul hx hb dX3_percentOf_70 ?_
      refine lv_bipush (v := 100) hx hb dX3_percentOf_71 (by decide) ?_
      obtain ⟨z19, v17, e18, hf⟩ := dvA_el hf
      refine lv_idiv hx hb dX3_percentOf_73 z19 ?_
      refine lv_as e18 ?_
      refine lv_istore_n (lv' := [(3, .int v17), (0, .ref (aS 0)), (1, .int x1)]) hx hb dX3_percentOf_74 rfl hl (by decide) rfl (fun ls hl => ?_)
      refine lv_iload_n hx hb dX3_percentOf_75 rfl (lv_at hl 0 rfl) ?_
      have er0 := Option.some.inj hf
      rw [← hQ0]; exact W.iret (v := v17) hx hb hr (fun t ht hW => ⟨v17, rfl, ⟨er0, trivial⟩, ht⟩) (fun q h => by cases h) dX3_percentOf_76
  refine lv_icmp_ne (tgt := 32) hx hb dX3_percentOf_17 (by decide) (fun c20 => ?_) (fun c20 => ?_)
  · have hf := ite_f hf c20
    refine lv_iload_n hx hb dX3_percentOf_32 rfl (lv_at hl 1 rfl) ?_
    refine lv_iconst (v := 2) hx hb dX3_percentOf_33 (by decide) ?_
    refine lv_icmp_ne (tgt := 46) hx hb dX3_percentOf_34 (by decide) (fun c21 => ?_) (fun c21 => ?_)
    · have hf := ite_f hf c21
      exact J_46 p1 100 ls (lv_sub hl [2, 3, 0] rfl) hf
    · have hf := ite_t hf c21
      refine lv_aload_n hx hb dX3_percentOf_37 rfl (lv_at hl 2 rfl) ?_
      refine va_get (D := g.1) (ci := 3) (v := .ref (aS 2)) (C := RX3) (T := TX3) (N := 15) hx hb hts i_X3 hown hK hP 0 rfl rfl 3 (by decide) (hts (.fieldLink RX3 27 "WordFlasher$State" "settings" "[I") (List.mem_of_getElem? (i := 3) rfl)) (fun _ h9 => h9) rfl dX3_percentOf_38 ?_
      refine lv_iconst (v := 3) hx hb dX3_percentOf_41 (by decide) ?_
      obtain ⟨r22, h23, hf⟩ := bnd_el hf
      refine rdN (As := [.ref (aS 2), .int 3]) (rest := []) ⟨hx, hb, hml, hown, hts⟩ (c_X5_at l g (aS 2) 7 _ _ _ h23) ⟨va_cnB 2 hts gX3_percentOf_X5_at_n99 rfl rfl rfl (hKW.2 _ (List.mem_of_getElem? (i := 6) rfl)) (hts (.initialized RX5) (List.mem_of_getElem? (i := 6) rfl)) (by decide +kernel) ⟨Nat.le_of_ble_eq_true rfl, Nat.le_of_ble_eq_true rfl⟩, (hts (.static yX5_at) (List.mem_of_getElem? (i := 5) rfl)), trivial⟩ hKW hP [2] rfl rfl hl.1 rfl (lv_room (Nat.le_of_ble_eq_true rfl)) dX3_percentOf_42 ⟨Nat.zero_le _, Nat.zero_le _⟩ (fun r24 q25 => ?_)
      obtain ⟨q25, nb26⟩ := q25
      refine lv_as q25.symm ?_
      refine lv_istore_n (lv' := [(3, .int r22), (2, .int r1), (0, .ref (aS 0)), (1, .int p1)]) hx hb dX3_percentOf_45 rfl hl (by decide) rfl (fun ls hl => ?_)
      exact J_46 p1 r22 ls (lv_sub hl [2, 3, 0] rfl) hf
  · have hf := ite_t hf c20
    refine lv_aload_n hx hb dX3_percentOf_20 rfl (lv_at hl 2 rfl) ?_
    refine va_get (D := g.1) (ci := 3) (v := .ref (aS 2)) (C := RX3) (T := TX3) (N := 15) hx hb hts i_X3 hown hK hP 0 rfl rfl 3 (by decide) (hts (.fieldLink RX3 27 "WordFlasher$State" "settings" "[I") (List.mem_of_getElem? (i := 3) rfl)) (fun _ h9 => h9) rfl dX3_percentOf_21 ?_
    refine lv_iconst (v := 2) hx hb dX3_percentOf_24 (by decide) ?_
    obtain ⟨r27, h28, hf⟩ := bnd_el hf
    refine rdN (As := [.ref (aS 2), .int 2]) (rest := []) ⟨hx, hb, hml, hown, hts⟩ (c_X5_at l g (aS 2) 7 _ _ _ h28) ⟨va_cnB 2 hts gX3_percentOf_X5_at_n99 rfl rfl rfl (hKW.2 _ (List.mem_of_getElem? (i := 6) rfl)) (hts (.initialized RX5) (List.mem_of_getElem? (i := 6) rfl)) (by decide +kernel) ⟨Nat.le_of_ble_eq_true rfl, Nat.le_of_ble_eq_true rfl⟩, (hts (.static yX5_at) (List.mem_of_getElem? (i := 5) rfl)), trivial⟩ hKW hP [2] rfl rfl hl.1 rfl (lv_room (Nat.le_of_ble_eq_true rfl)) dX3_percentOf_25 ⟨Nat.zero_le _, Nat.zero_le _⟩ (fun r29 q30 => ?_)
    obtain ⟨q30, nb31⟩ := q30
    refine lv_as q30.symm ?_
    refine lv_istore_n (lv' := [(3, .int r27), (2, .int r1), (0, .ref (aS 0)), (1, .int p1)]) hx hb dX3_percentOf_28 rfl hl (by decide) rfl (fun ls hl => ?_)
    refine lv_goto (tgt := 46) hx hb dX3_percentOf_29 (by decide) ?_
    exact J_46 p1 r27 ls (lv_sub hl [2, 3, 0] rfl) hf
abbrev rmX3_timeWith : Room := { frames := 2, cells := 0, slots := 0, locals := 44 }
set_option maxHeartbeats 8000000 in
set_option maxRecDepth 100000 in
theorem c_X3_timeWith (l : Launch) (g : GG) (aS : Nat → Nat) (aW : Nat → Nat) (aP : Nat → Nat) (aQ : Nat → Nat) (XS : DM) (XW : DM) (p1 p2 : Int32) (r : Int32) (hf : fX3_timeWith XS XW p1 p2 = some r) : Met l yX3_timeWith wsX3_timeWith rmX3_timeWith (va_Pc [.ref (aS 0), .int p1, .int p2] (fun U => va_P g.1 vwCl (pS g aS (aW 0) XS ++ (pW g aW (aP 0) (aQ 0) XW)) U.heap ∧ KW g U)) (vp_Si (fun r' => r' = r ∧ True)) 0 0 (fun _ => False) := by
  refine Met.ofW (cc := cX3_timeWith) (maxL := 4) (ret := (some .int)) (by decide) rfl ?_
  intro p e s m args below meth c s₁ B hml hv
  obtain ⟨hargs, hP, hKW⟩ := hv
  have hK := hKW.1
  have hx := B.exec
  have hb := B.bytes
  have hr := B.returns
  have hts := atoms_spec (ws := wsX3_timeWith) B.pre
  have hown : s.vm.findClass RX3 = some m.cls := findClass_of_methodNamed B.named
  have hlocks := B.notSynchronized
  have i_X3 : ∀ w ∈ wsX30, w ∈ wsX3_timeWith := fun w h => List.mem_cons_of_mem _ (List.mem_append_left _ (List.mem_append_right _ h))
  have i_X4 : ∀ w ∈ wsX40, w ∈ wsX3_timeWith := fun w h => List.mem_cons_of_mem _ (List.mem_append_right _ h)
  have hent : entryFrame m args 4 = F0 m 0 ((lg_sl ([.ref (aS 0), .int p1, .int p2]) ++ List.replicate (4 - (lg_sl ([.ref (aS 0), .int p1, .int p2])).length) Slot.unset).toArray) [] := by rw [hargs]; exact lg_entry_eq _ _ _
  rw [hent]
  have hl := lv_entry ([.ref (aS 0), .int p1, .int p2]) (n := 4) (Nat.le_of_ble_eq_true rfl)
  generalize (lg_sl ([.ref (aS 0), .int p1, .int p2]) ++ List.replicate (4 - (lg_sl ([.ref (aS 0), .int p1, .int p2])).length) Slot.unset).toArray = ls at hl ⊢
  have hl : lv_has ls 4 [(0, .ref (aS 0)), (1, .int p1), (2, .int p2)] := hl
  generalize hQ0 : MQ below _ _ _ _ _ _ = Q0
  unfold fX3_timeWith at hf
  refine lv_iload_n hx hb dX3_timeWith_0 rfl (lv_at hl 2 rfl) ?_
  refine lv_if_le (tgt := 15) hx hb dX3_timeWith_1 (by decide) (fun c1 => ?_) (fun c1 => ?_)
  · have hf := ite_t hf c1
    refine lv_iconst (v := 0) hx hb dX3_timeWith_15 (by decide) ?_
    have er0 := Option.some.inj hf
    rw [← hQ0]; exact W.iret (v := 0) hx hb hr (fun t ht hW => ⟨0, rfl, ⟨er0, trivial⟩, ht⟩) (fun q h => by cases h) dX3_timeWith_16
  · have hf := ite_f hf c1
    refine lv_aload_n hx hb dX3_timeWith_4 rfl (lv_at hl 0 rfl) ?_
    refine va_get (D := g.1) (ci := 3) (v := .ref (aW 0)) (C := RX3) (T := TX3) (N := 15) hx hb hts i_X3 hown hK hP 0 rfl rfl 0 (by decide) (hts (.fieldLink RX3 9 "WordFlasher$State" "words" "LWordFlasher$Words;") (List.mem_of_getElem? (i := 1) rfl)) (fun _ h9 => h9) rfl dX3_timeWith_5 ?_
    refine lv_iload_n hx hb dX3_timeWith_8 rfl (lv_at hl 1 rfl) ?_
    obtain ⟨r2, h3, hf⟩ := bnd_el hf
    refine rdV (As := [.int p1]) (rest := []) ⟨hx, hb, hml, hown, hts⟩ (c_X4_isMark l g aW aP aQ _ _ _ h3) (cwV 1 hts gX3_timeWith_X4_isMark rfl rfl rfl (by decide +kernel) ⟨Nat.le_of_ble_eq_true rfl, Nat.le_of_ble_eq_true rfl⟩) hKW hP [7, 8, 9, 10, 11, 12, 13] rfl (va_recv hK hP (ci := 4) (q0 := 7) rfl rfl) rfl hl.1 rfl (lv_room (Nat.le_of_ble_eq_true rfl)) dX3_timeWith_9 ⟨Nat.zero_le _, Nat.zero_le _⟩ (fun r4 q5 => ?_)
    obtain ⟨q5, nb6⟩ := q5
    refine lv_as q5.symm ?_
    rw [q5] at nb6
    refine lv_if_eq (tgt := 17) hx hb dX3_timeWith_12 (by decide) (fun c7 => ?_) (fun c7 => ?_)
    · have hf := ite_t hf c7
      refine lv_aload_n hx hb dX3_timeWith_17 rfl (lv_at hl 0 rfl) ?_
      refine lv_iload_n hx hb dX3_timeWith_18 rfl (lv_at hl 1 rfl) ?_
      obtain ⟨r8, h9, hf⟩ := bnd_el hf
      refine rdV (As := [.int p1]) (rest := []) ⟨hx, hb, hml, hown, hts⟩ (c_X3_measureOf l g aS aW aP aQ _ _ _ _ h9) (cwV 1 hts gX3_timeWith_X3_measureOf rfl rfl rfl (by decide +kernel) ⟨Nat.le_of_ble_eq_true rfl, Nat.le_of_ble_eq_true rfl⟩) hKW hP [0, 1, 2, 3, 4, 5, 6, 7, 8, 9, 10, 11, 12, 13] rfl (va_recv hK hP (ci := 3) (q0 := 0) rfl rfl) rfl hl.1 rfl (lv_room (Nat.le_of_ble_eq_true rfl)) dX3_timeWith_19 ⟨Nat.zero_le _, Nat.zero_le _⟩ (fun r10 q11 => ?_)
      obtain ⟨q11, nb12⟩ := q11
      refine lv_as q11.symm ?_
      refine lv_aload_n hx hb dX3_timeWith_22 rfl (lv_at hl 0 rfl) ?_
      refine va_get (D := g.1) (ci := 3) (v := .ref (aS 2)) (C := RX3) (T := TX3) (N := 15) hx hb hts i_X3 hown hK hP 0 rfl rfl 3 (by decide) (hts (.fieldLink RX3 27 "WordFlasher$State" "settings" "[I") (List.mem_of_getElem? (i := 2) rfl)) (fun _ h9 => h9) rfl dX3_timeWith_23 ?_
      refine lv_iconst (v := 0) hx hb dX3_timeWith_26 (by decide) ?_
      obtain ⟨r13, h14, hf⟩ := bnd_el hf
      refine rdN (As := [.ref (aS 2), .int 0]) (rest := [.int r8]) ⟨hx, hb, hml, hown, hts⟩ (c_X5_at l g (aS 2) 7 _ _ _ h14) ⟨va_cnB 2 hts gX3_timeWith_X5_at_n99 rfl rfl rfl (hKW.2 _ (List.mem_of_getElem? (i := 6) rfl)) (hts (.initialized RX5) (List.mem_of_getElem? (i := 10) rfl)) (by decide +kernel) ⟨Nat.le_of_ble_eq_true rfl, Nat.le_of_ble_eq_true rfl⟩, (hts (.static yX5_at) (List.mem_of_getElem? (i := 9) rfl)), trivial⟩ hKW hP [2] rfl rfl hl.1 rfl (lv_room (Nat.le_of_ble_eq_true rfl)) dX3_timeWith_27 ⟨Nat.zero_le _, Nat.zero_le _⟩ (fun r15 q16 => ?_)
      obtain ⟨q16, nb17⟩ := q16
      refine lv_as q16.symm ?_
      refine lv_imul hx hb dX3_timeWith_30 ?_
      refine lv_aload_n hx hb dX3_timeWith_31 rfl (lv_at hl 0 rfl) ?_
      refine lv_iload_n hx hb dX3_timeWith_32 rfl (lv_at hl 1 rfl) ?_
      obtain ⟨r18, h19, hf⟩ := bnd_el hf
      refine rdV (As := [.int p1]) (rest := [.int (r8 * r13)]) ⟨hx, hb, hml, hown, hts⟩ (c_X3_percentOf l g aS aW aP aQ _ _ _ _ h19) (cwV 1 hts gX3_timeWith_X3_percentOf rfl rfl rfl (by decide +kernel) ⟨Nat.le_of_ble_eq_true rfl, Nat.le_of_ble_eq_true rfl⟩) hKW hP [0, 1, 2, 3, 4, 5, 6, 7, 8, 9, 10, 11, 12, 13] rfl (va_recv hK hP (ci := 3) (q0 := 0) rfl rfl) rfl hl.1 rfl (lv_room (Nat.le_of_ble_eq_true rfl)) dX3_timeWith_33 ⟨Nat.zero_le _, Nat.zero_le _⟩ (fun r20 q21 => ?_)
      obtain ⟨q21, nb22⟩ := q21
      refine lv_as q21.symm ?_
      refine lv_imul hx hb dX3_timeWith_36 ?_
      obtain ⟨v23, e24, hf⟩ := sl_el hf
      refine lv_as e24 ?_
      refine lv_istore_n (lv' := [(3, .int v23), (0, .ref (aS 0)), (1, .int p1), (2, .int p2)]) hx hb dX3_timeWith_37 rfl hl (by decide) rfl (fun ls hl => ?_)
      refine lv_iload_n hx hb dX3_timeWith_38 rfl (lv_at hl 0 rfl) ?_
      refine lv_iload_n hx hb dX3_timeWith_39 rfl (lv_at hl 3 rfl) ?_
      refine lv_iadd hx hb dX3_timeWith_40 ?_
      refine lv_iconst (v := 1) hx hb dX3_timeWith_41 (by decide) ?_
      refine lv_isub hx hb dX3_timeWith_42 ?_
      refine lv_iload_n hx hb dX3_timeWith_43 rfl (lv_at hl 3 rfl) ?_
      obtain ⟨z27, v25, e26, hf⟩ := dvA_el hf
      refine lv_idiv hx hb dX3_timeWith_44 z27 ?_
      refine lv_as e26 ?_
      have er0 := Option.some.inj hf
      rw [← hQ0]; exact W.iret (v := v25) hx hb hr (fun t ht hW => ⟨v25, rfl, ⟨er0, trivial⟩, ht⟩) (fun q h => by cases h) dX3_timeWith_45
    · have hf := ite_f hf c7
      refine lv_iconst (v := 0) hx hb dX3_timeWith_15 (by decide) ?_
      have er0 := Option.some.inj hf
      rw [← hQ0]; exact W.iret (v := 0) hx hb hr (fun t ht hW => ⟨0, rfl, ⟨er0, trivial⟩, ht⟩) (fun q h => by cases h) dX3_timeWith_16
abbrev rmX3_speedOf : Room := { frames := 2, cells := 0, slots := 0, locals := 43 }
set_option maxHeartbeats 8000000 in
set_option maxRecDepth 100000 in
theorem c_X3_speedOf (l : Launch) (g : GG) (aS : Nat → Nat) (aW : Nat → Nat) (aP : Nat → Nat) (aQ : Nat → Nat) (XS : DM) (XW : DM) (p1 : Int32) (r : Int32) (hf : fX3_speedOf XS XW p1 = some r) : Met l yX3_speedOf wsX3_speedOf rmX3_speedOf (va_Pc [.ref (aS 0), .int p1] (fun U => va_P g.1 vwCl (pS g aS (aW 0) XS ++ (pW g aW (aP 0) (aQ 0) XW)) U.heap ∧ KW g U)) (vp_Si (fun r' => r' = r ∧ True)) 0 0 (fun _ => False) := by
  refine Met.ofW (cc := cX3_speedOf) (maxL := 2) (ret := (some .int)) (by decide) rfl ?_
  intro p e s m args below meth c s₁ B hml hv
  obtain ⟨hargs, hP, hKW⟩ := hv
  have hK := hKW.1
  have hx := B.exec
  have hb := B.bytes
  have hr := B.returns
  have hts := atoms_spec (ws := wsX3_speedOf) B.pre
  have hown : s.vm.findClass RX3 = some m.cls := findClass_of_methodNamed B.named
  have hlocks := B.notSynchronized
  have i_X3 : ∀ w ∈ wsX30, w ∈ wsX3_speedOf := fun w h => List.mem_cons_of_mem _ (List.mem_append_left _ (List.mem_append_right _ h))
  have i_X4 : ∀ w ∈ wsX40, w ∈ wsX3_speedOf := fun w h => List.mem_cons_of_mem _ (List.mem_append_right _ h)
  have hent : entryFrame m args 2 = F0 m 0 ((lg_sl ([.ref (aS 0), .int p1]) ++ List.replicate (2 - (lg_sl ([.ref (aS 0), .int p1])).length) Slot.unset).toArray) [] := by rw [hargs]; exact lg_entry_eq _ _ _
  rw [hent]
  have hl := lv_entry ([.ref (aS 0), .int p1]) (n := 2) (Nat.le_of_ble_eq_true rfl)
  generalize (lg_sl ([.ref (aS 0), .int p1]) ++ List.replicate (2 - (lg_sl ([.ref (aS 0), .int p1])).length) Slot.unset).toArray = ls at hl ⊢
  have hl : lv_has ls 2 [(0, .ref (aS 0)), (1, .int p1)] := hl
  generalize hQ0 : MQ below _ _ _ _ _ _ = Q0
  unfold fX3_speedOf at hf
  refine lv_aload_n hx hb dX3_speedOf_0 rfl (lv_at hl 0 rfl) ?_
  refine va_get (D := g.1) (ci := 3) (v := .ref (aS 3)) (C := RX3) (T := TX3) (N := 15) hx hb hts i_X3 hown hK hP 0 rfl rfl 4 (by decide) (hts (.fieldLink RX3 30 "WordFlasher$State" "speeds" "[I") (List.mem_of_getElem? (i := 1) rfl)) (fun _ h9 => h9) rfl dX3_speedOf_1 ?_
  refine lv_aload_n hx hb dX3_speedOf_4 rfl (lv_at hl 0 rfl) ?_
  refine va_get (D := g.1) (ci := 3) (v := .ref (aW 0)) (C := RX3) (T := TX3) (N := 15) hx hb hts i_X3 hown hK hP 0 rfl rfl 0 (by decide) (hts (.fieldLink RX3 9 "WordFlasher$State" "words" "LWordFlasher$Words;") (List.mem_of_getElem? (i := 2) rfl)) (fun _ h9 => h9) rfl dX3_speedOf_5 ?_
  refine lv_iload_n hx hb dX3_speedOf_8 rfl (lv_at hl 1 rfl) ?_
  obtain ⟨r1, h2, hf⟩ := bnd_el hf
  refine rdV (As := [.int p1]) (rest := [.ref (aS 3)]) ⟨hx, hb, hml, hown, hts⟩ (c_X4_classOf l g aW aP aQ _ _ _ h2) (cwV 1 hts gX3_speedOf_X4_classOf rfl rfl rfl (by decide +kernel) ⟨Nat.le_of_ble_eq_true rfl, Nat.le_of_ble_eq_true rfl⟩) hKW hP [7, 8, 9, 10, 11, 12, 13] rfl (va_recv hK hP (ci := 4) (q0 := 7) rfl rfl) rfl hl.1 rfl (lv_room (Nat.le_of_ble_eq_true rfl)) dX3_speedOf_9 ⟨Nat.zero_le _, Nat.zero_le _⟩ (fun r3 q4 => ?_)
  obtain ⟨q4, nb5⟩ := q4
  refine lv_as q4.symm ?_
  obtain ⟨r6, h7, hf⟩ := bnd_el hf
  refine rdN (As := [.ref (aS 3), .int r1]) (rest := []) ⟨hx, hb, hml, hown, hts⟩ (c_X5_at l g (aS 3) 3 _ _ _ h7) ⟨va_cnB 2 hts gX3_speedOf_X5_at_n99 rfl rfl rfl (hKW.2 _ (List.mem_of_getElem? (i := 6) rfl)) (hts (.initialized RX5) (List.mem_of_getElem? (i := 10) rfl)) (by decide +kernel) ⟨Nat.le_of_ble_eq_true rfl, Nat.le_of_ble_eq_true rfl⟩, (hts (.static yX5_at) (List.mem_of_getElem? (i := 9) rfl)), trivial⟩ hKW hP [3] rfl rfl hl.1 rfl (lv_room (Nat.le_of_ble_eq_true rfl)) dX3_speedOf_12 ⟨Nat.zero_le _, Nat.zero_le _⟩ (fun r8 q9 => ?_)
  obtain ⟨q9, nb10⟩ := q9
  refine lv_as q9.symm ?_
  have er0 := Option.some.inj hf
  rw [← hQ0]; exact W.iret (v := r6) hx hb hr (fun t ht hW => ⟨r6, rfl, ⟨er0, trivial⟩, ht⟩) (fun q h => by cases h) dX3_speedOf_15
abbrev rmX3_timeOf : Room := { frames := 3, cells := 0, slots := 0, locals := 67 }
set_option maxHeartbeats 8000000 in
set_option maxRecDepth 100000 in
theorem c_X3_timeOf (l : Launch) (g : GG) (aS : Nat → Nat) (aW : Nat → Nat) (aP : Nat → Nat) (aQ : Nat → Nat) (XS : DM) (XW : DM) (p1 : Int32) (r : Int32) (hf : fX3_timeOf XS XW p1 = some r) : Met l yX3_timeOf wsX3_timeOf rmX3_timeOf (va_Pc [.ref (aS 0), .int p1] (fun U => va_P g.1 vwCl (pS g aS (aW 0) XS ++ (pW g aW (aP 0) (aQ 0) XW)) U.heap ∧ KW g U)) (vp_Si (fun r' => r' = r ∧ True)) 0 0 (fun _ => False) := by
  refine Met.ofW (cc := cX3_timeOf) (maxL := 2) (ret := (some .int)) (by decide) rfl ?_
  intro p e s m args below meth c s₁ B hml hv
  obtain ⟨hargs, hP, hKW⟩ := hv
  have hK := hKW.1
  have hx := B.exec
  have hb := B.bytes
  have hr := B.returns
  have hts := atoms_spec (ws := wsX3_timeOf) B.pre
  have hown : s.vm.findClass RX3 = some m.cls := findClass_of_methodNamed B.named
  have hlocks := B.notSynchronized
  have i_X3 : ∀ w ∈ wsX30, w ∈ wsX3_timeOf := fun w h => List.mem_cons_of_mem _ (List.mem_append_left _ (List.mem_append_right _ h))
  have i_X4 : ∀ w ∈ wsX40, w ∈ wsX3_timeOf := fun w h => List.mem_cons_of_mem _ (List.mem_append_right _ h)
  have hent : entryFrame m args 2 = F0 m 0 ((lg_sl ([.ref (aS 0), .int p1]) ++ List.replicate (2 - (lg_sl ([.ref (aS 0), .int p1])).length) Slot.unset).toArray) [] := by rw [hargs]; exact lg_entry_eq _ _ _
  rw [hent]
  have hl := lv_entry ([.ref (aS 0), .int p1]) (n := 2) (Nat.le_of_ble_eq_true rfl)
  generalize (lg_sl ([.ref (aS 0), .int p1]) ++ List.replicate (2 - (lg_sl ([.ref (aS 0), .int p1])).length) Slot.unset).toArray = ls at hl ⊢
  have hl : lv_has ls 2 [(0, .ref (aS 0)), (1, .int p1)] := hl
  generalize hQ0 : MQ below _ _ _ _ _ _ = Q0
  unfold fX3_timeOf at hf
  refine lv_aload_n hx hb dX3_timeOf_0 rfl (lv_at hl 0 rfl) ?_
  refine lv_iload_n hx hb dX3_timeOf_1 rfl (lv_at hl 1 rfl) ?_
  refine lv_aload_n hx hb dX3_timeOf_2 rfl (lv_at hl 0 rfl) ?_
  refine lv_iload_n hx hb dX3_timeOf_3 rfl (lv_at hl 1 rfl) ?_
  obtain ⟨r1, h2, hf⟩ := bnd_el hf
  refine rdV (As := [.int p1]) (rest := [.int p1, .ref (aS 0)]) ⟨hx, hb, hml, hown, hts⟩ (c_X3_speedOf l g aS aW aP aQ _ _ _ _ h2) (cwV 1 hts gX3_timeOf_X3_speedOf rfl rfl rfl (by decide +kernel) ⟨Nat.le_of_ble_eq_true rfl, Nat.le_of_ble_eq_true rfl⟩) hKW hP [0, 1, 2, 3, 4, 5, 6, 7, 8, 9, 10, 11, 12, 13] rfl (va_recv hK hP (ci := 3) (q0 := 0) rfl rfl) rfl hl.1 rfl (lv_room (Nat.le_of_ble_eq_true rfl)) dX3_timeOf_4 ⟨Nat.zero_le _, Nat.zero_le _⟩ (fun r3 q4 => ?_)
  obtain ⟨q4, nb5⟩ := q4
  refine lv_as q4.symm ?_
  obtain ⟨r6, h7, hf⟩ := bnd_el hf
  refine rdV (As := [.int p1, .int r1]) (rest := []) ⟨hx, hb, hml, hown, hts⟩ (c_X3_timeWith l g aS aW aP aQ _ _ _ _ _ h7) (cwV 2 hts gX3_timeOf_X3_timeWith rfl rfl rfl (by decide +kernel) ⟨Nat.le_of_ble_eq_true rfl, Nat.le_of_ble_eq_true rfl⟩) hKW hP [0, 1, 2, 3, 4, 5, 6, 7, 8, 9, 10, 11, 12, 13] rfl (va_recv hK hP (ci := 3) (q0 := 0) rfl rfl) rfl hl.1 rfl (lv_room (Nat.le_of_ble_eq_true rfl)) dX3_timeOf_7 ⟨Nat.zero_le _, Nat.zero_le _⟩ (fun r8 q9 => ?_)
  obtain ⟨q9, nb10⟩ := q9
  refine lv_as q9.symm ?_
  have er0 := Option.some.inj hf
  rw [← hQ0]; exact W.iret (v := r6) hx hb hr (fun t ht hW => ⟨r6, rfl, ⟨er0, trivial⟩, ht⟩) (fun q h => by cases h) dX3_timeOf_10
abbrev rmX3_timeOfAll : Room := { frames := 4, cells := 0, slots := 0, locals := 88 }
set_option maxHeartbeats 8000000 in
set_option maxRecDepth 100000 in
theorem c_X3_timeOfAll (l : Launch) (g : GG) (aS : Nat → Nat) (aW : Nat → Nat) (aP : Nat → Nat) (aQ : Nat → Nat) (n : Nat) (XS : DM) (XW : DM) (p1 p2 : Int32) (r : Int32) (hf : fX3_timeOfAll n XS XW p1 p2 = some r) : Met l yX3_timeOfAll wsX3_timeOfAll rmX3_timeOfAll (va_Pc [.ref (aS 0), .int p1, .int p2] (fun U => va_P g.1 vwCl (pS g aS (aW 0) XS ++ (pW g aW (aP 0) (aQ 0) XW)) U.heap ∧ KW g U)) (vp_Si (fun r' => r' = r ∧ True)) 0 0 (fun _ => False) := by
  refine Met.ofW (cc := cX3_timeOfAll) (maxL := 5) (ret := (some .int)) (by decide) rfl ?_
  intro p e s m args below meth c s₁ B hml hv
  obtain ⟨hargs, hP, hKW⟩ := hv
  have hK := hKW.1
  have hx := B.exec
  have hb := B.bytes
  have hr := B.returns
  have hts := atoms_spec (ws := wsX3_timeOfAll) B.pre
  have hown : s.vm.findClass RX3 = some m.cls := findClass_of_methodNamed B.named
  have hlocks := B.notSynchronized
  have i_X3 : ∀ w ∈ wsX30, w ∈ wsX3_timeOfAll := fun w h => List.mem_cons_of_mem _ (List.mem_append_left _ (List.mem_append_right _ h))
  have i_X4 : ∀ w ∈ wsX40, w ∈ wsX3_timeOfAll := fun w h => List.mem_cons_of_mem _ (List.mem_append_right _ h)
  have hent : entryFrame m args 5 = F0 m 0 ((lg_sl ([.ref (aS 0), .int p1, .int p2]) ++ List.replicate (5 - (lg_sl ([.ref (aS 0), .int p1, .int p2])).length) Slot.unset).toArray) [] := by rw [hargs]; exact lg_entry_eq _ _ _
  rw [hent]
  have hl := lv_entry ([.ref (aS 0), .int p1, .int p2]) (n := 5) (Nat.le_of_ble_eq_true rfl)
  generalize (lg_sl ([.ref (aS 0), .int p1, .int p2]) ++ List.replicate (5 - (lg_sl ([.ref (aS 0), .int p1, .int p2])).length) Slot.unset).toArray = ls at hl ⊢
  have hl : lv_has ls 5 [(0, .ref (aS 0)), (1, .int p1), (2, .int p2)] := hl
  generalize hQ0 : MQ below _ _ _ _ _ _ = Q0
  unfold fX3_timeOfAll at hf
  refine lv_iconst (v := 0) hx hb dX3_timeOfAll_0 (by decide) ?_
  refine lv_istore_n (lv' := [(3, .int 0), (0, .ref (aS 0)), (1, .int p1), (2, .int p2)]) hx hb dX3_timeOfAll_1 rfl hl (by decide) rfl (fun ls hl => ?_)
  refine lv_iload_n hx hb dX3_timeOfAll_2 rfl (lv_at hl 2 rfl) ?_
  refine lv_istore (lv' := [(4, .int p1), (3, .int 0), (0, .ref (aS 0)), (1, .int p1), (2, .int p2)]) hx hb dX3_timeOfAll_3 hl (by decide) rfl (fun ls hl => ?_)
  have L_5 : ∀ fu : Nat, ∀ (x2 x3 x4 : Int32) (ls : Array Slot), lv_has ls 5 [(0, .ref (aS 0)), (2, .int x2), (3, .int x3), (4, .int x4)] → fX3_timeOfAll_L5 n XS XW fu x2 x3 x4 = some r → W p l e (headSpec wsX3_timeOfAll rmX3_timeOfAll).room s m args below meth c s.heap [] 0 0 Q0 (F0 m 5 ls []) := by
    intro fu
    induction fu with
    | zero => intros; rename_i hf; rw [fX3_timeOfAll_L5] at hf; cases hf
    | succ fu ih =>
      intro x2 x3 x4 ls hl hf
      rw [fX3_timeOfAll_L5] at hf
      refine lv_iload hx hb dX3_timeOfAll_5 (lv_at hl 3 rfl) ?_
      refine lv_iload_n hx hb dX3_timeOfAll_7 rfl (lv_at hl 1 rfl) ?_
      refine lv_icmp_gt (tgt := 26) hx hb dX3_timeOfAll_8 (by decide) (fun c1 => ?_) (fun c1 => ?_)
      · have hf := ite_t hf c1
        refine lv_iload_n hx hb dX3_timeOfAll_26 rfl (lv_at hl 2 rfl) ?_
        have er0 := Option.some.inj hf
        rw [← hQ0]; exact W.iret (v := x3) hx hb hr (fun t ht hW => ⟨x3, rfl, ⟨er0, trivial⟩, ht⟩) (fun q h => by cases h) dX3_timeOfAll_27
      · have hf := ite_f hf c1
        refine lv_iload_n hx hb dX3_timeOfAll_11 rfl (lv_at hl 2 rfl) ?_
        refine lv_aload_n hx hb dX3_timeOfAll_12 rfl (lv_at hl 0 rfl) ?_
        refine lv_iload hx hb dX3_timeOfAll_13 (lv_at hl 3 rfl) ?_
        obtain ⟨r2, h3, hf⟩ := bnd_el hf
        refine rdV (As := [.int x4]) (rest := [.int x3]) ⟨hx, hb, hml, hown, hts⟩ (c_X3_timeOf l g aS aW aP aQ _ _ _ _ h3) (cwV 1 hts gX3_timeOfAll_X3_timeOf rfl rfl rfl (by decide +kernel) ⟨Nat.le_of_ble_eq_true rfl, Nat.le_of_ble_eq_true rfl⟩) hKW hP [0, 1, 2, 3, 4, 5, 6, 7, 8, 9, 10, 11, 12, 13] rfl (va_recv hK hP (ci := 3) (q0 := 0) rfl rfl) rfl hl.1 rfl (lv_room (Nat.le_of_ble_eq_true rfl)) dX3_timeOfAll_15 ⟨Nat.zero_le _, Nat.zero_le _⟩ (fun r4 q5 => ?_)
        obtain ⟨q5, nb6⟩ := q5
        refine lv_as q5.symm ?_
        refine lv_iadd hx hb dX3_timeOfAll_18 ?_
        obtain ⟨v7, e8, hf⟩ := sl_el hf
        refine lv_as e8 ?_
        refine lv_istore_n (lv' := [(3, .int v7), (0, .ref (aS 0)), (2, .int x2), (4, .int x4)]) hx hb dX3_timeOfAll_19 rfl hl (by decide) rfl (fun ls hl => ?_)
        obtain ⟨v9, e10, hf⟩ := sl_el hf
        refine lv_iinc (v := v9) (lv' := [(4, .int v9), (3, .int v7), (0, .ref (aS 0)), (2, .int x2)]) hx hb dX3_timeOfAll_20 hl (k := 3) rfl (by rw [e10]; rfl) (by decide) rfl (fun ls hl => ?_)
        refine lv_goto (tgt := 5) hx hb dX3_timeOfAll_23 (by decide) ?_
        exact ih x2 v7 v9 ls (lv_sub hl [2, 3, 1, 0] rfl) hf
  exact L_5 n p2 0 p1 ls (lv_sub hl [2, 4, 1, 0] rfl) hf
abbrev rmX3_becomePresent : Room := { frames := 3, cells := 0, slots := 0, locals := 67 }
set_option maxHeartbeats 8000000 in
set_option maxRecDepth 100000 in
theorem c_X3_becomePresent (l : Launch) (g : GG) (aS : Nat → Nat) (aW : Nat → Nat) (aP : Nat → Nat) (aQ : Nat → Nat) (sz : Nat) (n : Nat) (XS : DM) (XW : DM) (p1 : Int32) (XSz : DM) (hf : fX3_becomePresent n XS XW p1 = some XSz) : Met l yX3_becomePresent wsX3_becomePresent rmX3_becomePresent (va_Pc [.ref (aS 0), .int p1] (fun U => U.heap.size = sz ∧ va_P g.1 vwCl (pS g aS (aW 0) XS ++ (pW g aW (aP 0) (aQ 0) XW)) U.heap ∧ KW g U ∧ va_D (fun _ => True) (pS g aS (aW 0) XS ++ (pW g aW (aP 0) (aQ 0) XW)))) (va_Qv (fun (_ : Unit) => True) (fun (_ : Unit) t => va_P g.1 vwCl (pS g aS (aW 0) XSz ++ (pW g aW (aP 0) (aQ 0) XW)) t.heap) (va_A (pS g aS (aW 0) XS ++ (pW g aW (aP 0) (aQ 0) XW)) sz)) 0 0 (va_A (pS g aS (aW 0) XS ++ (pW g aW (aP 0) (aQ 0) XW)) sz) := by
  refine Met.ofW (cc := cX3_becomePresent) (maxL := 3) (ret := none) (by decide) rfl ?_
  intro p e s m args below meth c s₁ B hml hv
  obtain ⟨hargs, hsz, hP, hKW, hD0⟩ := hv
  have hK := hKW.1
  have hx := B.exec
  have hb := B.bytes
  have hr := B.returns
  have hts := atoms_spec (ws := wsX3_becomePresent) B.pre
  have hown : s.vm.findClass RX3 = some m.cls := findClass_of_methodNamed B.named
  have hlocks := B.notSynchronized
  subst hsz
  have hD := hD0.self (sz := s.heap.size)
  generalize hAe : va_A (pS g aS (aW 0) XS ++ (pW g aW (aP 0) (aQ 0) XW)) s.heap.size = A at hD ⊢
  have hA : ∀ q : Nat, s.heap.size ≤ q → A q := fun q h => by rw [← hAe]; exact Or.inr h
  have hS : va_S A s.heap s.heap [] := va_S.rf
  have i_X3 : ∀ w ∈ wsX30, w ∈ wsX3_becomePresent := fun w h => List.mem_cons_of_mem _ (List.mem_append_left _ (List.mem_append_right _ h))
  have i_X4 : ∀ w ∈ wsX40, w ∈ wsX3_becomePresent := fun w h => List.mem_cons_of_mem _ (List.mem_append_right _ h)
  have hent : entryFrame m args 3 = F0 m 0 ((lg_sl ([.ref (aS 0), .int p1]) ++ List.replicate (3 - (lg_sl ([.ref (aS 0), .int p1])).length) Slot.unset).toArray) [] := by rw [hargs]; exact lg_entry_eq _ _ _
  rw [hent]
  have hl := lv_entry ([.ref (aS 0), .int p1]) (n := 3) (Nat.le_of_ble_eq_true rfl)
  generalize (lg_sl ([.ref (aS 0), .int p1]) ++ List.replicate (3 - (lg_sl ([.ref (aS 0), .int p1])).length) Slot.unset).toArray = ls at hl ⊢
  have hl : lv_has ls 3 [(0, .ref (aS 0)), (1, .int p1)] := hl
  generalize hQ0 : MQ below _ _ _ _ _ _ = Q0
  unfold fX3_becomePresent at hf
  refine lv_aload_n hx hb dX3_becomePresent_0 rfl (lv_at hl 0 rfl) ?_
  refine va_get (D := g.1) (ci := 3) (v := .ref (aW 0)) (C := RX3) (T := TX3) (N := 15) hx hb hts i_X3 hown hK hP 0 rfl rfl 0 (by decide) (hts (.fieldLink RX3 9 "WordFlasher$State" "words" "LWordFlasher$Words;") (List.mem_of_getElem? (i := 1) rfl)) (fun _ h9 => h9) rfl dX3_becomePresent_1 ?_
  refine lv_iload_n hx hb dX3_becomePresent_4 rfl (lv_at hl 1 rfl) ?_
  obtain ⟨r1, h2, hf⟩ := bnd_el hf
  refine rdV (As := [.int p1]) (rest := []) ⟨hx, hb, hml, hown, hts⟩ (c_X4_has l g aW aP aQ _ _ _ h2) (cwV 1 hts gX3_becomePresent_X4_has rfl rfl rfl (by decide +kernel) ⟨Nat.le_of_ble_eq_true rfl, Nat.le_of_ble_eq_true rfl⟩) hKW hP [7, 8, 9, 10, 11, 12, 13] rfl (va_recv hK hP (ci := 4) (q0 := 7) rfl rfl) rfl hl.1 rfl (lv_room (Nat.le_of_ble_eq_true rfl)) dX3_becomePresent_5 ⟨Nat.zero_le _, Nat.zero_le _⟩ (fun r3 q4 => ?_)
  obtain ⟨q4, nb5⟩ := q4
  refine lv_as q4.symm ?_
  rw [q4] at nb5
  refine lv_if_ne (tgt := 22) hx hb dX3_becomePresent_8 (by decide) (fun c6 => ?_) (fun c6 => ?_)
  · have hf := ite_f hf c6
    refine lv_aload_n hx hb dX3_becomePresent_22 rfl (lv_at hl 0 rfl) ?_
    refine lv_iload_n hx hb dX3_becomePresent_23 rfl (lv_at hl 1 rfl) ?_
    obtain ⟨X7, e8, hf⟩ := sl_el hf
    refine va_put (D := g.1) (ci := 3) (v := .int p1) (ty := .int) (C := RX3) (T := TX3) (N := 15) hx hb hts i_X3 tyX3 tyX3_ok nmX3 hown hK hP hD hS 0 rfl rfl 6 (by decide) (hts (.fieldLink RX3 46 "WordFlasher$State" "present" "I") (List.mem_of_getElem? (i := 2) rfl)) (fun _ h9 => h9) rfl (by decide +kernel) rfl rfl (Nat.le_of_ble_eq_true rfl) dX3_becomePresent_24 (fun H locs hP hD hS => ?_)
    have hP : va_P g.1 vwCl (pS g aS (aW 0) X7 ++ (pW g aW (aP 0) (aQ 0) XW)) H := by subst e8; exact hP
    have hD : va_D A (pS g aS (aW 0) X7 ++ (pW g aW (aP 0) (aQ 0) XW)) := by subst e8; exact hD
    refine lv_aload_n hx hb dX3_becomePresent_27 rfl (lv_at hl 0 rfl) ?_
    refine lv_aload_n hx hb dX3_becomePresent_28 rfl (lv_at hl 0 rfl) ?_
    refine lv_iload_n hx hb dX3_becomePresent_29 rfl (lv_at hl 1 rfl) ?_
    refine lv_aload_n hx hb dX3_becomePresent_30 rfl (lv_at hl 0 rfl) ?_
    refine lv_iload_n hx hb dX3_becomePresent_31 rfl (lv_at hl 1 rfl) ?_
    obtain ⟨r9, h10, hf⟩ := bnd_el hf
    refine rdV (As := [.int p1]) (rest := [.int p1, .ref (aS 0), .ref (aS 0)]) ⟨hx, hb, hml, hown, hts⟩ (c_X3_speedOf l g aS aW aP aQ _ _ _ _ h10) (cwV 1 hts gX3_becomePresent_X3_speedOf rfl rfl rfl (by decide +kernel) ⟨Nat.le_of_ble_eq_true rfl, Nat.le_of_ble_eq_true rfl⟩) hKW hP [0, 1, 2, 3, 4, 5, 6, 7, 8, 9, 10, 11, 12, 13] rfl (va_recv hK hP (ci := 3) (q0 := 0) rfl rfl) rfl hl.1 rfl (lv_room (Nat.le_of_ble_eq_true rfl)) dX3_becomePresent_32 ⟨Nat.zero_le _, Nat.zero_le _⟩ (fun r11 q12 => ?_)
    obtain ⟨q12, nb13⟩ := q12
    refine lv_as q12.symm ?_
    obtain ⟨r14, h15, hf⟩ := bnd_el hf
    refine rdV (As := [.int p1, .int r9]) (rest := [.ref (aS 0)]) ⟨hx, hb, hml, hown, hts⟩ (c_X3_timeWith l g aS aW aP aQ _ _ _ _ _ h15) (cwV 2 hts gX3_becomePresent_X3_timeWith rfl rfl rfl (by decide +kernel) ⟨Nat.le_of_ble_eq_true rfl, Nat.le_of_ble_eq_true rfl⟩) hKW hP [0, 1, 2, 3, 4, 5, 6, 7, 8, 9, 10, 11, 12, 13] rfl (va_recv hK hP (ci := 3) (q0 := 0) rfl rfl) rfl hl.1 rfl (lv_room (Nat.le_of_ble_eq_true rfl)) dX3_becomePresent_35 ⟨Nat.zero_le _, Nat.zero_le _⟩ (fun r16 q17 => ?_)
    obtain ⟨q17, nb18⟩ := q17
    refine lv_as q17.symm ?_
    obtain ⟨X19, e20, hf⟩ := sl_el hf
    refine va_put (D := g.1) (ci := 3) (v := .int r14) (ty := .int) (C := RX3) (T := TX3) (N := 15) hx hb hts i_X3 tyX3 tyX3_ok nmX3 hown hK hP hD hS 0 rfl rfl 7 (by decide) (hts (.fieldLink RX3 57 "WordFlasher$State" "rest" "I") (List.mem_of_getElem? (i := 3) rfl)) (fun _ h9 => h9) rfl (by decide +kernel) rfl rfl (Nat.le_of_ble_eq_true rfl) dX3_becomePresent_38 (fun H locs hP hD hS => ?_)
    have hP : va_P g.1 vwCl (pS g aS (aW 0) X19 ++ (pW g aW (aP 0) (aQ 0) XW)) H := by subst e20; exact hP
    have hD : va_D A (pS g aS (aW 0) X19 ++ (pW g aW (aP 0) (aQ 0) XW)) := by subst e20; exact hD
    refine lv_aload_n hx hb dX3_becomePresent_41 rfl (lv_at hl 0 rfl) ?_
    refine va_get (D := g.1) (ci := 3) (v := .ref (aS 6)) (C := RX3) (T := TX3) (N := 15) hx hb hts i_X3 hown hK hP 0 rfl rfl 10 (by decide) (hts (.fieldLink RX3 39 "WordFlasher$State" "latest" "[I") (List.mem_of_getElem? (i := 4) rfl)) (fun _ h9 => h9) rfl dX3_becomePresent_42 ?_
    refine va_alen (v := 3) hx hb hK hP 6 0 rfl rfl rfl dX3_becomePresent_45 ?_
    refine lv_iconst (v := 1) hx hb dX3_becomePresent_46 (by decide) ?_
    refine lv_isub hx hb dX3_becomePresent_47 ?_
    obtain ⟨v21, e22, hf⟩ := sl_el hf
    refine lv_as e22 ?_
    refine lv_istore_n (lv' := [(2, .int v21), (0, .ref (aS 0)), (1, .int p1)]) hx hb dX3_becomePresent_48 rfl hl (by decide) rfl (fun ls hl => ?_)
    obtain ⟨j73, ej73, hf⟩ := sl_el hf
    have J_73 : ∀ (x1 : Int32) (XS : DM) (H : Heap) (locs : List Loc) (ls : Array Slot), va_P g.1 vwCl (pS g aS (aW 0) XS ++ (pW g aW (aP 0) (aQ 0) XW)) H → va_D A (pS g aS (aW 0) XS ++ (pW g aW (aP 0) (aQ 0) XW)) → va_S A s.heap H locs → lv_has ls 3 [(0, .ref (aS 0)), (1, .int x1)] → j73 x1 XS = some XSz → W p l e (headSpec wsX3_becomePresent rmX3_becomePresent).room s m args below meth c H locs 0 0 Q0 (F0 m 73 ls []) := by
      intro x1 XS H locs ls hP hD hS hl hf
      rw [ej73] at hf
      refine lv_aload_n hx hb dX3_becomePresent_73 rfl (lv_at hl 0 rfl) ?_
      refine va_get (D := g.1) (ci := 3) (v := .ref (aS 6)) (C := RX3) (T := TX3) (N := 15) hx hb hts i_X3 hown hK hP 0 rfl rfl 10 (by decide) (hts (.fieldLink RX3 39 "WordFlasher$State" "latest" "[I") (List.mem_of_getElem? (i := 4) rfl)) (fun _ h9 => h9) rfl dX3_becomePresent_74 ?_
      refine lv_iconst (v := 0) hx hb dX3_becomePresent_77 (by decide) ?_
      refine lv_iload_n hx hb dX3_becomePresent_78 rfl (lv_at hl 1 rfl) ?_
      obtain ⟨f23, h24, hf⟩ := bnd_el hf
      obtain ⟨X25, e26, hf⟩ := sl_el hf
      refine wr_v (rest := []) (wc := (pR g (aS 6) 3 (XS 10))) (wc' := (pR g (aS 6) 3 f23)) (ws2 := (pS g aS (aW 0) X25 ++ (pW g aW (aP 0) (aQ 0) XW))) hP hD hS hA [6] rfl rfl (by subst e26; rfl) (rnN (As := [.ref (aS 6), .int 0, .int x1]) ⟨hx, hb, hml, hown, hts⟩ (c_X5_put l g (aS 6) 3 _ _ _ _ _ h24) ⟨va_cnB 3 hts gX3_becomePresent_X5_put_n133 rfl rfl rfl (hKW.2 _ (List.mem_of_getElem? (i := 9) rfl)) (hts (.initialized RX5) (List.mem_of_getElem? (i := 23) rfl)) (by decide +kernel) ⟨Nat.le_of_ble_eq_true rfl, Nat.le_of_ble_eq_true rfl⟩, (hts (.static yX5_put) (List.mem_of_getElem? (i := 50) rfl)), trivial⟩ hKW hP hD [6] (by decide) rfl rfl hl.1 rfl (lv_room (Nat.le_of_ble_eq_true rfl)) dX3_becomePresent_79 ⟨Nat.zero_le _, Nat.zero_le _⟩) (fun H locs hP hD hS => ?_)
      have er0 := Option.some.inj hf
      rw [← hQ0]; exact W.vret hx hb hr (fun t ht hW => ⟨⟨(), rfl, trivial, by dsimp only; rw [ht, ← er0]; exact hP⟩, hS.F ht⟩) hS.2.2 dX3_becomePresent_82
    have L_49 : ∀ fu : Nat, ∀ (x1 x2 : Int32) (XS : DM) (H : Heap) (locs : List Loc) (ls : Array Slot), va_P g.1 vwCl (pS g aS (aW 0) XS ++ (pW g aW (aP 0) (aQ 0) XW)) H → va_D A (pS g aS (aW 0) XS ++ (pW g aW (aP 0) (aQ 0) XW)) → va_S A s.heap H locs → lv_has ls 3 [(0, .ref (aS 0)), (1, .int x1), (2, .int x2)] → fX3_becomePresent_L49 n XW j73 fu x1 x2 XS = some XSz → W p l e (headSpec wsX3_becomePresent rmX3_becomePresent).room s m args below meth c H locs 0 0 Q0 (F0 m 49 ls []) := by
      intro fu
      induction fu with
      | zero => intros; rename_i hf; rw [fX3_becomePresent_L49] at hf; cases hf
      | succ fu ih =>
        intro x1 x2 XS H locs ls hP hD hS hl hf
        rw [fX3_becomePresent_L49] at hf
        refine lv_iload_n hx hb dX3_becomePresent_49 rfl (lv_at hl 2 rfl) ?_
        refine lv_if_le (tgt := 73) hx hb dX3_becomePresent_50 (by decide) (fun c27 => ?_) (fun c27 => ?_)
        · have hf := ite_t hf c27
          exact J_73 x1 XS _ _ ls hP hD hS (lv_sub hl [0, 1] rfl) hf
        · have hf := ite_f hf c27
          refine lv_aload_n hx hb dX3_becomePresent_53 rfl (lv_at hl 0 rfl) ?_
          refine va_get (D := g.1) (ci := 3) (v := .ref (aS 6)) (C := RX3) (T := TX3) (N := 15) hx hb hts i_X3 hown hK hP 0 rfl rfl 10 (by decide) (hts (.fieldLink RX3 39 "WordFlasher$State" "latest" "[I") (List.mem_of_getElem? (i := 4) rfl)) (fun _ h9 => h9) rfl dX3_becomePresent_54 ?_
          refine lv_iload_n hx hb dX3_becomePresent_57 rfl (lv_at hl 2 rfl) ?_
          refine lv_aload_n hx hb dX3_becomePresent_58 rfl (lv_at hl 0 rfl) ?_
          refine va_get (D := g.1) (ci := 3) (v := .ref (aS 6)) (C := RX3) (T := TX3) (N := 15) hx hb hts i_X3 hown hK hP 0 rfl rfl 10 (by decide) (hts (.fieldLink RX3 39 "WordFlasher$State" "latest" "[I") (List.mem_of_getElem? (i := 4) rfl)) (fun _ h9 => h9) rfl dX3_becomePresent_59 ?_
          refine lv_iload_n hx hb dX3_becomePresent_62 rfl (lv_at hl 2 rfl) ?_
          refine lv_iconst (v := 1) hx hb dX3_becomePresent_63 (by decide) ?_
          refine lv_isub hx hb dX3_becomePresent_64 ?_
          obtain ⟨h30, v28, e29, hf⟩ := rdA_el hf
          refine va_iald hx hb hK hP 6 0 rfl rfl h30 dX3_becomePresent_65 ?_
          refine lv_as e29 ?_
          obtain ⟨h33, f31, e32, hf⟩ := wrA_el hf
          obtain ⟨X34, e35, hf⟩ := sl_el hf
          refine va_iast hx hb hK hP hD hS 6 0 rfl rfl h33 dX3_becomePresent_66 (fun H locs hP hD hS => ?_)
          have hP : va_P g.1 vwCl (pS g aS (aW 0) X34 ++ (pW g aW (aP 0) (aQ 0) XW)) H := by subst e35; subst e32; exact hP
          have hD : va_D A (pS g aS (aW 0) X34 ++ (pW g aW (aP 0) (aQ 0) XW)) := by subst e35; subst e32; exact hD
          obtain ⟨v36, e37, hf⟩ := sl_el hf
          refine lv_iinc (v := v36) (lv' := [(2, .int v36), (0, .ref (aS 0)), (1, .int x1)]) hx hb dX3_becomePresent_67 hl (k := 2) rfl (by rw [e37]; rfl) (by decide) rfl (fun ls hl => ?_)
          refine lv_goto (tgt := 49) hx hb dX3_becomePresent_70 (by decide) ?_
          exact ih x1 v36 X34 _ _ ls hP hD hS (lv_sub hl [1, 2, 0] rfl) hf
    exact L_49 n p1 v21 X19 _ _ ls hP hD hS (lv_sub hl [1, 2, 0] rfl) hf
  · have hf := ite_t hf c6
    refine lv_aload_n hx hb dX3_becomePresent_11 rfl (lv_at hl 0 rfl) ?_
    refine lv_iconst (v := (-1)) hx hb dX3_becomePresent_12 (by decide) ?_
    obtain ⟨X38, e39, hf⟩ := sl_el hf
    refine va_put (D := g.1) (ci := 3) (v := .int (-1)) (ty := .int) (C := RX3) (T := TX3) (N := 15) hx hb hts i_X3 tyX3 tyX3_ok nmX3 hown hK hP hD hS 0 rfl rfl 6 (by decide) (hts (.fieldLink RX3 46 "WordFlasher$State" "present" "I") (List.mem_of_getElem? (i := 2) rfl)) (fun _ h9 => h9) rfl (by decide +kernel) rfl rfl (Nat.le_of_ble_eq_true rfl) dX3_becomePresent_13 (fun H locs hP hD hS => ?_)
    have hP : va_P g.1 vwCl (pS g aS (aW 0) X38 ++ (pW g aW (aP 0) (aQ 0) XW)) H := by subst e39; exact hP
    have hD : va_D A (pS g aS (aW 0) X38 ++ (pW g aW (aP 0) (aQ 0) XW)) := by subst e39; exact hD
    refine lv_aload_n hx hb dX3_becomePresent_16 rfl (lv_at hl 0 rfl) ?_
    refine lv_iconst (v := 0) hx hb dX3_becomePresent_17 (by decide) ?_
    obtain ⟨X40, e41, hf⟩ := sl_el hf
    refine va_put (D := g.1) (ci := 3) (v := .int 0) (ty := .int) (C := RX3) (T := TX3) (N := 15) hx hb hts i_X3 tyX3 tyX3_ok nmX3 hown hK hP hD hS 0 rfl rfl 7 (by decide) (hts (.fieldLink RX3 57 "WordFlasher$State" "rest" "I") (List.mem_of_getElem? (i := 3) rfl)) (fun _ h9 => h9) rfl (by decide +kernel) rfl rfl (Nat.le_of_ble_eq_true rfl) dX3_becomePresent_18 (fun H locs hP hD hS => ?_)
    have hP : va_P g.1 vwCl (pS g aS (aW 0) X40 ++ (pW g aW (aP 0) (aQ 0) XW)) H := by subst e41; exact hP
    have hD : va_D A (pS g aS (aW 0) X40 ++ (pW g aW (aP 0) (aQ 0) XW)) := by subst e41; exact hD
    have er0 := Option.some.inj hf
    rw [← hQ0]; exact W.vret hx hb hr (fun t ht hW => ⟨⟨(), rfl, trivial, by dsimp only; rw [ht, ← er0]; exact hP⟩, hS.F ht⟩) hS.2.2 dX3_becomePresent_21
abbrev rmX3_startAnew : Room := { frames := 5, cells := 0, slots := 0, locals := 118 }
set_option maxHeartbeats 8000000 in
set_option maxRecDepth 100000 in
theorem c_X3_startAnew (l : Launch) (g : GG) (aS : Nat → Nat) (aW : Nat → Nat) (aP : Nat → Nat) (aQ : Nat → Nat) (sz : Nat) (n : Nat) (XS : DM) (XW : DM) (XP : DM) (XQ : DM) (p1 : Int32) (XSz : DM) (XWz : DM) (XPz : DM) (XQz : DM) (hf : fX3_startAnew n XS XW XP XQ p1 = some (XSz, XWz, XPz, XQz)) : Met l yX3_startAnew wsX3_startAnew rmX3_startAnew (va_Pc [.ref (aS 0), .int p1] (fun U => U.heap.size = sz ∧ va_P g.1 vwCl (pS g aS (aW 0) XS ++ (pW g aW (aP 0) (aQ 0) XW ++ (pP g aP XP ++ (pP g aQ XQ)))) U.heap ∧ KW g U ∧ va_D (fun _ => True) (pS g aS (aW 0) XS ++ (pW g aW (aP 0) (aQ 0) XW ++ (pP g aP XP ++ (pP g aQ XQ)))))) (va_Qv (fun (_ : Unit) => True) (fun (_ : Unit) t => va_P g.1 vwCl (pS g aS (aW 0) XSz ++ (pW g aW (aP 0) (aQ 0) XWz ++ (pP g aP XPz ++ (pP g aQ XQz)))) t.heap) (va_A (pS g aS (aW 0) XS ++ (pW g aW (aP 0) (aQ 0) XW ++ (pP g aP XP ++ (pP g aQ XQ)))) sz)) 0 0 (va_A (pS g aS (aW 0) XS ++ (pW g aW (aP 0) (aQ 0) XW ++ (pP g aP XP ++ (pP g aQ XQ)))) sz) := by
  refine Met.ofW (cc := cX3_startAnew) (maxL := 3) (ret := none) (by decide) rfl ?_
  intro p e s m args below meth c s₁ B hml hv
  obtain ⟨hargs, hsz, hP, hKW, hD0⟩ := hv
  have hK := hKW.1
  have hx := B.exec
  have hb := B.bytes
  have hr := B.returns
  have hts := atoms_spec (ws := wsX3_startAnew) B.pre
  have hown : s.vm.findClass RX3 = some m.cls := findClass_of_methodNamed B.named
  have hlocks := B.notSynchronized
  subst hsz
  have hD := hD0.self (sz := s.heap.size)
  generalize hAe : va_A (pS g aS (aW 0) XS ++ (pW g aW (aP 0) (aQ 0) XW ++ (pP g aP XP ++ (pP g aQ XQ)))) s.heap.size = A at hD ⊢
  have hA : ∀ q : Nat, s.heap.size ≤ q → A q := fun q h => by rw [← hAe]; exact Or.inr h
  have hS : va_S A s.heap s.heap [] := va_S.rf
  have i_X3 : ∀ w ∈ wsX30, w ∈ wsX3_startAnew := fun w h => List.mem_cons_of_mem _ (List.mem_append_left _ (List.mem_append_left _ (List.mem_append_right _ h)))
  have i_X4 : ∀ w ∈ wsX40, w ∈ wsX3_startAnew := fun w h => List.mem_cons_of_mem _ (List.mem_append_left _ (List.mem_append_right _ h))
  have i_X2 : ∀ w ∈ wsX20, w ∈ wsX3_startAnew := fun w h => List.mem_cons_of_mem _ (List.mem_append_right _ h)
  have hent : entryFrame m args 3 = F0 m 0 ((lg_sl ([.ref (aS 0), .int p1]) ++ List.replicate (3 - (lg_sl ([.ref (aS 0), .int p1])).length) Slot.unset).toArray) [] := by rw [hargs]; exact lg_entry_eq _ _ _
  rw [hent]
  have hl := lv_entry ([.ref (aS 0), .int p1]) (n := 3) (Nat.le_of_ble_eq_true rfl)
  generalize (lg_sl ([.ref (aS 0), .int p1]) ++ List.replicate (3 - (lg_sl ([.ref (aS 0), .int p1])).length) Slot.unset).toArray = ls at hl ⊢
  have hl : lv_has ls 3 [(0, .ref (aS 0)), (1, .int p1)] := hl
  generalize hQ0 : MQ below _ _ _ _ _ _ = Q0
  unfold fX3_startAnew at hf
  refine lv_aload_n hx hb dX3_startAnew_0 rfl (lv_at hl 0 rfl) ?_
  refine lv_iload_n hx hb dX3_startAnew_1 rfl (lv_at hl 1 rfl) ?_
  obtain ⟨X1, e2, hf⟩ := sl_el hf
  refine va_put (D := g.1) (ci := 3) (v := .int p1) (ty := .int) (C := RX3) (T := TX3) (N := 15) hx hb hts i_X3 tyX3 tyX3_ok nmX3 hown hK hP hD hS 0 rfl rfl 2 (by decide) (hts (.fieldLink RX3 54 "WordFlasher$State" "length" "I") (List.mem_of_getElem? (i := 1) rfl)) (fun _ h9 => h9) rfl (by decide +kernel) rfl rfl (Nat.le_of_ble_eq_true rfl) dX3_startAnew_2 (fun H locs hP hD hS => ?_)
  have hP : va_P g.1 vwCl (pS g aS (aW 0) X1 ++ (pW g aW (aP 0) (aQ 0) XW ++ (pP g aP XP ++ (pP g aQ XQ)))) H := by subst e2; exact hP
  have hD : va_D A (pS g aS (aW 0) X1 ++ (pW g aW (aP 0) (aQ 0) XW ++ (pP g aP XP ++ (pP g aQ XQ)))) := by subst e2; exact hD
  refine lv_aload_n hx hb dX3_startAnew_5 rfl (lv_at hl 0 rfl) ?_
  refine va_get (D := g.1) (ci := 3) (v := .ref (aW 0)) (C := RX3) (T := TX3) (N := 15) hx hb hts i_X3 hown hK hP 0 rfl rfl 0 (by decide) (hts (.fieldLink RX3 9 "WordFlasher$State" "words" "LWordFlasher$Words;") (List.mem_of_getElem? (i := 2) rfl)) (fun _ h9 => h9) rfl dX3_startAnew_6 ?_
  refine lv_aload_n hx hb dX3_startAnew_9 rfl (lv_at hl 0 rfl) ?_
  refine va_get (D := g.1) (ci := 3) (v := .ref (aS 1)) (C := RX3) (T := TX3) (N := 15) hx hb hts i_X3 hown hK hP 0 rfl rfl 1 (by decide) (hts (.fieldLink RX3 15 "WordFlasher$State" "text" "[I") (List.mem_of_getElem? (i := 3) rfl)) (fun _ h9 => h9) rfl dX3_startAnew_10 ?_
  refine lv_aload_n hx hb dX3_startAnew_13 rfl (lv_at hl 0 rfl) ?_
  refine va_get (D := g.1) (ci := 3) (v := .int (X1 2 0)) (C := RX3) (T := TX3) (N := 15) hx hb hts i_X3 hown hK hP 0 rfl rfl 2 (by decide) (hts (.fieldLink RX3 54 "WordFlasher$State" "length" "I") (List.mem_of_getElem? (i := 1) rfl)) (fun _ h9 => h9) rfl dX3_startAnew_14 ?_
  obtain ⟨u7, h6, hf⟩ := bnd_el hf
  refine wr_v (rest := []) (wc := (pR g (aS 1) 300 (X1 1) ++ (pW g aW (aP 0) (aQ 0) XW ++ (pP g aP XP ++ (pP g aQ XQ))))) (wc' := (pR g (aS 1) 300 (X1 1) ++ (pW g aW (aP 0) (aQ 0) u7.1 ++ (pP g aP u7.2.1 ++ (pP g aQ u7.2.2))))) (ws2 := (pS g aS (aW 0) X1 ++ (pW g aW (aP 0) (aQ 0) u7.1 ++ (pP g aP u7.2.1 ++ (pP g aQ u7.2.2))))) hP hD hS hA [1, 7, 8, 9, 10, 11, 12, 13, 14, 15, 16, 17, 18, 19, 20, 21] rfl rfl (by rfl) (rnV (As := [.ref (aS 1), .int (X1 2 0)]) ⟨hx, hb, hml, hown, hts⟩ (c_X4_read l g (aS 1) 300 aW aP aQ _ _ _ _ _ _ _ _ _ _ h6) (cwV 2 hts gX3_startAnew_X4_read rfl rfl rfl (by decide +kernel) ⟨Nat.le_of_ble_eq_true rfl, Nat.le_of_ble_eq_true rfl⟩) hKW hP hD [1, 7, 8, 9, 10, 11, 12, 13, 14, 15, 16, 17, 18, 19, 20, 21] (by decide) rfl (va_recv hK hP (ci := 4) (q0 := 7) rfl rfl) rfl hl.1 rfl (lv_room (Nat.le_of_ble_eq_true rfl)) dX3_startAnew_17 ⟨Nat.zero_le _, Nat.zero_le _⟩) (fun H locs hP hD hS => ?_)
  refine lv_aload_n hx hb dX3_startAnew_20 rfl (lv_at hl 0 rfl) ?_
  refine lv_iconst (v := 0) hx hb dX3_startAnew_21 (by decide) ?_
  obtain ⟨X8, e9, hf⟩ := sl_el hf
  refine va_put (D := g.1) (ci := 3) (v := .int 0) (ty := .int) (C := RX3) (T := TX3) (N := 15) hx hb hts i_X3 tyX3 tyX3_ok nmX3 hown hK hP hD hS 0 rfl rfl 9 (by decide) (hts (.fieldLink RX3 60 "WordFlasher$State" "placed" "I") (List.mem_of_getElem? (i := 4) rfl)) (fun _ h9 => h9) rfl (by decide +kernel) rfl rfl (Nat.le_of_ble_eq_true rfl) dX3_startAnew_22 (fun H locs hP hD hS => ?_)
  have hP : va_P g.1 vwCl (pS g aS (aW 0) X8 ++ (pW g aW (aP 0) (aQ 0) u7.1 ++ (pP g aP u7.2.1 ++ (pP g aQ u7.2.2)))) H := by subst e9; exact hP
  have hD : va_D A (pS g aS (aW 0) X8 ++ (pW g aW (aP 0) (aQ 0) u7.1 ++ (pP g aP u7.2.1 ++ (pP g aQ u7.2.2)))) := by subst e9; exact hD
  refine lv_aload_n hx hb dX3_startAnew_25 rfl (lv_at hl 0 rfl) ?_
  refine lv_iconst (v := 0) hx hb dX3_startAnew_26 (by decide) ?_
  obtain ⟨X10, e11, hf⟩ := sl_el hf
  refine va_put (D := g.1) (ci := 3) (v := .int 0) (ty := .boolean) (C := RX3) (T := TX3) (N := 15) hx hb hts i_X3 tyX3 tyX3_ok nmX3 hown hK hP hD hS 0 rfl rfl 11 (by decide) (hts (.fieldLink RX3 63 "WordFlasher$State" "askedBack" "Z") (List.mem_of_getElem? (i := 5) rfl)) (fun _ h9 => h9) rfl (by decide +kernel) rfl rfl (Nat.le_of_ble_eq_true rfl) dX3_startAnew_27 (fun H locs hP hD hS => ?_)
  have hP : va_P g.1 vwCl (pS g aS (aW 0) X10 ++ (pW g aW (aP 0) (aQ 0) u7.1 ++ (pP g aP u7.2.1 ++ (pP g aQ u7.2.2)))) H := by subst e11; exact hP
  have hD : va_D A (pS g aS (aW 0) X10 ++ (pW g aW (aP 0) (aQ 0) u7.1 ++ (pP g aP u7.2.1 ++ (pP g aQ u7.2.2)))) := by subst e11; exact hD
  refine lv_aload_n hx hb dX3_startAnew_30 rfl (lv_at hl 0 rfl) ?_
  refine va_get (D := g.1) (ci := 3) (v := .ref (aS 6)) (C := RX3) (T := TX3) (N := 15) hx hb hts i_X3 hown hK hP 0 rfl rfl 10 (by decide) (hts (.fieldLink RX3 39 "WordFlasher$State" "latest" "[I") (List.mem_of_getElem? (i := 6) rfl)) (fun _ h9 => h9) rfl dX3_startAnew_31 ?_
  refine lv_iconst (v := (-1)) hx hb dX3_startAnew_34 (by decide) ?_
  obtain ⟨f12, h13, hf⟩ := bnd_el hf
  obtain ⟨X14, e15, hf⟩ := sl_el hf
  refine wr_v (rest := []) (wc := (pR g (aS 6) 3 (X10 10))) (wc' := (pR g (aS 6) 3 f12)) (ws2 := (pS g aS (aW 0) X14 ++ (pW g aW (aP 0) (aQ 0) u7.1 ++ (pP g aP u7.2.1 ++ (pP g aQ u7.2.2))))) hP hD hS hA [6] rfl rfl (by subst e15; rfl) (rnN (As := [.ref (aS 6), .int (-1)]) ⟨hx, hb, hml, hown, hts⟩ (c_X5_fill l g (aS 6) 3 _ _ _ _ _ h13) ⟨va_cnB 2 hts gX3_startAnew_X5_fill_n42 rfl rfl rfl (hKW.2 _ (List.mem_of_getElem? (i := 8) rfl)) (hts (.initialized RX5) (List.mem_of_getElem? (i := 15) rfl)) (by decide +kernel) ⟨Nat.le_of_ble_eq_true rfl, Nat.le_of_ble_eq_true rfl⟩, (hts (.static yX5_fill) (List.mem_of_getElem? (i := 61) rfl)), trivial⟩ hKW hP hD [6] (by decide) rfl rfl hl.1 rfl (lv_room (Nat.le_of_ble_eq_true rfl)) dX3_startAnew_35 ⟨Nat.zero_le _, Nat.zero_le _⟩) (fun H locs hP hD hS => ?_)
  refine lv_iconst (v := 0) hx hb dX3_startAnew_38 (by decide) ?_
  refine lv_istore_n (lv' := [(2, .int 0), (0, .ref (aS 0)), (1, .int p1)]) hx hb dX3_startAnew_39 rfl hl (by decide) rfl (fun ls hl => ?_)
  obtain ⟨j84, ej84, hf⟩ := sl_el hf
  have J_84 : ∀ (XS : DM) (XW : DM) (XP : DM) (XQ : DM) (H : Heap) (locs : List Loc) (ls : Array Slot), va_P g.1 vwCl (pS g aS (aW 0) XS ++ (pW g aW (aP 0) (aQ 0) XW ++ (pP g aP XP ++ (pP g aQ XQ)))) H → va_D A (pS g aS (aW 0) XS ++ (pW g aW (aP 0) (aQ 0) XW ++ (pP g aP XP ++ (pP g aQ XQ)))) → va_S A s.heap H locs → lv_has ls 3 [(0, .ref (aS 0))] → j84 XS XW XP XQ = some (XSz, XWz, XPz, XQz) → W p l e (headSpec wsX3_startAnew rmX3_startAnew).room s m args below meth c H locs 0 0 Q0 (F0 m 84 ls []) := by
    intro XS XW XP XQ H locs ls hP hD hS hl hf
    rw [ej84] at hf
    refine lv_aload_n hx hb dX3_startAnew_84 rfl (lv_at hl 0 rfl) ?_
    refine lv_aload_n hx hb dX3_startAnew_85 rfl (lv_at hl 0 rfl) ?_
    refine va_get (D := g.1) (ci := 3) (v := .ref (aW 0)) (C := RX3) (T := TX3) (N := 15) hx hb hts i_X3 hown hK hP 0 rfl rfl 0 (by decide) (hts (.fieldLink RX3 9 "WordFlasher$State" "words" "LWordFlasher$Words;") (List.mem_of_getElem? (i := 2) rfl)) (fun _ h9 => h9) rfl dX3_startAnew_86 ?_
    refine lv_iconst (v := (-1)) hx hb dX3_startAnew_89 (by decide) ?_
    obtain ⟨r16, h17, hf⟩ := bnd_el hf
    refine rdV (As := [.int (-1)]) (rest := [.ref (aS 0)]) ⟨hx, hb, hml, hown, hts⟩ (c_X4_shownBehind l g aW aP aQ _ _ _ _ h17) (cwV 1 hts gX3_startAnew_X4_shownBehind rfl rfl rfl (by decide +kernel) ⟨Nat.le_of_ble_eq_true rfl, Nat.le_of_ble_eq_true rfl⟩) hKW hP [7, 8, 9, 10, 11, 12, 13] rfl (va_recv hK hP (ci := 4) (q0 := 7) rfl rfl) rfl hl.1 rfl (lv_room (Nat.le_of_ble_eq_true rfl)) dX3_startAnew_90 ⟨Nat.zero_le _, Nat.zero_le _⟩ (fun r18 q19 => ?_)
    obtain ⟨q19, nb20⟩ := q19
    refine lv_as q19.symm ?_
    obtain ⟨X21, h22, hf⟩ := bnd_el hf
    refine wr_v (rest := []) (wc := (pS g aS (aW 0) XS ++ (pW g aW (aP 0) (aQ 0) XW))) (wc' := (pS g aS (aW 0) X21 ++ (pW g aW (aP 0) (aQ 0) XW))) (ws2 := (pS g aS (aW 0) X21 ++ (pW g aW (aP 0) (aQ 0) XW ++ (pP g aP XP ++ (pP g aQ XQ))))) hP hD hS hA [0, 1, 2, 3, 4, 5, 6, 7, 8, 9, 10, 11, 12, 13] rfl rfl (by rfl) (rnV (As := [.int r16]) ⟨hx, hb, hml, hown, hts⟩ (c_X3_becomePresent l g aS aW aP aQ _ _ _ _ _ _ h22) (cwV 1 hts gX3_startAnew_X3_becomePresent rfl rfl rfl (by decide +kernel) ⟨Nat.le_of_ble_eq_true rfl, Nat.le_of_ble_eq_true rfl⟩) hKW hP hD [0, 1, 2, 3, 4, 5, 6, 7, 8, 9, 10, 11, 12, 13] (by decide) rfl (va_recv hK hP (ci := 3) (q0 := 0) rfl rfl) rfl hl.1 rfl (lv_room (Nat.le_of_ble_eq_true rfl)) dX3_startAnew_93 ⟨Nat.zero_le _, Nat.zero_le _⟩) (fun H locs hP hD hS => ?_)
    have er0 := Option.some.inj hf
    obtain ⟨er0, er1⟩ := Prod.mk.inj er0
    obtain ⟨er1, er2⟩ := Prod.mk.inj er1
    obtain ⟨er2, er3⟩ := Prod.mk.inj er2
    rw [← hQ0]; exact W.vret hx hb hr (fun t ht hW => ⟨⟨(), rfl, trivial, by dsimp only; rw [ht, ← er0, ← er1, ← er2, ← er3]; exact hP⟩, hS.F ht⟩) hS.2.2 dX3_startAnew_96
  have L_40 : ∀ fu : Nat, ∀ (x2 : Int32) (XS : DM) (XW : DM) (XP : DM) (XQ : DM) (H : Heap) (locs : List Loc) (ls : Array Slot), va_P g.1 vwCl (pS g aS (aW 0) XS ++ (pW g aW (aP 0) (aQ 0) XW ++ (pP g aP XP ++ (pP g aQ XQ)))) H → va_D A (pS g aS (aW 0) XS ++ (pW g aW (aP 0) (aQ 0) XW ++ (pP g aP XP ++ (pP g aQ XQ)))) → va_S A s.heap H locs → lv_has ls 3 [(0, .ref (aS 0)), (2, .int x2)] → fX3_startAnew_L40 n j84 fu x2 XS XW XP XQ = some (XSz, XWz, XPz, XQz) → W p l e (headSpec wsX3_startAnew rmX3_startAnew).room s m args below meth c H locs 0 0 Q0 (F0 m 40 ls []) := by
    intro fu
    induction fu with
    | zero => intros; rename_i hf; rw [fX3_startAnew_L40] at hf; cases hf
    | succ fu ih =>
      intro x2 XS XW XP XQ H locs ls hP hD hS hl hf
      rw [fX3_startAnew_L40] at hf
      refine lv_iload_n hx hb dX3_startAnew_40 rfl (lv_at hl 1 rfl) ?_
      refine lv_aload_n hx hb dX3_startAnew_41 rfl (lv_at hl 0 rfl) ?_
      refine va_get (D := g.1) (ci := 3) (v := .ref (aS 4)) (C := RX3) (T := TX3) (N := 15) hx hb hts i_X3 hown hK hP 0 rfl rfl 5 (by decide) (hts (.fieldLink RX3 33 "WordFlasher$State" "notes" "[I") (List.mem_of_getElem? (i := 7) rfl)) (fun _ h9 => h9) rfl dX3_startAnew_42 ?_
      refine va_alen (v := 150) hx hb hK hP 4 0 rfl rfl rfl dX3_startAnew_45 ?_
      refine lv_icmp_ge (tgt := 84) hx hb dX3_startAnew_46 (by decide) (fun c23 => ?_) (fun c23 => ?_)
      · have hf := ite_t hf c23
        exact J_84 XS XW XP XQ _ _ ls hP hD hS (lv_sub hl [0] rfl) hf
      · have hf := ite_f hf c23
        refine lv_aload_n hx hb dX3_startAnew_49 rfl (lv_at hl 0 rfl) ?_
        refine va_get (D := g.1) (ci := 3) (v := .ref (aW 0)) (C := RX3) (T := TX3) (N := 15) hx hb hts i_X3 hown hK hP 0 rfl rfl 0 (by decide) (hts (.fieldLink RX3 9 "WordFlasher$State" "words" "LWordFlasher$Words;") (List.mem_of_getElem? (i := 2) rfl)) (fun _ h9 => h9) rfl dX3_startAnew_50 ?_
        refine lv_iload_n hx hb dX3_startAnew_53 rfl (lv_at hl 1 rfl) ?_
        obtain ⟨r24, h25, hf⟩ := bnd_el hf
        refine rdV (As := [.int x2]) (rest := []) ⟨hx, hb, hml, hown, hts⟩ (c_X4_has l g aW aP aQ _ _ _ h25) (cwV 1 hts gX3_startAnew_X4_has rfl rfl rfl (by decide +kernel) ⟨Nat.le_of_ble_eq_true rfl, Nat.le_of_ble_eq_true rfl⟩) hKW hP [7, 8, 9, 10, 11, 12, 13] rfl (va_recv hK hP (ci := 4) (q0 := 7) rfl rfl) rfl hl.1 rfl (lv_room (Nat.le_of_ble_eq_true rfl)) dX3_startAnew_54 ⟨Nat.zero_le _, Nat.zero_le _⟩ (fun r26 q27 => ?_)
        obtain ⟨q27, nb28⟩ := q27
        refine lv_as q27.symm ?_
        rw [q27] at nb28
        obtain ⟨j78, ej78, hf⟩ := sl_el hf
        have J_78 : ∀ (x2 : Int32) (XS : DM) (XW : DM) (XP : DM) (XQ : DM) (H : Heap) (locs : List Loc) (ls : Array Slot), va_P g.1 vwCl (pS g aS (aW 0) XS ++ (pW g aW (aP 0) (aQ 0) XW ++ (pP g aP XP ++ (pP g aQ XQ)))) H → va_D A (pS g aS (aW 0) XS ++ (pW g aW (aP 0) (aQ 0) XW ++ (pP g aP XP ++ (pP g aQ XQ)))) → va_S A s.heap H locs → lv_has ls 3 [(0, .ref (aS 0)), (2, .int x2)] → j78 x2 XS XW XP XQ = some (XSz, XWz, XPz, XQz) → W p l e (headSpec wsX3_startAnew rmX3_startAnew).room s m args below meth c H locs 0 0 Q0 (F0 m 78 ls []) := by
          intro x2 XS XW XP XQ H locs ls hP hD hS hl hf
          rw [ej78] at hf
          obtain ⟨v29, e30, hf⟩ := sl_el hf
          refine lv_iinc (v := v29) (lv' := [(2, .int v29), (0, .ref (aS 0))]) hx hb dX3_startAnew_78 hl (k := 1) rfl (by rw [e30]; rfl) (by decide) rfl (fun ls hl => ?_)
          refine lv_goto (tgt := 40) hx hb dX3_startAnew_81 (by decide) ?_
          exact ih v29 XS XW XP XQ _ _ ls hP hD hS (lv_sub hl [1, 0] rfl) hf
        obtain ⟨j71, ej71, hf⟩ := sl_el hf
        have J_71 : ∀ (x2 : Int32) (XS : DM) (XW : DM) (XP : DM) (XQ : DM) (H : Heap) (locs : List Loc) (ls : Array Slot), va_P g.1 vwCl (pS g aS (aW 0) XS ++ (pW g aW (aP 0) (aQ 0) XW ++ (pP g aP XP ++ (pP g aQ XQ)))) H → va_D A (pS g aS (aW 0) XS ++ (pW g aW (aP 0) (aQ 0) XW ++ (pP g aP XP ++ (pP g aQ XQ)))) → va_S A s.heap H locs → lv_has ls 3 [(0, .ref (aS 0)), (2, .int x2)] → j71 x2 XS XW XP XQ = some (XSz, XWz, XPz, XQz) → W p l e (headSpec wsX3_startAnew rmX3_startAnew).room s m args below meth c H locs 0 0 Q0 (F0 m 71 ls []) := by
          intro x2 XS XW XP XQ H locs ls hP hD hS hl hf
          rw [ej71] at hf
          refine lv_aload_n hx hb dX3_startAnew_71 rfl (lv_at hl 0 rfl) ?_
          refine va_get (D := g.1) (ci := 3) (v := .ref (aS 4)) (C := RX3) (T := TX3) (N := 15) hx hb hts i_X3 hown hK hP 0 rfl rfl 5 (by decide) (hts (.fieldLink RX3 33 "WordFlasher$State" "notes" "[I") (List.mem_of_getElem? (i := 7) rfl)) (fun _ h9 => h9) rfl dX3_startAnew_72 ?_
          refine lv_iload_n hx hb dX3_startAnew_75 rfl (lv_at hl 1 rfl) ?_
          refine lv_iconst (v := 0) hx hb dX3_startAnew_76 (by decide) ?_
          obtain ⟨h33, f31, e32, hf⟩ := wrA_el hf
          obtain ⟨X34, e35, hf⟩ := sl_el hf
          refine va_iast hx hb hK hP hD hS 4 0 rfl rfl h33 dX3_startAnew_77 (fun H locs hP hD hS => ?_)
          have hP : va_P g.1 vwCl (pS g aS (aW 0) X34 ++ (pW g aW (aP 0) (aQ 0) XW ++ (pP g aP XP ++ (pP g aQ XQ)))) H := by subst e35; subst e32; exact hP
          have hD : va_D A (pS g aS (aW 0) X34 ++ (pW g aW (aP 0) (aQ 0) XW ++ (pP g aP XP ++ (pP g aQ XQ)))) := by subst e35; subst e32; exact hD
          exact J_78 x2 X34 XW XP XQ _ _ ls hP hD hS (lv_sub hl [0, 1] rfl) hf
        refine lv_if_eq (tgt := 71) hx hb dX3_startAnew_57 (by decide) (fun c36 => ?_) (fun c36 => ?_)
        · have hf := ite_t hf c36
          exact J_71 x2 XS XW XP XQ _ _ ls hP hD hS (lv_sub hl [0, 1] rfl) hf
        · have hf := ite_f hf c36
          refine lv_aload_n hx hb dX3_startAnew_60 rfl (lv_at hl 0 rfl) ?_
          refine va_get (D := g.1) (ci := 3) (v := .ref (aW 0)) (C := RX3) (T := TX3) (N := 15) hx hb hts i_X3 hown hK hP 0 rfl rfl 0 (by decide) (hts (.fieldLink RX3 9 "WordFlasher$State" "words" "LWordFlasher$Words;") (List.mem_of_getElem? (i := 2) rfl)) (fun _ h9 => h9) rfl dX3_startAnew_61 ?_
          refine lv_iload_n hx hb dX3_startAnew_64 rfl (lv_at hl 1 rfl) ?_
          obtain ⟨r37, h38, hf⟩ := bnd_el hf
          refine rdV (As := [.int x2]) (rest := []) ⟨hx, hb, hml, hown, hts⟩ (c_X4_isMark l g aW aP aQ _ _ _ h38) (cwV 1 hts gX3_startAnew_X4_isMark rfl rfl rfl (by decide +kernel) ⟨Nat.le_of_ble_eq_true rfl, Nat.le_of_ble_eq_true rfl⟩) hKW hP [7, 8, 9, 10, 11, 12, 13] rfl (va_recv hK hP (ci := 4) (q0 := 7) rfl rfl) rfl hl.1 rfl (lv_room (Nat.le_of_ble_eq_true rfl)) dX3_startAnew_65 ⟨Nat.zero_le _, Nat.zero_le _⟩ (fun r39 q40 => ?_)
          obtain ⟨q40, nb41⟩ := q40
          refine lv_as q40.symm ?_
          rw [q40] at nb41
          refine lv_if_eq (tgt := 78) hx hb dX3_startAnew_68 (by decide) (fun c42 => ?_) (fun c42 => ?_)
          · have hf := ite_t hf c42
            exact J_78 x2 XS XW XP XQ _ _ ls hP hD hS (lv_sub hl [0, 1] rfl) hf
          · have hf := ite_f hf c42
            exact J_71 x2 XS XW XP XQ _ _ ls hP hD hS (lv_sub hl [0, 1] rfl) hf
  exact L_40 n 0 X14 u7.1 u7.2.1 u7.2.2 _ _ ls hP hD hS (lv_sub hl [1, 0] rfl) hf
abbrev rmX3_passError : Room := { frames := 0, cells := 0, slots := 0, locals := 0 }
set_option maxHeartbeats 8000000 in
set_option maxRecDepth 100000 in
theorem c_X3_passError (l : Launch) (g : GG) (aS : Nat → Nat) (aW : Nat → Nat) (aP : Nat → Nat) (aQ : Nat → Nat) (XS : DM) (p1 : Int32) (r : Int32) (hf : fX3_passError XS p1 = some r) : Met l yX3_passError wsX3_passError rmX3_passError (va_Pc [.ref (aS 0), .int p1] (fun U => va_P g.1 vwCl (pS g aS (aW 0) XS) U.heap ∧ KW g U)) (vp_Si (fun r' => r' = r ∧ True)) 0 0 (fun _ => False) := by
  refine Met.ofW (cc := cX3_passError) (maxL := 2) (ret := (some .int)) (by decide) rfl ?_
  intro p e s m args below meth c s₁ B hml hv
  obtain ⟨hargs, hP, hKW⟩ := hv
  have hK := hKW.1
  have hx := B.exec
  have hb := B.bytes
  have hr := B.returns
  have hts := atoms_spec (ws := wsX3_passError) B.pre
  have hown : s.vm.findClass RX3 = some m.cls := findClass_of_methodNamed B.named
  have hlocks := B.notSynchronized
  have i_X3 : ∀ w ∈ wsX30, w ∈ wsX3_passError := fun w h => List.mem_cons_of_mem _ (List.mem_append_right _ h)
  have hent : entryFrame m args 2 = F0 m 0 ((lg_sl ([.ref (aS 0), .int p1]) ++ List.replicate (2 - (lg_sl ([.ref (aS 0), .int p1])).length) Slot.unset).toArray) [] := by rw [hargs]; exact lg_entry_eq _ _ _
  rw [hent]
  have hl := lv_entry ([.ref (aS 0), .int p1]) (n := 2) (Nat.le_of_ble_eq_true rfl)
  generalize (lg_sl ([.ref (aS 0), .int p1]) ++ List.replicate (2 - (lg_sl ([.ref (aS 0), .int p1])).length) Slot.unset).toArray = ls at hl ⊢
  have hl : lv_has ls 2 [(0, .ref (aS 0)), (1, .int p1)] := hl
  generalize hQ0 : MQ below _ _ _ _ _ _ = Q0
  unfold fX3_passError at hf
  refine lv_iload_n hx hb dX3_passError_0 rfl (lv_at hl 1 rfl) ?_
  refine lv_iconst (v := 1) hx hb dX3_passError_1 (by decide) ?_
  refine lv_icmp_lt (tgt := 12) hx hb dX3_passError_2 (by decide) (fun c1 => ?_) (fun c1 => ?_)
  · have hf := ite_t hf c1
    refine lv_iconst (v := (-1)) hx hb dX3_passError_12 (by decide) ?_
    have er0 := Option.some.inj hf
    rw [← hQ0]; exact W.iret (v := (-1)) hx hb hr (fun t ht hW => ⟨(-1), rfl, ⟨er0, trivial⟩, ht⟩) (fun q h => by cases h) dX3_passError_13
  · have hf := ite_f hf c1
    refine lv_iload_n hx hb dX3_passError_5 rfl (lv_at hl 1 rfl) ?_
    refine lv_sipush (v := 9999) hx hb dX3_passError_6 (by decide) ?_
    refine lv_icmp_le (tgt := 14) hx hb dX3_passError_9 (by decide) (fun c2 => ?_) (fun c2 => ?_)
    · have hf := ite_t hf c2
      refine lv_aload_n hx hb dX3_passError_14 rfl (lv_at hl 0 rfl) ?_
      refine va_get (D := g.1) (ci := 3) (v := .int (XS 6 0)) (C := RX3) (T := TX3) (N := 15) hx hb hts i_X3 hown hK hP 0 rfl rfl 6 (by decide) (hts (.fieldLink RX3 46 "WordFlasher$State" "present" "I") (List.mem_of_getElem? (i := 1) rfl)) (fun _ h9 => h9) rfl dX3_passError_15 ?_
      refine lv_iconst (v := (-1)) hx hb dX3_passError_18 (by decide) ?_
      refine lv_icmp_ne (tgt := 27) hx hb dX3_passError_19 (by decide) (fun c3 => ?_) (fun c3 => ?_)
      · have hf := ite_f hf c3
        refine lv_iconst (v := 0) hx hb dX3_passError_27 (by decide) ?_
        have er0 := Option.some.inj hf
        rw [← hQ0]; exact W.iret (v := 0) hx hb hr (fun t ht hW => ⟨0, rfl, ⟨er0, trivial⟩, ht⟩) (fun q h => by cases h) dX3_passError_28
      · have hf := ite_t hf c3
        refine lv_bipush (v := (-2)) hx hb dX3_passError_22 (by decide) ?_
        refine lv_goto (tgt := 28) hx hb dX3_passError_24 (by decide) ?_
        have er0 := Option.some.inj hf
        rw [← hQ0]; exact W.iret (v := (-2)) hx hb hr (fun t ht hW => ⟨(-2), rfl, ⟨er0, trivial⟩, ht⟩) (fun q h => by cases h) dX3_passError_28
    · have hf := ite_f hf c2
      refine lv_iconst (v := (-1)) hx hb dX3_passError_12 (by decide) ?_
      have er0 := Option.some.inj hf
      rw [← hQ0]; exact W.iret (v := (-1)) hx hb hr (fun t ht hW => ⟨(-1), rfl, ⟨er0, trivial⟩, ht⟩) (fun q h => by cases h) dX3_passError_13
abbrev rmX3_endSentenceOf : Room := { frames := 3, cells := 0, slots := 0, locals := 67 }
set_option maxHeartbeats 8000000 in
set_option maxRecDepth 100000 in
theorem c_X3_endSentenceOf (l : Launch) (g : GG) (aS : Nat → Nat) (aW : Nat → Nat) (aP : Nat → Nat) (aQ : Nat → Nat) (sz : Nat) (n : Nat) (XS : DM) (XW : DM) (XP : DM) (p1 : Int32) (XSz : DM) (hf : fX3_endSentenceOf n XS XW XP p1 = some XSz) : Met l yX3_endSentenceOf wsX3_endSentenceOf rmX3_endSentenceOf (va_Pc [.ref (aS 0), .int p1] (fun U => U.heap.size = sz ∧ va_P g.1 vwCl (pS g aS (aW 0) XS ++ (pW g aW (aP 0) (aQ 0) XW ++ (pP g aP XP))) U.heap ∧ KW g U ∧ va_D (fun _ => True) (pS g aS (aW 0) XS ++ (pW g aW (aP 0) (aQ 0) XW ++ (pP g aP XP))))) (va_Qv (fun (_ : Unit) => True) (fun (_ : Unit) t => va_P g.1 vwCl (pS g aS (aW 0) XSz ++ (pW g aW (aP 0) (aQ 0) XW ++ (pP g aP XP))) t.heap) (va_A (pS g aS (aW 0) XS ++ (pW g aW (aP 0) (aQ 0) XW ++ (pP g aP XP))) sz)) 0 0 (va_A (pS g aS (aW 0) XS ++ (pW g aW (aP 0) (aQ 0) XW ++ (pP g aP XP))) sz) := by
  refine Met.ofW (cc := cX3_endSentenceOf) (maxL := 5) (ret := none) (by decide) rfl ?_
  intro p e s m args below meth c s₁ B hml hv
  obtain ⟨hargs, hsz, hP, hKW, hD0⟩ := hv
  have hK := hKW.1
  have hx := B.exec
  have hb := B.bytes
  have hr := B.returns
  have hts := atoms_spec (ws := wsX3_endSentenceOf) B.pre
  have hown : s.vm.findClass RX3 = some m.cls := findClass_of_methodNamed B.named
  have hlocks := B.notSynchronized
  subst hsz
  have hD := hD0.self (sz := s.heap.size)
  generalize hAe : va_A (pS g aS (aW 0) XS ++ (pW g aW (aP 0) (aQ 0) XW ++ (pP g aP XP))) s.heap.size = A at hD ⊢
  have hA : ∀ q : Nat, s.heap.size ≤ q → A q := fun q h => by rw [← hAe]; exact Or.inr h
  have hS : va_S A s.heap s.heap [] := va_S.rf
  have i_X3 : ∀ w ∈ wsX30, w ∈ wsX3_endSentenceOf := fun w h => List.mem_cons_of_mem _ (List.mem_append_left _ (List.mem_append_left _ (List.mem_append_right _ h)))
  have i_X4 : ∀ w ∈ wsX40, w ∈ wsX3_endSentenceOf := fun w h => List.mem_cons_of_mem _ (List.mem_append_left _ (List.mem_append_right _ h))
  have i_X2 : ∀ w ∈ wsX20, w ∈ wsX3_endSentenceOf := fun w h => List.mem_cons_of_mem _ (List.mem_append_right _ h)
  have hent : entryFrame m args 5 = F0 m 0 ((lg_sl ([.ref (aS 0), .int p1]) ++ List.replicate (5 - (lg_sl ([.ref (aS 0), .int p1])).length) Slot.unset).toArray) [] := by rw [hargs]; exact lg_entry_eq _ _ _
  rw [hent]
  have hl := lv_entry ([.ref (aS 0), .int p1]) (n := 5) (Nat.le_of_ble_eq_true rfl)
  generalize (lg_sl ([.ref (aS 0), .int p1]) ++ List.replicate (5 - (lg_sl ([.ref (aS 0), .int p1])).length) Slot.unset).toArray = ls at hl ⊢
  have hl : lv_has ls 5 [(0, .ref (aS 0)), (1, .int p1)] := hl
  generalize hQ0 : MQ below _ _ _ _ _ _ = Q0
  unfold fX3_endSentenceOf at hf
  refine lv_aload_n hx hb dX3_endSentenceOf_0 rfl (lv_at hl 0 rfl) ?_
  refine va_get (D := g.1) (ci := 3) (v := .ref (aW 0)) (C := RX3) (T := TX3) (N := 15) hx hb hts i_X3 hown hK hP 0 rfl rfl 0 (by decide) (hts (.fieldLink RX3 9 "WordFlasher$State" "words" "LWordFlasher$Words;") (List.mem_of_getElem? (i := 1) rfl)) (fun _ h9 => h9) rfl dX3_endSentenceOf_1 ?_
  refine va_get (D := g.1) (ci := 4) (v := .ref (aP 0)) (C := RX4) (T := TX4) (N := 9) hx hb hts i_X4 hown hK hP 7 rfl rfl 6 (by decide) (hts (.fieldLink RX3 144 "WordFlasher$Words" "sentences" "LWordFlasher$Spans;") (List.mem_of_getElem? (i := 2) rfl)) (fun _ h9 => h9) rfl dX3_endSentenceOf_4 ?_
  refine va_get (D := g.1) (ci := 2) (v := .ref (aP 3)) (C := RX2) (T := TX2) (N := 4) hx hb hts i_X2 hown hK hP 14 rfl rfl 2 (by decide) (hts (.fieldLink RX3 148 "WordFlasher$Spans" "numbers" "[I") (List.mem_of_getElem? (i := 3) rfl)) (fun _ h9 => h9) rfl dX3_endSentenceOf_7 ?_
  refine lv_iload_n hx hb dX3_endSentenceOf_10 rfl (lv_at hl 1 rfl) ?_
  obtain ⟨r1, h2, hf⟩ := bnd_el hf
  refine rdN (As := [.ref (aP 3), .int p1]) (rest := []) ⟨hx, hb, hml, hown, hts⟩ (c_X5_at l g (aP 3) 150 _ _ _ h2) ⟨va_cnB 2 hts gX3_endSentenceOf_X5_at_n99 rfl rfl rfl (hKW.2 _ (List.mem_of_getElem? (i := 6) rfl)) (hts (.initialized RX5) (List.mem_of_getElem? (i := 13) rfl)) (by decide +kernel) ⟨Nat.le_of_ble_eq_true rfl, Nat.le_of_ble_eq_true rfl⟩, (hts (.static yX5_at) (List.mem_of_getElem? (i := 12) rfl)), trivial⟩ hKW hP [17] rfl rfl hl.1 rfl (lv_room (Nat.le_of_ble_eq_true rfl)) dX3_endSentenceOf_11 ⟨Nat.zero_le _, Nat.zero_le _⟩ (fun r3 q4 => ?_)
  obtain ⟨q4, nb5⟩ := q4
  refine lv_as q4.symm ?_
  refine lv_istore_n (lv' := [(2, .int r1), (0, .ref (aS 0)), (1, .int p1)]) hx hb dX3_endSentenceOf_14 rfl hl (by decide) rfl (fun ls hl => ?_)
  refine lv_aload_n hx hb dX3_endSentenceOf_15 rfl (lv_at hl 1 rfl) ?_
  refine va_get (D := g.1) (ci := 3) (v := .ref (aW 0)) (C := RX3) (T := TX3) (N := 15) hx hb hts i_X3 hown hK hP 0 rfl rfl 0 (by decide) (hts (.fieldLink RX3 9 "WordFlasher$State" "words" "LWordFlasher$Words;") (List.mem_of_getElem? (i := 1) rfl)) (fun _ h9 => h9) rfl dX3_endSentenceOf_16 ?_
  refine va_get (D := g.1) (ci := 4) (v := .ref (aP 0)) (C := RX4) (T := TX4) (N := 9) hx hb hts i_X4 hown hK hP 7 rfl rfl 6 (by decide) (hts (.fieldLink RX3 144 "WordFlasher$Words" "sentences" "LWordFlasher$Spans;") (List.mem_of_getElem? (i := 2) rfl)) (fun _ h9 => h9) rfl dX3_endSentenceOf_19 ?_
  refine va_get (D := g.1) (ci := 2) (v := .ref (aP 1)) (C := RX2) (T := TX2) (N := 4) hx hb hts i_X2 hown hK hP 14 rfl rfl 0 (by decide) (hts (.fieldLink RX3 153 "WordFlasher$Spans" "firsts" "[I") (List.mem_of_getElem? (i := 4) rfl)) (fun _ h9 => h9) rfl dX3_endSentenceOf_22 ?_
  refine lv_iload_n hx hb dX3_endSentenceOf_25 rfl (lv_at hl 0 rfl) ?_
  obtain ⟨r6, h7, hf⟩ := bnd_el hf
  refine rdN (As := [.ref (aP 1), .int r1]) (rest := []) ⟨hx, hb, hml, hown, hts⟩ (c_X5_at l g (aP 1) 150 _ _ _ h7) ⟨va_cnB 2 hts gX3_endSentenceOf_X5_at_n99 rfl rfl rfl (hKW.2 _ (List.mem_of_getElem? (i := 6) rfl)) (hts (.initialized RX5) (List.mem_of_getElem? (i := 13) rfl)) (by decide +kernel) ⟨Nat.le_of_ble_eq_true rfl, Nat.le_of_ble_eq_true rfl⟩, (hts (.static yX5_at) (List.mem_of_getElem? (i := 12) rfl)), trivial⟩ hKW hP [15] rfl rfl hl.1 rfl (lv_room (Nat.le_of_ble_eq_true rfl)) dX3_endSentenceOf_26 ⟨Nat.zero_le _, Nat.zero_le _⟩ (fun r8 q9 => ?_)
  obtain ⟨q9, nb10⟩ := q9
  refine lv_as q9.symm ?_
  refine lv_istore_n (lv' := [(3, .int r6), (2, .int r1), (0, .ref (aS 0)), (1, .int p1)]) hx hb dX3_endSentenceOf_29 rfl hl (by decide) rfl (fun ls hl => ?_)
  refine lv_iconst (v := 0) hx hb dX3_endSentenceOf_30 (by decide) ?_
  refine lv_istore (lv' := [(4, .int 0), (3, .int r6), (2, .int r1), (0, .ref (aS 0)), (1, .int p1)]) hx hb dX3_endSentenceOf_31 hl (by decide) rfl (fun ls hl => ?_)
  obtain ⟨j100, ej100, hf⟩ := sl_el hf
  have J_100 : ∀ (XS : DM) (H : Heap) (locs : List Loc) (ls : Array Slot), va_P g.1 vwCl (pS g aS (aW 0) XS ++ (pW g aW (aP 0) (aQ 0) XW ++ (pP g aP XP))) H → va_D A (pS g aS (aW 0) XS ++ (pW g aW (aP 0) (aQ 0) XW ++ (pP g aP XP))) → va_S A s.heap H locs → lv_has ls 5 [(0, .ref (aS 0))] → j100 XS = some XSz → W p l e (headSpec wsX3_endSentenceOf rmX3_endSentenceOf).room s m args below meth c H locs 0 0 Q0 (F0 m 100 ls []) := by
    intro XS H locs ls hP hD hS hl hf
    rw [ej100] at hf
    refine lv_aload_n hx hb dX3_endSentenceOf_100 rfl (lv_at hl 0 rfl) ?_
    refine lv_iconst (v := 0) hx hb dX3_endSentenceOf_101 (by decide) ?_
    obtain ⟨X11, e12, hf⟩ := sl_el hf
    refine va_put (D := g.1) (ci := 3) (v := .int 0) (ty := .boolean) (C := RX3) (T := TX3) (N := 15) hx hb hts i_X3 tyX3 tyX3_ok nmX3 hown hK hP hD hS 0 rfl rfl 11 (by decide) (hts (.fieldLink RX3 63 "WordFlasher$State" "askedBack" "Z") (List.mem_of_getElem? (i := 5) rfl)) (fun _ h9 => h9) rfl (by decide +kernel) rfl rfl (Nat.le_of_ble_eq_true rfl) dX3_endSentenceOf_102 (fun H locs hP hD hS => ?_)
    have hP : va_P g.1 vwCl (pS g aS (aW 0) X11 ++ (pW g aW (aP 0) (aQ 0) XW ++ (pP g aP XP))) H := by subst e12; exact hP
    have hD : va_D A (pS g aS (aW 0) X11 ++ (pW g aW (aP 0) (aQ 0) XW ++ (pP g aP XP))) := by subst e12; exact hD
    have er0 := Option.some.inj hf
    rw [← hQ0]; exact W.vret hx hb hr (fun t ht hW => ⟨⟨(), rfl, trivial, by dsimp only; rw [ht, ← er0]; exact hP⟩, hS.F ht⟩) hS.2.2 dX3_endSentenceOf_105
  have L_33 : ∀ fu : Nat, ∀ (x1 x3 x4 : Int32) (XS : DM) (H : Heap) (locs : List Loc) (ls : Array Slot), va_P g.1 vwCl (pS g aS (aW 0) XS ++ (pW g aW (aP 0) (aQ 0) XW ++ (pP g aP XP))) H → va_D A (pS g aS (aW 0) XS ++ (pW g aW (aP 0) (aQ 0) XW ++ (pP g aP XP))) → va_S A s.heap H locs → lv_has ls 5 [(0, .ref (aS 0)), (1, .int x1), (3, .int x3), (4, .int x4)] → fX3_endSentenceOf_L33 n XW XP j100 fu x1 x3 x4 XS = some XSz → W p l e (headSpec wsX3_endSentenceOf rmX3_endSentenceOf).room s m args below meth c H locs 0 0 Q0 (F0 m 33 ls []) := by
    intro fu
    induction fu with
    | zero => intros; rename_i hf; rw [fX3_endSentenceOf_L33] at hf; cases hf
    | succ fu ih =>
      intro x1 x3 x4 XS H locs ls hP hD hS hl hf
      rw [fX3_endSentenceOf_L33] at hf
      refine lv_iload hx hb dX3_endSentenceOf_33 (lv_at hl 3 rfl) ?_
      refine lv_iconst (v := 3) hx hb dX3_endSentenceOf_35 (by decide) ?_
      refine lv_icmp_ge (tgt := 100) hx hb dX3_endSentenceOf_36 (by decide) (fun c13 => ?_) (fun c13 => ?_)
      · have hf := ite_t hf c13
        exact J_100 XS _ _ ls hP hD hS (lv_sub hl [0] rfl) hf
      · have hf := ite_f hf c13
        refine lv_aload_n hx hb dX3_endSentenceOf_39 rfl (lv_at hl 0 rfl) ?_
        refine va_get (D := g.1) (ci := 3) (v := .int (XS 11 0)) (C := RX3) (T := TX3) (N := 15) hx hb hts i_X3 hown hK hP 0 rfl rfl 11 (by decide) (hts (.fieldLink RX3 63 "WordFlasher$State" "askedBack" "Z") (List.mem_of_getElem? (i := 5) rfl)) (fun _ h9 => h9) rfl dX3_endSentenceOf_40 ?_
        refine lv_if_ne (tgt := 100) hx hb dX3_endSentenceOf_43 (by decide) (fun c14 => ?_) (fun c14 => ?_)
        · have hf := ite_f hf c14
          exact J_100 XS _ _ ls hP hD hS (lv_sub hl [0] rfl) hf
        · have hf := ite_t hf c14
          refine lv_aload_n hx hb dX3_endSentenceOf_46 rfl (lv_at hl 0 rfl) ?_
          refine va_get (D := g.1) (ci := 3) (v := .ref (aW 0)) (C := RX3) (T := TX3) (N := 15) hx hb hts i_X3 hown hK hP 0 rfl rfl 0 (by decide) (hts (.fieldLink RX3 9 "WordFlasher$State" "words" "LWordFlasher$Words;") (List.mem_of_getElem? (i := 1) rfl)) (fun _ h9 => h9) rfl dX3_endSentenceOf_47 ?_
          refine lv_iload hx hb dX3_endSentenceOf_50 (lv_at hl 3 rfl) ?_
          refine lv_iload_n hx hb dX3_endSentenceOf_52 rfl (lv_at hl 2 rfl) ?_
          refine lv_iload_n hx hb dX3_endSentenceOf_53 rfl (lv_at hl 1 rfl) ?_
          obtain ⟨r15, h16, hf⟩ := bnd_el hf
          refine rdV (As := [.int x4, .int x3, .int x1]) (rest := []) ⟨hx, hb, hml, hown, hts⟩ (c_X4_hasClassAmong l g aW aP aQ _ _ _ _ _ _ h16) (cwV 3 hts gX3_endSentenceOf_X4_hasClassAmong rfl rfl rfl (by decide +kernel) ⟨Nat.le_of_ble_eq_true rfl, Nat.le_of_ble_eq_true rfl⟩) hKW hP [7, 8, 9, 10, 11, 12, 13] rfl (va_recv hK hP (ci := 4) (q0 := 7) rfl rfl) rfl hl.1 rfl (lv_room (Nat.le_of_ble_eq_true rfl)) dX3_endSentenceOf_54 ⟨Nat.zero_le _, Nat.zero_le _⟩ (fun r17 q18 => ?_)
          obtain ⟨q18, nb19⟩ := q18
          refine lv_as q18.symm ?_
          rw [q18] at nb19
          obtain ⟨j94, ej94, hf⟩ := sl_el hf
          have J_94 : ∀ (x1 x3 x4 : Int32) (XS : DM) (H : Heap) (locs : List Loc) (ls : Array Slot), va_P g.1 vwCl (pS g aS (aW 0) XS ++ (pW g aW (aP 0) (aQ 0) XW ++ (pP g aP XP))) H → va_D A (pS g aS (aW 0) XS ++ (pW g aW (aP 0) (aQ 0) XW ++ (pP g aP XP))) → va_S A s.heap H locs → lv_has ls 5 [(0, .ref (aS 0)), (1, .int x1), (3, .int x3), (4, .int x4)] → j94 x1 x3 x4 XS = some XSz → W p l e (headSpec wsX3_endSentenceOf rmX3_endSentenceOf).room s m args below meth c H locs 0 0 Q0 (F0 m 94 ls []) := by
            intro x1 x3 x4 XS H locs ls hP hD hS hl hf
            rw [ej94] at hf
            obtain ⟨v20, e21, hf⟩ := sl_el hf
            refine lv_iinc (v := v20) (lv' := [(4, .int v20), (0, .ref (aS 0)), (1, .int x1), (3, .int x3)]) hx hb dX3_endSentenceOf_94 hl (k := 3) rfl (by rw [e21]; rfl) (by decide) rfl (fun ls hl => ?_)
            refine lv_goto (tgt := 33) hx hb dX3_endSentenceOf_97 (by decide) ?_
            exact ih x1 x3 v20 XS _ _ ls hP hD hS (lv_sub hl [1, 2, 3, 0] rfl) hf
          refine lv_if_eq (tgt := 94) hx hb dX3_endSentenceOf_57 (by decide) (fun c22 => ?_) (fun c22 => ?_)
          · have hf := ite_t hf c22
            exact J_94 x1 x3 x4 XS _ _ ls hP hD hS (lv_sub hl [0, 1, 2, 3] rfl) hf
          · have hf := ite_f hf c22
            refine lv_aload_n hx hb dX3_endSentenceOf_60 rfl (lv_at hl 0 rfl) ?_
            refine va_get (D := g.1) (ci := 3) (v := .ref (aS 3)) (C := RX3) (T := TX3) (N := 15) hx hb hts i_X3 hown hK hP 0 rfl rfl 4 (by decide) (hts (.fieldLink RX3 30 "WordFlasher$State" "speeds" "[I") (List.mem_of_getElem? (i := 6) rfl)) (fun _ h9 => h9) rfl dX3_endSentenceOf_61 ?_
            refine lv_iload hx hb dX3_endSentenceOf_64 (lv_at hl 3 rfl) ?_
            refine lv_sipush (v := 400) hx hb dX3_endSentenceOf_66 (by decide) ?_
            refine lv_aload_n hx hb dX3_endSentenceOf_69 rfl (lv_at hl 0 rfl) ?_
            refine va_get (D := g.1) (ci := 3) (v := .ref (aS 3)) (C := RX3) (T := TX3) (N := 15) hx hb hts i_X3 hown hK hP 0 rfl rfl 4 (by decide) (hts (.fieldLink RX3 30 "WordFlasher$State" "speeds" "[I") (List.mem_of_getElem? (i := 6) rfl)) (fun _ h9 => h9) rfl dX3_endSentenceOf_70 ?_
            refine lv_iload hx hb dX3_endSentenceOf_73 (lv_at hl 3 rfl) ?_
            obtain ⟨r23, h24, hf⟩ := bnd_el hf
            refine rdN (As := [.ref (aS 3), .int x4]) (rest := [.int 400, .int x4, .ref (aS 3)]) ⟨hx, hb, hml, hown, hts⟩ (c_X5_at l g (aS 3) 3 _ _ _ h24) ⟨va_cnB 2 hts gX3_endSentenceOf_X5_at_n99 rfl rfl rfl (hKW.2 _ (List.mem_of_getElem? (i := 6) rfl)) (hts (.initialized RX5) (List.mem_of_getElem? (i := 13) rfl)) (by decide +kernel) ⟨Nat.le_of_ble_eq_true rfl, Nat.le_of_ble_eq_true rfl⟩, (hts (.static yX5_at) (List.mem_of_getElem? (i := 12) rfl)), trivial⟩ hKW hP [3] rfl rfl hl.1 rfl (lv_room (Nat.le_of_ble_eq_true rfl)) dX3_endSentenceOf_75 ⟨Nat.zero_le _, Nat.zero_le _⟩ (fun r25 q26 => ?_)
            obtain ⟨q26, nb27⟩ := q26
            refine lv_as q26.symm ?_
            refine lv_aload_n hx hb dX3_endSentenceOf_78 rfl (lv_at hl 0 rfl) ?_
            refine va_get (D := g.1) (ci := 3) (v := .ref (aS 2)) (C := RX3) (T := TX3) (N := 15) hx hb hts i_X3 hown hK hP 0 rfl rfl 3 (by decide) (hts (.fieldLink RX3 27 "WordFlasher$State" "settings" "[I") (List.mem_of_getElem? (i := 7) rfl)) (fun _ h9 => h9) rfl dX3_endSentenceOf_79 ?_
            refine lv_bipush (v := 6) hx hb dX3_endSentenceOf_82 (by decide) ?_
            obtain ⟨r28, h29, hf⟩ := bnd_el hf
            refine rdN (As := [.ref (aS 2), .int 6]) (rest := [.int r23, .int 400, .int x4, .ref (aS 3)]) ⟨hx, hb, hml, hown, hts⟩ (c_X5_at l g (aS 2) 7 _ _ _ h29) ⟨va_cnB 2 hts gX3_endSentenceOf_X5_at_n99 rfl rfl rfl (hKW.2 _ (List.mem_of_getElem? (i := 6) rfl)) (hts (.initialized RX5) (List.mem_of_getElem? (i := 13) rfl)) (by decide +kernel) ⟨Nat.le_of_ble_eq_true rfl, Nat.le_of_ble_eq_true rfl⟩, (hts (.static yX5_at) (List.mem_of_getElem? (i := 12) rfl)), trivial⟩ hKW hP [2] rfl rfl hl.1 rfl (lv_room (Nat.le_of_ble_eq_true rfl)) dX3_endSentenceOf_84 ⟨Nat.zero_le _, Nat.zero_le _⟩ (fun r30 q31 => ?_)
            obtain ⟨q31, nb32⟩ := q31
            refine lv_as q31.symm ?_
            refine lv_iadd hx hb dX3_endSentenceOf_87 ?_
            obtain ⟨v33, e34, hf⟩ := sl_el hf
            refine va_mmin hx hb (hml.trans hl.1.symm) hown (hts (.methodLink RX3 160 Lib.Math.min.name) (List.mem_of_getElem? (i := 8) rfl)) (hts (.static Lib.Math.min.name) (List.mem_of_getElem? (i := 9) rfl)) (hts (.initialized "java/lang/Math") (List.mem_of_getElem? (i := 10) rfl)) (hts (.code Lib.Math.min.name Lib.Math.min.code 2 (some .int)) (List.mem_of_getElem? (i := 11) rfl)) (Nat.le_of_ble_eq_true rfl) (Nat.le_of_ble_eq_true rfl) (Nat.zero_le _) (Nat.zero_le _) dX3_endSentenceOf_88 ?_
            refine lv_as e34 ?_
            obtain ⟨f35, h36, hf⟩ := bnd_el hf
            obtain ⟨X37, e38, hf⟩ := sl_el hf
            refine wr_v (rest := []) (wc := (pR g (aS 3) 3 (XS 4))) (wc' := (pR g (aS 3) 3 f35)) (ws2 := (pS g aS (aW 0) X37 ++ (pW g aW (aP 0) (aQ 0) XW ++ (pP g aP XP)))) hP hD hS hA [3] rfl rfl (by subst e38; rfl) (rnN (As := [.ref (aS 3), .int x4, .int v33]) ⟨hx, hb, hml, hown, hts⟩ (c_X5_put l g (aS 3) 3 _ _ _ _ _ h36) ⟨va_cnB 3 hts gX3_endSentenceOf_X5_put_n133 rfl rfl rfl (hKW.2 _ (List.mem_of_getElem? (i := 9) rfl)) (hts (.initialized RX5) (List.mem_of_getElem? (i := 13) rfl)) (by decide +kernel) ⟨Nat.le_of_ble_eq_true rfl, Nat.le_of_ble_eq_true rfl⟩, (hts (.static yX5_put) (List.mem_of_getElem? (i := 30) rfl)), trivial⟩ hKW hP hD [3] (by decide) rfl rfl hl.1 rfl (lv_room (Nat.le_of_ble_eq_true rfl)) dX3_endSentenceOf_91 ⟨Nat.zero_le _, Nat.zero_le _⟩) (fun H locs hP hD hS => ?_)
            exact J_94 x1 x3 x4 X37 _ _ ls hP hD hS (lv_sub hl [0, 1, 2, 3] rfl) hf
  exact L_33 n p1 r6 0 XS _ _ ls hP hD hS (lv_sub hl [3, 4, 1, 0] rfl) hf
abbrev rmX3_letPass : Room := { frames := 4, cells := 0, slots := 0, locals := 91 }
set_option maxHeartbeats 8000000 in
set_option maxRecDepth 100000 in
theorem c_X3_letPass (l : Launch) (g : GG) (aS : Nat → Nat) (aW : Nat → Nat) (aP : Nat → Nat) (aQ : Nat → Nat) (sz : Nat) (n : Nat) (XS : DM) (XW : DM) (XP : DM) (p1 : Int32) (r : Int32) (XSz : DM) (hf : fX3_letPass n XS XW XP p1 = some (r, XSz)) : Met l yX3_letPass wsX3_letPass rmX3_letPass (va_Pc [.ref (aS 0), .int p1] (fun U => U.heap.size = sz ∧ va_P g.1 vwCl (pS g aS (aW 0) XS ++ (pW g aW (aP 0) (aQ 0) XW ++ (pP g aP XP))) U.heap ∧ KW g U ∧ va_D (fun _ => True) (pS g aS (aW 0) XS ++ (pW g aW (aP 0) (aQ 0) XW ++ (pP g aP XP))))) (va_Qi (fun r' (_ : Unit) => r' = r ∧ True) (fun (_ : Unit) t => va_P g.1 vwCl (pS g aS (aW 0) XSz ++ (pW g aW (aP 0) (aQ 0) XW ++ (pP g aP XP))) t.heap) (va_A (pS g aS (aW 0) XS ++ (pW g aW (aP 0) (aQ 0) XW ++ (pP g aP XP))) sz)) 0 0 (va_A (pS g aS (aW 0) XS ++ (pW g aW (aP 0) (aQ 0) XW ++ (pP g aP XP))) sz) := by
  refine Met.ofW (cc := cX3_letPass) (maxL := 5) (ret := (some .int)) (by decide) rfl ?_
  intro p e s m args below meth c s₁ B hml hv
  obtain ⟨hargs, hsz, hP, hKW, hD0⟩ := hv
  have hK := hKW.1
  have hx := B.exec
  have hb := B.bytes
  have hr := B.returns
  have hts := atoms_spec (ws := wsX3_letPass) B.pre
  have hown : s.vm.findClass RX3 = some m.cls := findClass_of_methodNamed B.named
  have hlocks := B.notSynchronized
  subst hsz
  have hD := hD0.self (sz := s.heap.size)
  generalize hAe : va_A (pS g aS (aW 0) XS ++ (pW g aW (aP 0) (aQ 0) XW ++ (pP g aP XP))) s.heap.size = A at hD ⊢
  have hA : ∀ q : Nat, s.heap.size ≤ q → A q := fun q h => by rw [← hAe]; exact Or.inr h
  have hS : va_S A s.heap s.heap [] := va_S.rf
  have i_X3 : ∀ w ∈ wsX30, w ∈ wsX3_letPass := fun w h => List.mem_cons_of_mem _ (List.mem_append_left _ (List.mem_append_left _ (List.mem_append_right _ h)))
  have i_X4 : ∀ w ∈ wsX40, w ∈ wsX3_letPass := fun w h => List.mem_cons_of_mem _ (List.mem_append_left _ (List.mem_append_right _ h))
  have i_X2 : ∀ w ∈ wsX20, w ∈ wsX3_letPass := fun w h => List.mem_cons_of_mem _ (List.mem_append_right _ h)
  have hent : entryFrame m args 5 = F0 m 0 ((lg_sl ([.ref (aS 0), .int p1]) ++ List.replicate (5 - (lg_sl ([.ref (aS 0), .int p1])).length) Slot.unset).toArray) [] := by rw [hargs]; exact lg_entry_eq _ _ _
  rw [hent]
  have hl := lv_entry ([.ref (aS 0), .int p1]) (n := 5) (Nat.le_of_ble_eq_true rfl)
  generalize (lg_sl ([.ref (aS 0), .int p1]) ++ List.replicate (5 - (lg_sl ([.ref (aS 0), .int p1])).length) Slot.unset).toArray = ls at hl ⊢
  have hl : lv_has ls 5 [(0, .ref (aS 0)), (1, .int p1)] := hl
  generalize hQ0 : MQ below _ _ _ _ _ _ = Q0
  unfold fX3_letPass at hf
  refine lv_iload_n hx hb dX3_letPass_0 rfl (lv_at hl 1 rfl) ?_
  refine lv_istore_n (lv' := [(2, .int p1), (0, .ref (aS 0)), (1, .int p1)]) hx hb dX3_letPass_1 rfl hl (by decide) rfl (fun ls hl => ?_)
  refine lv_iconst (v := 0) hx hb dX3_letPass_2 (by decide) ?_
  refine lv_istore_n (lv' := [(3, .int 0), (2, .int p1), (0, .ref (aS 0)), (1, .int p1)]) hx hb dX3_letPass_3 rfl hl (by decide) rfl (fun ls hl => ?_)
  obtain ⟨j96, ej96, hf⟩ := sl_el hf
  have J_96 : ∀ (x2 x3 : Int32) (XS : DM) (H : Heap) (locs : List Loc) (ls : Array Slot), va_P g.1 vwCl (pS g aS (aW 0) XS ++ (pW g aW (aP 0) (aQ 0) XW ++ (pP g aP XP))) H → va_D A (pS g aS (aW 0) XS ++ (pW g aW (aP 0) (aQ 0) XW ++ (pP g aP XP))) → va_S A s.heap H locs → lv_has ls 5 [(0, .ref (aS 0)), (2, .int x2), (3, .int x3)] → j96 x2 x3 XS = some (r, XSz) → W p l e (headSpec wsX3_letPass rmX3_letPass).room s m args below meth c H locs 0 0 Q0 (F0 m 96 ls []) := by
    intro x2 x3 XS H locs ls hP hD hS hl hf
    rw [ej96] at hf
    refine lv_aload_n hx hb dX3_letPass_96 rfl (lv_at hl 0 rfl) ?_
    refine va_get (D := g.1) (ci := 3) (v := .int (XS 6 0)) (C := RX3) (T := TX3) (N := 15) hx hb hts i_X3 hown hK hP 0 rfl rfl 6 (by decide) (hts (.fieldLink RX3 46 "WordFlasher$State" "present" "I") (List.mem_of_getElem? (i := 1) rfl)) (fun _ h9 => h9) rfl dX3_letPass_97 ?_
    refine lv_iconst (v := (-1)) hx hb dX3_letPass_100 (by decide) ?_
    obtain ⟨j124, ej124, hf⟩ := sl_el hf
    have J_124 : ∀ (x3 : Int32) (XS : DM) (H : Heap) (locs : List Loc) (ls : Array Slot), va_P g.1 vwCl (pS g aS (aW 0) XS ++ (pW g aW (aP 0) (aQ 0) XW ++ (pP g aP XP))) H → va_D A (pS g aS (aW 0) XS ++ (pW g aW (aP 0) (aQ 0) XW ++ (pP g aP XP))) → va_S A s.heap H locs → lv_has ls 5 [(0, .ref (aS 0)), (3, .int x3)] → j124 x3 XS = some (r, XSz) → W p l e (headSpec wsX3_letPass rmX3_letPass).room s m args below meth c H locs 0 0 Q0 (F0 m 124 ls []) := by
      intro x3 XS H locs ls hP hD hS hl hf
      rw [ej124] at hf
      refine lv_aload_n hx hb dX3_letPass_124 rfl (lv_at hl 0 rfl) ?_
      refine lv_dup hx hb dX3_letPass_125 rfl ?_
      refine va_get (D := g.1) (ci := 3) (v := .int (XS 13 0)) (C := RX3) (T := TX3) (N := 15) hx hb hts i_X3 hown hK hP 0 rfl rfl 13 (by decide) (hts (.fieldLink RX3 70 "WordFlasher$State" "wordsEnded" "I") (List.mem_of_getElem? (i := 5) rfl)) (fun _ h9 => h9) rfl dX3_letPass_126 ?_
      refine lv_iload_n hx hb dX3_letPass_129 rfl (lv_at hl 1 rfl) ?_
      refine lv_iadd hx hb dX3_letPass_130 ?_
      obtain ⟨X1, e2, hf⟩ := sl_el hf
      refine va_put (D := g.1) (ci := 3) (v := .int ((XS 13 0) + x3)) (ty := .int) (C := RX3) (T := TX3) (N := 15) hx hb hts i_X3 tyX3 tyX3_ok nmX3 hown hK hP hD hS 0 rfl rfl 13 (by decide) (hts (.fieldLink RX3 70 "WordFlasher$State" "wordsEnded" "I") (List.mem_of_getElem? (i := 5) rfl)) (fun _ h9 => h9) rfl (by decide +kernel) rfl rfl (Nat.le_of_ble_eq_true rfl) dX3_letPass_131 (fun H locs hP hD hS => ?_)
      have hP : va_P g.1 vwCl (pS g aS (aW 0) X1 ++ (pW g aW (aP 0) (aQ 0) XW ++ (pP g aP XP))) H := by subst e2; exact hP
      have hD : va_D A (pS g aS (aW 0) X1 ++ (pW g aW (aP 0) (aQ 0) XW ++ (pP g aP XP))) := by subst e2; exact hD
      refine lv_iload_n hx hb dX3_letPass_134 rfl (lv_at hl 1 rfl) ?_
      have er0 := Option.some.inj hf
      obtain ⟨er0, er1⟩ := Prod.mk.inj er0
      rw [← hQ0]; exact W.iret (v := x3) hx hb hr (fun t ht hW => ⟨⟨x3, (), rfl, ⟨er0, trivial⟩, by dsimp only; rw [ht, ← er1]; exact hP⟩, hS.F ht⟩) hS.2.2 dX3_letPass_135
    refine lv_icmp_eq (tgt := 124) hx hb dX3_letPass_101 (by decide) (fun c3 => ?_) (fun c3 => ?_)
    · have hf := ite_t hf c3
      exact J_124 x3 XS _ _ ls hP hD hS (lv_sub hl [0, 2] rfl) hf
    · have hf := ite_f hf c3
      refine lv_aload_n hx hb dX3_letPass_104 rfl (lv_at hl 0 rfl) ?_
      refine lv_dup hx hb dX3_letPass_105 rfl ?_
      refine va_get (D := g.1) (ci := 3) (v := .int (XS 7 0)) (C := RX3) (T := TX3) (N := 15) hx hb hts i_X3 hown hK hP 0 rfl rfl 7 (by decide) (hts (.fieldLink RX3 57 "WordFlasher$State" "rest" "I") (List.mem_of_getElem? (i := 2) rfl)) (fun _ h9 => h9) rfl dX3_letPass_106 ?_
      refine lv_iload_n hx hb dX3_letPass_109 rfl (lv_at hl 1 rfl) ?_
      refine lv_isub hx hb dX3_letPass_110 ?_
      obtain ⟨X4, e5, hf⟩ := sl_el hf
      refine va_put (D := g.1) (ci := 3) (v := .int ((XS 7 0) - x2)) (ty := .int) (C := RX3) (T := TX3) (N := 15) hx hb hts i_X3 tyX3 tyX3_ok nmX3 hown hK hP hD hS 0 rfl rfl 7 (by decide) (hts (.fieldLink RX3 57 "WordFlasher$State" "rest" "I") (List.mem_of_getElem? (i := 2) rfl)) (fun _ h9 => h9) rfl (by decide +kernel) rfl rfl (Nat.le_of_ble_eq_true rfl) dX3_letPass_111 (fun H locs hP hD hS => ?_)
      have hP : va_P g.1 vwCl (pS g aS (aW 0) X4 ++ (pW g aW (aP 0) (aQ 0) XW ++ (pP g aP XP))) H := by subst e5; exact hP
      have hD : va_D A (pS g aS (aW 0) X4 ++ (pW g aW (aP 0) (aQ 0) XW ++ (pP g aP XP))) := by subst e5; exact hD
      refine lv_aload_n hx hb dX3_letPass_114 rfl (lv_at hl 0 rfl) ?_
      refine lv_dup hx hb dX3_letPass_115 rfl ?_
      refine va_get (D := g.1) (ci := 3) (v := .int (X4 12 0)) (C := RX3) (T := TX3) (N := 15) hx hb hts i_X3 hown hK hP 0 rfl rfl 12 (by decide) (hts (.fieldLink RX3 67 "WordFlasher$State" "ticksGone" "I") (List.mem_of_getElem? (i := 3) rfl)) (fun _ h9 => h9) rfl dX3_letPass_116 ?_
      refine lv_iload_n hx hb dX3_letPass_119 rfl (lv_at hl 1 rfl) ?_
      refine lv_iadd hx hb dX3_letPass_120 ?_
      obtain ⟨X6, e7, hf⟩ := sl_el hf
      refine va_put (D := g.1) (ci := 3) (v := .int ((X4 12 0) + x2)) (ty := .int) (C := RX3) (T := TX3) (N := 15) hx hb hts i_X3 tyX3 tyX3_ok nmX3 hown hK hP hD hS 0 rfl rfl 12 (by decide) (hts (.fieldLink RX3 67 "WordFlasher$State" "ticksGone" "I") (List.mem_of_getElem? (i := 3) rfl)) (fun _ h9 => h9) rfl (by decide +kernel) rfl rfl (Nat.le_of_ble_eq_true rfl) dX3_letPass_121 (fun H locs hP hD hS => ?_)
      have hP : va_P g.1 vwCl (pS g aS (aW 0) X6 ++ (pW g aW (aP 0) (aQ 0) XW ++ (pP g aP XP))) H := by subst e7; exact hP
      have hD : va_D A (pS g aS (aW 0) X6 ++ (pW g aW (aP 0) (aQ 0) XW ++ (pP g aP XP))) := by subst e7; exact hD
      exact J_124 x3 X6 _ _ ls hP hD hS (lv_sub hl [0, 2] rfl) hf
  have L_4 : ∀ fu : Nat, ∀ (x2 x3 : Int32) (XS : DM) (H : Heap) (locs : List Loc) (ls : Array Slot), va_P g.1 vwCl (pS g aS (aW 0) XS ++ (pW g aW (aP 0) (aQ 0) XW ++ (pP g aP XP))) H → va_D A (pS g aS (aW 0) XS ++ (pW g aW (aP 0) (aQ 0) XW ++ (pP g aP XP))) → va_S A s.heap H locs → lv_has ls 5 [(0, .ref (aS 0)), (2, .int x2), (3, .int x3)] → fX3_letPass_L4 n XW XP j96 fu x2 x3 XS = some (r, XSz) → W p l e (headSpec wsX3_letPass rmX3_letPass).room s m args below meth c H locs 0 0 Q0 (F0 m 4 ls []) := by
    intro fu
    induction fu with
    | zero => intros; rename_i hf; rw [fX3_letPass_L4] at hf; cases hf
    | succ fu ih =>
      intro x2 x3 XS H locs ls hP hD hS hl hf
      rw [fX3_letPass_L4] at hf
      refine lv_iload_n hx hb dX3_letPass_4 rfl (lv_at hl 2 rfl) ?_
      refine lv_sipush (v := 150) hx hb dX3_letPass_5 (by decide) ?_
      refine lv_icmp_ge (tgt := 96) hx hb dX3_letPass_8 (by decide) (fun c8 => ?_) (fun c8 => ?_)
      · have hf := ite_t hf c8
        exact J_96 x2 x3 XS _ _ ls hP hD hS (lv_sub hl [0, 1, 2] rfl) hf
      · have hf := ite_f hf c8
        refine lv_aload_n hx hb dX3_letPass_11 rfl (lv_at hl 0 rfl) ?_
        refine va_get (D := g.1) (ci := 3) (v := .int (XS 6 0)) (C := RX3) (T := TX3) (N := 15) hx hb hts i_X3 hown hK hP 0 rfl rfl 6 (by decide) (hts (.fieldLink RX3 46 "WordFlasher$State" "present" "I") (List.mem_of_getElem? (i := 1) rfl)) (fun _ h9 => h9) rfl dX3_letPass_12 ?_
        refine lv_iconst (v := (-1)) hx hb dX3_letPass_15 (by decide) ?_
        refine lv_icmp_eq (tgt := 96) hx hb dX3_letPass_16 (by decide) (fun c9 => ?_) (fun c9 => ?_)
        · have hf := ite_t hf c9
          exact J_96 x2 x3 XS _ _ ls hP hD hS (lv_sub hl [0, 1, 2] rfl) hf
        · have hf := ite_f hf c9
          refine lv_iload_n hx hb dX3_letPass_19 rfl (lv_at hl 1 rfl) ?_
          refine lv_aload_n hx hb dX3_letPass_20 rfl (lv_at hl 0 rfl) ?_
          refine va_get (D := g.1) (ci := 3) (v := .int (XS 7 0)) (C := RX3) (T := TX3) (N := 15) hx hb hts i_X3 hown hK hP 0 rfl rfl 7 (by decide) (hts (.fieldLink RX3 57 "WordFlasher$State" "rest" "I") (List.mem_of_getElem? (i := 2) rfl)) (fun _ h9 => h9) rfl dX3_letPass_21 ?_
          refine lv_icmp_lt (tgt := 96) hx hb dX3_letPass_24 (by decide) (fun c10 => ?_) (fun c10 => ?_)
          · have hf := ite_t hf c10
            exact J_96 x2 x3 XS _ _ ls hP hD hS (lv_sub hl [0, 1, 2] rfl) hf
          · have hf := ite_f hf c10
            refine lv_iload_n hx hb dX3_letPass_27 rfl (lv_at hl 1 rfl) ?_
            refine lv_aload_n hx hb dX3_letPass_28 rfl (lv_at hl 0 rfl) ?_
            refine va_get (D := g.1) (ci := 3) (v := .int (XS 7 0)) (C := RX3) (T := TX3) (N := 15) hx hb hts i_X3 hown hK hP 0 rfl rfl 7 (by decide) (hts (.fieldLink RX3 57 "WordFlasher$State" "rest" "I") (List.mem_of_getElem? (i := 2) rfl)) (fun _ h9 => h9) rfl dX3_letPass_29 ?_
            refine lv_isub hx hb dX3_letPass_32 ?_
            obtain ⟨v11, e12, hf⟩ := sl_el hf
            refine lv_as e12 ?_
            refine lv_istore_n (lv' := [(2, .int v11), (0, .ref (aS 0)), (3, .int x3)]) hx hb dX3_letPass_33 rfl hl (by decide) rfl (fun ls hl => ?_)
            refine lv_aload_n hx hb dX3_letPass_34 rfl (lv_at hl 1 rfl) ?_
            refine lv_dup hx hb dX3_letPass_35 rfl ?_
            refine va_get (D := g.1) (ci := 3) (v := .int (XS 12 0)) (C := RX3) (T := TX3) (N := 15) hx hb hts i_X3 hown hK hP 0 rfl rfl 12 (by decide) (hts (.fieldLink RX3 67 "WordFlasher$State" "ticksGone" "I") (List.mem_of_getElem? (i := 3) rfl)) (fun _ h9 => h9) rfl dX3_letPass_36 ?_
            refine lv_aload_n hx hb dX3_letPass_39 rfl (lv_at hl 1 rfl) ?_
            refine va_get (D := g.1) (ci := 3) (v := .int (XS 7 0)) (C := RX3) (T := TX3) (N := 15) hx hb hts i_X3 hown hK hP 0 rfl rfl 7 (by decide) (hts (.fieldLink RX3 57 "WordFlasher$State" "rest" "I") (List.mem_of_getElem? (i := 2) rfl)) (fun _ h9 => h9) rfl dX3_letPass_40 ?_
            refine lv_iadd hx hb dX3_letPass_43 ?_
            obtain ⟨X13, e14, hf⟩ := sl_el hf
            refine va_put (D := g.1) (ci := 3) (v := .int ((XS 12 0) + (XS 7 0))) (ty := .int) (C := RX3) (T := TX3) (N := 15) hx hb hts i_X3 tyX3 tyX3_ok nmX3 hown hK hP hD hS 0 rfl rfl 12 (by decide) (hts (.fieldLink RX3 67 "WordFlasher$State" "ticksGone" "I") (List.mem_of_getElem? (i := 3) rfl)) (fun _ h9 => h9) rfl (by decide +kernel) rfl rfl (Nat.le_of_ble_eq_true rfl) dX3_letPass_44 (fun H locs hP hD hS => ?_)
            have hP : va_P g.1 vwCl (pS g aS (aW 0) X13 ++ (pW g aW (aP 0) (aQ 0) XW ++ (pP g aP XP))) H := by subst e14; exact hP
            have hD : va_D A (pS g aS (aW 0) X13 ++ (pW g aW (aP 0) (aQ 0) XW ++ (pP g aP XP))) := by subst e14; exact hD
            obtain ⟨v15, e16, hf⟩ := sl_el hf
            refine lv_iinc (v := v15) (lv' := [(3, .int v15), (2, .int v11), (0, .ref (aS 0))]) hx hb dX3_letPass_47 hl (k := 2) rfl (by rw [e16]; rfl) (by decide) rfl (fun ls hl => ?_)
            refine lv_aload_n hx hb dX3_letPass_50 rfl (lv_at hl 2 rfl) ?_
            refine va_get (D := g.1) (ci := 3) (v := .ref (aW 0)) (C := RX3) (T := TX3) (N := 15) hx hb hts i_X3 hown hK hP 0 rfl rfl 0 (by decide) (hts (.fieldLink RX3 9 "WordFlasher$State" "words" "LWordFlasher$Words;") (List.mem_of_getElem? (i := 4) rfl)) (fun _ h9 => h9) rfl dX3_letPass_51 ?_
            refine lv_aload_n hx hb dX3_letPass_54 rfl (lv_at hl 2 rfl) ?_
            refine va_get (D := g.1) (ci := 3) (v := .int (X13 6 0)) (C := RX3) (T := TX3) (N := 15) hx hb hts i_X3 hown hK hP 0 rfl rfl 6 (by decide) (hts (.fieldLink RX3 46 "WordFlasher$State" "present" "I") (List.mem_of_getElem? (i := 1) rfl)) (fun _ h9 => h9) rfl dX3_letPass_55 ?_
            obtain ⟨r17, h18, hf⟩ := bnd_el hf
            refine rdV (As := [.int (X13 6 0)]) (rest := []) ⟨hx, hb, hml, hown, hts⟩ (c_X4_shownBehind l g aW aP aQ _ _ _ _ h18) (cwV 1 hts gX3_letPass_X4_shownBehind rfl rfl rfl (by decide +kernel) ⟨Nat.le_of_ble_eq_true rfl, Nat.le_of_ble_eq_true rfl⟩) hKW hP [7, 8, 9, 10, 11, 12, 13] rfl (va_recv hK hP (ci := 4) (q0 := 7) rfl rfl) rfl hl.1 rfl (lv_room (Nat.le_of_ble_eq_true rfl)) dX3_letPass_58 ⟨Nat.zero_le _, Nat.zero_le _⟩ (fun r19 q20 => ?_)
            obtain ⟨q20, nb21⟩ := q20
            refine lv_as q20.symm ?_
            refine lv_istore (lv' := [(4, .int r17), (3, .int v15), (2, .int v11), (0, .ref (aS 0))]) hx hb dX3_letPass_61 hl (by decide) rfl (fun ls hl => ?_)
            refine lv_aload_n hx hb dX3_letPass_63 rfl (lv_at hl 3 rfl) ?_
            refine va_get (D := g.1) (ci := 3) (v := .ref (aW 0)) (C := RX3) (T := TX3) (N := 15) hx hb hts i_X3 hown hK hP 0 rfl rfl 0 (by decide) (hts (.fieldLink RX3 9 "WordFlasher$State" "words" "LWordFlasher$Words;") (List.mem_of_getElem? (i := 4) rfl)) (fun _ h9 => h9) rfl dX3_letPass_64 ?_
            refine lv_iload hx hb dX3_letPass_67 (lv_at hl 0 rfl) ?_
            refine lv_aload_n hx hb dX3_letPass_69 rfl (lv_at hl 3 rfl) ?_
            refine va_get (D := g.1) (ci := 3) (v := .int (X13 6 0)) (C := RX3) (T := TX3) (N := 15) hx hb hts i_X3 hown hK hP 0 rfl rfl 6 (by decide) (hts (.fieldLink RX3 46 "WordFlasher$State" "present" "I") (List.mem_of_getElem? (i := 1) rfl)) (fun _ h9 => h9) rfl dX3_letPass_70 ?_
            obtain ⟨r22, h23, hf⟩ := bnd_el hf
            refine rdV (As := [.int r17, .int (X13 6 0)]) (rest := []) ⟨hx, hb, hml, hown, hts⟩ (c_X4_endsAheadOf l g aW aP aQ _ _ _ _ _ h23) (cwV 2 hts gX3_letPass_X4_endsAheadOf rfl rfl rfl (by decide +kernel) ⟨Nat.le_of_ble_eq_true rfl, Nat.le_of_ble_eq_true rfl⟩) hKW hP [7, 8, 9, 10, 11, 12, 13, 14, 15, 16, 17] rfl (va_recv hK hP (ci := 4) (q0 := 7) rfl rfl) rfl hl.1 rfl (lv_room (Nat.le_of_ble_eq_true rfl)) dX3_letPass_73 ⟨Nat.zero_le _, Nat.zero_le _⟩ (fun r24 q25 => ?_)
            obtain ⟨q25, nb26⟩ := q25
            refine lv_as q25.symm ?_
            rw [q25] at nb26
            obtain ⟨j87, ej87, hf⟩ := sl_el hf
            have J_87 : ∀ (x2 x3 x4 : Int32) (XS : DM) (H : Heap) (locs : List Loc) (ls : Array Slot), va_P g.1 vwCl (pS g aS (aW 0) XS ++ (pW g aW (aP 0) (aQ 0) XW ++ (pP g aP XP))) H → va_D A (pS g aS (aW 0) XS ++ (pW g aW (aP 0) (aQ 0) XW ++ (pP g aP XP))) → va_S A s.heap H locs → lv_has ls 5 [(0, .ref (aS 0)), (2, .int x2), (3, .int x3), (4, .int x4)] → j87 x2 x3 x4 XS = some (r, XSz) → W p l e (headSpec wsX3_letPass rmX3_letPass).room s m args below meth c H locs 0 0 Q0 (F0 m 87 ls []) := by
              intro x2 x3 x4 XS H locs ls hP hD hS hl hf
              rw [ej87] at hf
              refine lv_aload_n hx hb dX3_letPass_87 rfl (lv_at hl 0 rfl) ?_
              refine lv_iload hx hb dX3_letPass_88 (lv_at hl 3 rfl) ?_
              obtain ⟨X27, h28, hf⟩ := bnd_el hf
              refine wr_v (rest := []) (wc := (pS g aS (aW 0) XS ++ (pW g aW (aP 0) (aQ 0) XW))) (wc' := (pS g aS (aW 0) X27 ++ (pW g aW (aP 0) (aQ 0) XW))) (ws2 := (pS g aS (aW 0) X27 ++ (pW g aW (aP 0) (aQ 0) XW ++ (pP g aP XP)))) hP hD hS hA [0, 1, 2, 3, 4, 5, 6, 7, 8, 9, 10, 11, 12, 13] rfl rfl (by rfl) (rnV (As := [.int x4]) ⟨hx, hb, hml, hown, hts⟩ (c_X3_becomePresent l g aS aW aP aQ _ _ _ _ _ _ h28) (cwV 1 hts gX3_letPass_X3_becomePresent rfl rfl rfl (by decide +kernel) ⟨Nat.le_of_ble_eq_true rfl, Nat.le_of_ble_eq_true rfl⟩) hKW hP hD [0, 1, 2, 3, 4, 5, 6, 7, 8, 9, 10, 11, 12, 13] (by decide) rfl (va_recv hK hP (ci := 3) (q0 := 0) rfl rfl) rfl hl.1 rfl (lv_room (Nat.le_of_ble_eq_true rfl)) dX3_letPass_90 ⟨Nat.zero_le _, Nat.zero_le _⟩) (fun H locs hP hD hS => ?_)
              refine lv_goto (tgt := 4) hx hb dX3_letPass_93 (by decide) ?_
              exact ih x2 x3 X27 _ _ ls hP hD hS (lv_sub hl [0, 1, 2] rfl) hf
            refine lv_if_eq (tgt := 87) hx hb dX3_letPass_76 (by decide) (fun c29 => ?_) (fun c29 => ?_)
            · have hf := ite_t hf c29
              exact J_87 v11 v15 r17 X13 _ _ ls hP hD hS (lv_sub hl [3, 2, 1, 0] rfl) hf
            · have hf := ite_f hf c29
              refine lv_aload_n hx hb dX3_letPass_79 rfl (lv_at hl 3 rfl) ?_
              refine lv_aload_n hx hb dX3_letPass_80 rfl (lv_at hl 3 rfl) ?_
              refine va_get (D := g.1) (ci := 3) (v := .int (X13 6 0)) (C := RX3) (T := TX3) (N := 15) hx hb hts i_X3 hown hK hP 0 rfl rfl 6 (by decide) (hts (.fieldLink RX3 46 "WordFlasher$State" "present" "I") (List.mem_of_getElem? (i := 1) rfl)) (fun _ h9 => h9) rfl dX3_letPass_81 ?_
              obtain ⟨X30, h31, hf⟩ := bnd_el hf
              refine wr_v (rest := []) (wc := (pS g aS (aW 0) X13 ++ (pW g aW (aP 0) (aQ 0) XW ++ (pP g aP XP)))) (wc' := (pS g aS (aW 0) X30 ++ (pW g aW (aP 0) (aQ 0) XW ++ (pP g aP XP)))) (ws2 := (pS g aS (aW 0) X30 ++ (pW g aW (aP 0) (aQ 0) XW ++ (pP g aP XP)))) hP hD hS hA [0, 1, 2, 3, 4, 5, 6, 7, 8, 9, 10, 11, 12, 13, 14, 15, 16, 17] rfl rfl (by rfl) (rnV (As := [.int (X13 6 0)]) ⟨hx, hb, hml, hown, hts⟩ (c_X3_endSentenceOf l g aS aW aP aQ _ _ _ _ _ _ _ h31) (cwV 1 hts gX3_letPass_X3_endSentenceOf rfl rfl rfl (by decide +kernel) ⟨Nat.le_of_ble_eq_true rfl, Nat.le_of_ble_eq_true rfl⟩) hKW hP hD [0, 1, 2, 3, 4, 5, 6, 7, 8, 9, 10, 11, 12, 13, 14, 15, 16, 17] (by decide) rfl (va_recv hK hP (ci := 3) (q0 := 0) rfl rfl) rfl hl.1 rfl (lv_room (Nat.le_of_ble_eq_true rfl)) dX3_letPass_84 ⟨Nat.zero_le _, Nat.zero_le _⟩) (fun H locs hP hD hS => ?_)
              exact J_87 v11 v15 r17 X30 _ _ ls hP hD hS (lv_sub hl [3, 2, 1, 0] rfl) hf
  exact L_4 n p1 0 XS _ _ ls hP hD hS (lv_sub hl [2, 1, 0] rfl) hf
abbrev rmX3_askError : Room := { frames := 3, cells := 0, slots := 0, locals := 64 }
set_option maxHeartbeats 8000000 in
set_option maxRecDepth 100000 in
theorem c_X3_askError (l : Launch) (g : GG) (aS : Nat → Nat) (aW : Nat → Nat) (aP : Nat → Nat) (aQ : Nat → Nat) (n : Nat) (XS : DM) (XW : DM) (r : Int32) (hf : fX3_askError n XS XW = some r) : Met l yX3_askError wsX3_askError rmX3_askError (va_Pc [.ref (aS 0)] (fun U => va_P g.1 vwCl (pS g aS (aW 0) XS ++ (pW g aW (aP 0) (aQ 0) XW)) U.heap ∧ KW g U)) (vp_Si (fun r' => r' = r ∧ True)) 0 0 (fun _ => False) := by
  refine Met.ofW (cc := cX3_askError) (maxL := 1) (ret := (some .int)) (by decide) rfl ?_
  intro p e s m args below meth c s₁ B hml hv
  obtain ⟨hargs, hP, hKW⟩ := hv
  have hK := hKW.1
  have hx := B.exec
  have hb := B.bytes
  have hr := B.returns
  have hts := atoms_spec (ws := wsX3_askError) B.pre
  have hown : s.vm.findClass RX3 = some m.cls := findClass_of_methodNamed B.named
  have hlocks := B.notSynchronized
  have i_X3 : ∀ w ∈ wsX30, w ∈ wsX3_askError := fun w h => List.mem_cons_of_mem _ (List.mem_append_left _ (List.mem_append_right _ h))
  have i_X4 : ∀ w ∈ wsX40, w ∈ wsX3_askError := fun w h => List.mem_cons_of_mem _ (List.mem_append_right _ h)
  have hent : entryFrame m args 1 = F0 m 0 ((lg_sl ([.ref (aS 0)]) ++ List.replicate (1 - (lg_sl ([.ref (aS 0)])).length) Slot.unset).toArray) [] := by rw [hargs]; exact lg_entry_eq _ _ _
  rw [hent]
  have hl := lv_entry ([.ref (aS 0)]) (n := 1) (Nat.le_of_ble_eq_true rfl)
  generalize (lg_sl ([.ref (aS 0)]) ++ List.replicate (1 - (lg_sl ([.ref (aS 0)])).length) Slot.unset).toArray = ls at hl ⊢
  have hl : lv_has ls 1 [(0, .ref (aS 0))] := hl
  generalize hQ0 : MQ below _ _ _ _ _ _ = Q0
  unfold fX3_askError at hf
  refine lv_aload_n hx hb dX3_askError_0 rfl (lv_at hl 0 rfl) ?_
  refine va_get (D := g.1) (ci := 3) (v := .ref (aW 0)) (C := RX3) (T := TX3) (N := 15) hx hb hts i_X3 hown hK hP 0 rfl rfl 0 (by decide) (hts (.fieldLink RX3 9 "WordFlasher$State" "words" "LWordFlasher$Words;") (List.mem_of_getElem? (i := 1) rfl)) (fun _ h9 => h9) rfl dX3_askError_1 ?_
  refine lv_iconst (v := (-1)) hx hb dX3_askError_4 (by decide) ?_
  obtain ⟨r1, h2, hf⟩ := bnd_el hf
  refine rdV (As := [.int (-1)]) (rest := []) ⟨hx, hb, hml, hown, hts⟩ (c_X4_shownBehind l g aW aP aQ _ _ _ _ h2) (cwV 1 hts gX3_askError_X4_shownBehind rfl rfl rfl (by decide +kernel) ⟨Nat.le_of_ble_eq_true rfl, Nat.le_of_ble_eq_true rfl⟩) hKW hP [7, 8, 9, 10, 11, 12, 13] rfl (va_recv hK hP (ci := 4) (q0 := 7) rfl rfl) rfl hl.1 rfl (lv_room (Nat.le_of_ble_eq_true rfl)) dX3_askError_5 ⟨Nat.zero_le _, Nat.zero_le _⟩ (fun r3 q4 => ?_)
  obtain ⟨q4, nb5⟩ := q4
  refine lv_as q4.symm ?_
  refine lv_iconst (v := (-1)) hx hb dX3_askError_8 (by decide) ?_
  refine lv_icmp_ne (tgt := 17) hx hb dX3_askError_9 (by decide) (fun c6 => ?_) (fun c6 => ?_)
  · have hf := ite_f hf c6
    refine lv_iconst (v := 0) hx hb dX3_askError_17 (by decide) ?_
    have er0 := Option.some.inj hf
    rw [← hQ0]; exact W.iret (v := 0) hx hb hr (fun t ht hW => ⟨0, rfl, ⟨er0, trivial⟩, ht⟩) (fun q h => by cases h) dX3_askError_18
  · have hf := ite_t hf c6
    refine lv_bipush (v := (-2)) hx hb dX3_askError_12 (by decide) ?_
    refine lv_goto (tgt := 18) hx hb dX3_askError_14 (by decide) ?_
    have er0 := Option.some.inj hf
    rw [← hQ0]; exact W.iret (v := (-2)) hx hb hr (fun t ht hW => ⟨(-2), rfl, ⟨er0, trivial⟩, ht⟩) (fun q h => by cases h) dX3_askError_18
abbrev rmX3_isClassOfLatest : Room := { frames := 2, cells := 0, slots := 0, locals := 43 }
set_option maxHeartbeats 8000000 in
set_option maxRecDepth 100000 in
theorem c_X3_isClassOfLatest (l : Launch) (g : GG) (aS : Nat → Nat) (aW : Nat → Nat) (aP : Nat → Nat) (aQ : Nat → Nat) (n : Nat) (XS : DM) (XW : DM) (p1 : Int32) (r : Int32) (hf : fX3_isClassOfLatest n XS XW p1 = some r) : Met l yX3_isClassOfLatest wsX3_isClassOfLatest rmX3_isClassOfLatest (va_Pc [.ref (aS 0), .int p1] (fun U => va_P g.1 vwCl (pS g aS (aW 0) XS ++ (pW g aW (aP 0) (aQ 0) XW)) U.heap ∧ KW g U)) (vp_Si (fun r' => r' = r ∧ narrow .boolean (.int r') = .int r')) 0 0 (fun _ => False) := by
  refine Met.ofW (cc := cX3_isClassOfLatest) (maxL := 3) (ret := (some .boolean)) (by decide) rfl ?_
  intro p e s m args below meth c s₁ B hml hv
  obtain ⟨hargs, hP, hKW⟩ := hv
  have hK := hKW.1
  have hx := B.exec
  have hb := B.bytes
  have hr := B.returns
  have hts := atoms_spec (ws := wsX3_isClassOfLatest) B.pre
  have hown : s.vm.findClass RX3 = some m.cls := findClass_of_methodNamed B.named
  have hlocks := B.notSynchronized
  have i_X3 : ∀ w ∈ wsX30, w ∈ wsX3_isClassOfLatest := fun w h => List.mem_cons_of_mem _ (List.mem_append_left _ (List.mem_append_right _ h))
  have i_X4 : ∀ w ∈ wsX40, w ∈ wsX3_isClassOfLatest := fun w h => List.mem_cons_of_mem _ (List.mem_append_right _ h)
  have hent : entryFrame m args 3 = F0 m 0 ((lg_sl ([.ref (aS 0), .int p1]) ++ List.replicate (3 - (lg_sl ([.ref (aS 0), .int p1])).length) Slot.unset).toArray) [] := by rw [hargs]; exact lg_entry_eq _ _ _
  rw [hent]
  have hl := lv_entry ([.ref (aS 0), .int p1]) (n := 3) (Nat.le_of_ble_eq_true rfl)
  generalize (lg_sl ([.ref (aS 0), .int p1]) ++ List.replicate (3 - (lg_sl ([.ref (aS 0), .int p1])).length) Slot.unset).toArray = ls at hl ⊢
  have hl : lv_has ls 3 [(0, .ref (aS 0)), (1, .int p1)] := hl
  generalize hQ0 : MQ below _ _ _ _ _ _ = Q0
  unfold fX3_isClassOfLatest at hf
  refine lv_iconst (v := 0) hx hb dX3_isClassOfLatest_0 (by decide) ?_
  refine lv_istore_n (lv' := [(2, .int 0), (0, .ref (aS 0)), (1, .int p1)]) hx hb dX3_isClassOfLatest_1 rfl hl (by decide) rfl (fun ls hl => ?_)
  have L_2 : ∀ fu : Nat, ∀ (x1 x2 : Int32) (ls : Array Slot), lv_has ls 3 [(0, .ref (aS 0)), (1, .int x1), (2, .int x2)] → fX3_isClassOfLatest_L2 n XS XW fu x1 x2 = some r → W p l e (headSpec wsX3_isClassOfLatest rmX3_isClassOfLatest).room s m args below meth c s.heap [] 0 0 Q0 (F0 m 2 ls []) := by
    intro fu
    induction fu with
    | zero => intros; rename_i hf; rw [fX3_isClassOfLatest_L2] at hf; cases hf
    | succ fu ih =>
      intro x1 x2 ls hl hf
      rw [fX3_isClassOfLatest_L2] at hf
      refine lv_iload_n hx hb dX3_isClassOfLatest_2 rfl (lv_at hl 2 rfl) ?_
      refine lv_aload_n hx hb dX3_isClassOfLatest_3 rfl (lv_at hl 0 rfl) ?_
      refine va_get (D := g.1) (ci := 3) (v := .ref (aS 6)) (C := RX3) (T := TX3) (N := 15) hx hb hts i_X3 hown hK hP 0 rfl rfl 10 (by decide) (hts (.fieldLink RX3 39 "WordFlasher$State" "latest" "[I") (List.mem_of_getElem? (i := 1) rfl)) (fun _ h9 => h9) rfl dX3_isClassOfLatest_4 ?_
      refine va_alen (v := 3) hx hb hK hP 6 0 rfl rfl rfl dX3_isClassOfLatest_7 ?_
      refine lv_icmp_ge (tgt := 46) hx hb dX3_isClassOfLatest_8 (by decide) (fun c1 => ?_) (fun c1 => ?_)
      · have hf := ite_t hf c1
        refine lv_iconst (v := 0) hx hb dX3_isClassOfLatest_46 (by decide) ?_
        have er0 := Option.some.inj hf
        rw [← hQ0]; exact W.zret (v := 0) hx hb hr rfl (fun t ht hW => ⟨0, rfl, ⟨er0, rfl⟩, ht⟩) (fun q h => by cases h) dX3_isClassOfLatest_47
      · have hf := ite_f hf c1
        refine lv_aload_n hx hb dX3_isClassOfLatest_11 rfl (lv_at hl 0 rfl) ?_
        refine va_get (D := g.1) (ci := 3) (v := .ref (aS 6)) (C := RX3) (T := TX3) (N := 15) hx hb hts i_X3 hown hK hP 0 rfl rfl 10 (by decide) (hts (.fieldLink RX3 39 "WordFlasher$State" "latest" "[I") (List.mem_of_getElem? (i := 1) rfl)) (fun _ h9 => h9) rfl dX3_isClassOfLatest_12 ?_
        refine lv_iload_n hx hb dX3_isClassOfLatest_15 rfl (lv_at hl 2 rfl) ?_
        obtain ⟨h4, v2, e3, hf⟩ := rdA_el hf
        refine va_iald hx hb hK hP 6 0 rfl rfl h4 dX3_isClassOfLatest_16 ?_
        refine lv_as e3 ?_
        refine lv_iconst (v := (-1)) hx hb dX3_isClassOfLatest_17 (by decide) ?_
        obtain ⟨j40, ej40, hf⟩ := sl_el hf
        have J_40 : ∀ (x1 x2 : Int32) (ls : Array Slot), lv_has ls 3 [(0, .ref (aS 0)), (1, .int x1), (2, .int x2)] → j40 x1 x2 = some r → W p l e (headSpec wsX3_isClassOfLatest rmX3_isClassOfLatest).room s m args below meth c s.heap [] 0 0 Q0 (F0 m 40 ls []) := by
          intro x1 x2 ls hl hf
          rw [ej40] at hf
          obtain ⟨v5, e6, hf⟩ := sl_el hf
          refine lv_iinc (v := v5) (lv' := [(2, .int v5), (0, .ref (aS 0)), (1, .int x1)]) hx hb dX3_isClassOfLatest_40 hl (k := 2) rfl (by rw [e6]; rfl) (by decide) rfl (fun ls hl => ?_)
          refine lv_goto (tgt := 2) hx hb dX3_isClassOfLatest_43 (by decide) ?_
          exact ih x1 v5 ls (lv_sub hl [1, 2, 0] rfl) hf
        refine lv_icmp_eq (tgt := 40) hx hb dX3_isClassOfLatest_18 (by decide) (fun c7 => ?_) (fun c7 => ?_)
        · have hf := ite_t hf c7
          exact J_40 x1 x2 ls (lv_sub hl [0, 1, 2] rfl) hf
        · have hf := ite_f hf c7
          refine lv_aload_n hx hb dX3_isClassOfLatest_21 rfl (lv_at hl 0 rfl) ?_
          refine va_get (D := g.1) (ci := 3) (v := .ref (aW 0)) (C := RX3) (T := TX3) (N := 15) hx hb hts i_X3 hown hK hP 0 rfl rfl 0 (by decide) (hts (.fieldLink RX3 9 "WordFlasher$State" "words" "LWordFlasher$Words;") (List.mem_of_getElem? (i := 2) rfl)) (fun _ h9 => h9) rfl dX3_isClassOfLatest_22 ?_
          refine lv_aload_n hx hb dX3_isClassOfLatest_25 rfl (lv_at hl 0 rfl) ?_
          refine va_get (D := g.1) (ci := 3) (v := .ref (aS 6)) (C := RX3) (T := TX3) (N := 15) hx hb hts i_X3 hown hK hP 0 rfl rfl 10 (by decide) (hts (.fieldLink RX3 39 "WordFlasher$State" "latest" "[I") (List.mem_of_getElem? (i := 1) rfl)) (fun _ h9 => h9) rfl dX3_isClassOfLatest_26 ?_
          refine lv_iload_n hx hb dX3_isClassOfLatest_29 rfl (lv_at hl 2 rfl) ?_
          obtain ⟨h10, v8, e9, hf⟩ := rdA_el hf
          refine va_iald hx hb hK hP 6 0 rfl rfl h10 dX3_isClassOfLatest_30 ?_
          refine lv_as e9 ?_
          obtain ⟨r11, h12, hf⟩ := bnd_el hf
          refine rdV (As := [.int v8]) (rest := []) ⟨hx, hb, hml, hown, hts⟩ (c_X4_classOf l g aW aP aQ _ _ _ h12) (cwV 1 hts gX3_isClassOfLatest_X4_classOf rfl rfl rfl (by decide +kernel) ⟨Nat.le_of_ble_eq_true rfl, Nat.le_of_ble_eq_true rfl⟩) hKW hP [7, 8, 9, 10, 11, 12, 13] rfl (va_recv hK hP (ci := 4) (q0 := 7) rfl rfl) rfl hl.1 rfl (lv_room (Nat.le_of_ble_eq_true rfl)) dX3_isClassOfLatest_31 ⟨Nat.zero_le _, Nat.zero_le _⟩ (fun r13 q14 => ?_)
          obtain ⟨q14, nb15⟩ := q14
          refine lv_as q14.symm ?_
          refine lv_iload_n hx hb dX3_isClassOfLatest_34 rfl (lv_at hl 1 rfl) ?_
          refine lv_icmp_ne (tgt := 40) hx hb dX3_isClassOfLatest_35 (by decide) (fun c16 => ?_) (fun c16 => ?_)
          · have hf := ite_f hf c16
            exact J_40 x1 x2 ls (lv_sub hl [0, 1, 2] rfl) hf
          · have hf := ite_t hf c16
            refine lv_iconst (v := 1) hx hb dX3_isClassOfLatest_38 (by decide) ?_
            have er0 := Option.some.inj hf
            rw [← hQ0]; exact W.zret (v := 1) hx hb hr rfl (fun t ht hW => ⟨1, rfl, ⟨er0, rfl⟩, ht⟩) (fun q h => by cases h) dX3_isClassOfLatest_39
  exact L_2 n p1 0 ls (lv_sub hl [1, 2, 0] rfl) hf
abbrev rmX3_wordAskedFor : Room := { frames := 3, cells := 0, slots := 0, locals := 65 }
set_option maxHeartbeats 8000000 in
set_option maxRecDepth 100000 in
theorem c_X3_wordAskedFor (l : Launch) (g : GG) (aS : Nat → Nat) (aW : Nat → Nat) (aP : Nat → Nat) (aQ : Nat → Nat) (n : Nat) (XS : DM) (XW : DM) (XP : DM) (r : Int32) (hf : fX3_wordAskedFor n XS XW XP = some r) : Met l yX3_wordAskedFor wsX3_wordAskedFor rmX3_wordAskedFor (va_Pc [.ref (aS 0)] (fun U => va_P g.1 vwCl (pS g aS (aW 0) XS ++ (pW g aW (aP 0) (aQ 0) XW ++ (pP g aP XP))) U.heap ∧ KW g U)) (vp_Si (fun r' => r' = r ∧ True)) 0 0 (fun _ => False) := by
  refine Met.ofW (cc := cX3_wordAskedFor) (maxL := 4) (ret := (some .int)) (by decide) rfl ?_
  intro p e s m args below meth c s₁ B hml hv
  obtain ⟨hargs, hP, hKW⟩ := hv
  have hK := hKW.1
  have hx := B.exec
  have hb := B.bytes
  have hr := B.returns
  have hts := atoms_spec (ws := wsX3_wordAskedFor) B.pre
  have hown : s.vm.findClass RX3 = some m.cls := findClass_of_methodNamed B.named
  have hlocks := B.notSynchronized
  have i_X3 : ∀ w ∈ wsX30, w ∈ wsX3_wordAskedFor := fun w h => List.mem_cons_of_mem _ (List.mem_append_left _ (List.mem_append_left _ (List.mem_append_right _ h)))
  have i_X4 : ∀ w ∈ wsX40, w ∈ wsX3_wordAskedFor := fun w h => List.mem_cons_of_mem _ (List.mem_append_left _ (List.mem_append_right _ h))
  have i_X2 : ∀ w ∈ wsX20, w ∈ wsX3_wordAskedFor := fun w h => List.mem_cons_of_mem _ (List.mem_append_right _ h)
  have hent : entryFrame m args 4 = F0 m 0 ((lg_sl ([.ref (aS 0)]) ++ List.replicate (4 - (lg_sl ([.ref (aS 0)])).length) Slot.unset).toArray) [] := by rw [hargs]; exact lg_entry_eq _ _ _
  rw [hent]
  have hl := lv_entry ([.ref (aS 0)]) (n := 4) (Nat.le_of_ble_eq_true rfl)
  generalize (lg_sl ([.ref (aS 0)]) ++ List.replicate (4 - (lg_sl ([.ref (aS 0)])).length) Slot.unset).toArray = ls at hl ⊢
  have hl : lv_has ls 4 [(0, .ref (aS 0))] := hl
  generalize hQ0 : MQ below _ _ _ _ _ _ = Q0
  unfold fX3_wordAskedFor at hf
  refine lv_aload_n hx hb dX3_wordAskedFor_0 rfl (lv_at hl 0 rfl) ?_
  refine va_get (D := g.1) (ci := 3) (v := .int (XS 6 0)) (C := RX3) (T := TX3) (N := 15) hx hb hts i_X3 hown hK hP 0 rfl rfl 6 (by decide) (hts (.fieldLink RX3 46 "WordFlasher$State" "present" "I") (List.mem_of_getElem? (i := 1) rfl)) (fun _ h9 => h9) rfl dX3_wordAskedFor_1 ?_
  refine lv_iconst (v := (-1)) hx hb dX3_wordAskedFor_4 (by decide) ?_
  refine lv_icmp_ne (tgt := 26) hx hb dX3_wordAskedFor_5 (by decide) (fun c1 => ?_) (fun c1 => ?_)
  · have hf := ite_f hf c1
    refine lv_aload_n hx hb dX3_wordAskedFor_26 rfl (lv_at hl 0 rfl) ?_
    refine va_get (D := g.1) (ci := 3) (v := .ref (aW 0)) (C := RX3) (T := TX3) (N := 15) hx hb hts i_X3 hown hK hP 0 rfl rfl 0 (by decide) (hts (.fieldLink RX3 9 "WordFlasher$State" "words" "LWordFlasher$Words;") (List.mem_of_getElem? (i := 2) rfl)) (fun _ h9 => h9) rfl dX3_wordAskedFor_27 ?_
    refine va_get (D := g.1) (ci := 4) (v := .ref (aP 0)) (C := RX4) (T := TX4) (N := 9) hx hb hts i_X4 hown hK hP 7 rfl rfl 6 (by decide) (hts (.fieldLink RX3 144 "WordFlasher$Words" "sentences" "LWordFlasher$Spans;") (List.mem_of_getElem? (i := 3) rfl)) (fun _ h9 => h9) rfl dX3_wordAskedFor_30 ?_
    refine va_get (D := g.1) (ci := 2) (v := .ref (aP 3)) (C := RX2) (T := TX2) (N := 4) hx hb hts i_X2 hown hK hP 14 rfl rfl 2 (by decide) (hts (.fieldLink RX3 148 "WordFlasher$Spans" "numbers" "[I") (List.mem_of_getElem? (i := 5) rfl)) (fun _ h9 => h9) rfl dX3_wordAskedFor_33 ?_
    refine lv_aload_n hx hb dX3_wordAskedFor_36 rfl (lv_at hl 0 rfl) ?_
    refine va_get (D := g.1) (ci := 3) (v := .int (XS 6 0)) (C := RX3) (T := TX3) (N := 15) hx hb hts i_X3 hown hK hP 0 rfl rfl 6 (by decide) (hts (.fieldLink RX3 46 "WordFlasher$State" "present" "I") (List.mem_of_getElem? (i := 1) rfl)) (fun _ h9 => h9) rfl dX3_wordAskedFor_37 ?_
    obtain ⟨r2, h3, hf⟩ := bnd_el hf
    refine rdN (As := [.ref (aP 3), .int (XS 6 0)]) (rest := []) ⟨hx, hb, hml, hown, hts⟩ (c_X5_at l g (aP 3) 150 _ _ _ h3) ⟨va_cnB 2 hts gX3_wordAskedFor_X5_at_n99 rfl rfl rfl (hKW.2 _ (List.mem_of_getElem? (i := 6) rfl)) (hts (.initialized RX5) (List.mem_of_getElem? (i := 15) rfl)) (by decide +kernel) ⟨Nat.le_of_ble_eq_true rfl, Nat.le_of_ble_eq_true rfl⟩, (hts (.static yX5_at) (List.mem_of_getElem? (i := 14) rfl)), trivial⟩ hKW hP [17] rfl rfl hl.1 rfl (lv_room (Nat.le_of_ble_eq_true rfl)) dX3_wordAskedFor_40 ⟨Nat.zero_le _, Nat.zero_le _⟩ (fun r4 q5 => ?_)
    obtain ⟨q5, nb6⟩ := q5
    refine lv_as q5.symm ?_
    refine lv_istore_n (lv' := [(1, .int r2), (0, .ref (aS 0))]) hx hb dX3_wordAskedFor_43 rfl hl (by decide) rfl (fun ls hl => ?_)
    refine lv_aload_n hx hb dX3_wordAskedFor_44 rfl (lv_at hl 1 rfl) ?_
    refine va_get (D := g.1) (ci := 3) (v := .ref (aW 0)) (C := RX3) (T := TX3) (N := 15) hx hb hts i_X3 hown hK hP 0 rfl rfl 0 (by decide) (hts (.fieldLink RX3 9 "WordFlasher$State" "words" "LWordFlasher$Words;") (List.mem_of_getElem? (i := 2) rfl)) (fun _ h9 => h9) rfl dX3_wordAskedFor_45 ?_
    refine va_get (D := g.1) (ci := 4) (v := .ref (aP 0)) (C := RX4) (T := TX4) (N := 9) hx hb hts i_X4 hown hK hP 7 rfl rfl 6 (by decide) (hts (.fieldLink RX3 144 "WordFlasher$Words" "sentences" "LWordFlasher$Spans;") (List.mem_of_getElem? (i := 3) rfl)) (fun _ h9 => h9) rfl dX3_wordAskedFor_48 ?_
    refine va_get (D := g.1) (ci := 2) (v := .ref (aP 1)) (C := RX2) (T := TX2) (N := 4) hx hb hts i_X2 hown hK hP 14 rfl rfl 0 (by decide) (hts (.fieldLink RX3 153 "WordFlasher$Spans" "firsts" "[I") (List.mem_of_getElem? (i := 6) rfl)) (fun _ h9 => h9) rfl dX3_wordAskedFor_51 ?_
    refine lv_iload_n hx hb dX3_wordAskedFor_54 rfl (lv_at hl 0 rfl) ?_
    obtain ⟨r7, h8, hf⟩ := bnd_el hf
    refine rdN (As := [.ref (aP 1), .int r2]) (rest := []) ⟨hx, hb, hml, hown, hts⟩ (c_X5_at l g (aP 1) 150 _ _ _ h8) ⟨va_cnB 2 hts gX3_wordAskedFor_X5_at_n99 rfl rfl rfl (hKW.2 _ (List.mem_of_getElem? (i := 6) rfl)) (hts (.initialized RX5) (List.mem_of_getElem? (i := 15) rfl)) (by decide +kernel) ⟨Nat.le_of_ble_eq_true rfl, Nat.le_of_ble_eq_true rfl⟩, (hts (.static yX5_at) (List.mem_of_getElem? (i := 14) rfl)), trivial⟩ hKW hP [15] rfl rfl hl.1 rfl (lv_room (Nat.le_of_ble_eq_true rfl)) dX3_wordAskedFor_55 ⟨Nat.zero_le _, Nat.zero_le _⟩ (fun r9 q10 => ?_)
    obtain ⟨q10, nb11⟩ := q10
    refine lv_as q10.symm ?_
    refine lv_istore_n (lv' := [(2, .int r7), (1, .int r2), (0, .ref (aS 0))]) hx hb dX3_wordAskedFor_58 rfl hl (by decide) rfl (fun ls hl => ?_)
    refine lv_aload_n hx hb dX3_wordAskedFor_59 rfl (lv_at hl 2 rfl) ?_
    refine va_get (D := g.1) (ci := 3) (v := .int (XS 6 0)) (C := RX3) (T := TX3) (N := 15) hx hb hts i_X3 hown hK hP 0 rfl rfl 6 (by decide) (hts (.fieldLink RX3 46 "WordFlasher$State" "present" "I") (List.mem_of_getElem? (i := 1) rfl)) (fun _ h9 => h9) rfl dX3_wordAskedFor_60 ?_
    refine lv_iload_n hx hb dX3_wordAskedFor_63 rfl (lv_at hl 0 rfl) ?_
    refine lv_icmp_eq (tgt := 69) hx hb dX3_wordAskedFor_64 (by decide) (fun c12 => ?_) (fun c12 => ?_)
    · have hf := ite_t hf c12
      refine lv_aload_n hx hb dX3_wordAskedFor_69 rfl (lv_at hl 2 rfl) ?_
      refine va_get (D := g.1) (ci := 3) (v := .ref (aW 0)) (C := RX3) (T := TX3) (N := 15) hx hb hts i_X3 hown hK hP 0 rfl rfl 0 (by decide) (hts (.fieldLink RX3 9 "WordFlasher$State" "words" "LWordFlasher$Words;") (List.mem_of_getElem? (i := 2) rfl)) (fun _ h9 => h9) rfl dX3_wordAskedFor_70 ?_
      refine lv_iload_n hx hb dX3_wordAskedFor_73 rfl (lv_at hl 1 rfl) ?_
      obtain ⟨r13, h14, hf⟩ := bnd_el hf
      refine rdV (As := [.int r2]) (rest := []) ⟨hx, hb, hml, hown, hts⟩ (c_X4_firstBeforeSentence l g aW aP aQ _ _ _ _ _ h14) (cwV 1 hts gX3_wordAskedFor_X4_firstBeforeSentence rfl rfl rfl (by decide +kernel) ⟨Nat.le_of_ble_eq_true rfl, Nat.le_of_ble_eq_true rfl⟩) hKW hP [7, 8, 9, 10, 11, 12, 13, 14, 15, 16, 17] rfl (va_recv hK hP (ci := 4) (q0 := 7) rfl rfl) rfl hl.1 rfl (lv_room (Nat.le_of_ble_eq_true rfl)) dX3_wordAskedFor_74 ⟨Nat.zero_le _, Nat.zero_le _⟩ (fun r15 q16 => ?_)
      obtain ⟨q16, nb17⟩ := q16
      refine lv_as q16.symm ?_
      refine lv_istore_n (lv' := [(3, .int r13), (2, .int r7), (1, .int r2), (0, .ref (aS 0))]) hx hb dX3_wordAskedFor_77 rfl hl (by decide) rfl (fun ls hl => ?_)
      refine lv_iload_n hx hb dX3_wordAskedFor_78 rfl (lv_at hl 0 rfl) ?_
      refine lv_iconst (v := (-1)) hx hb dX3_wordAskedFor_79 (by decide) ?_
      refine lv_icmp_ne (tgt := 90) hx hb dX3_wordAskedFor_80 (by decide) (fun c18 => ?_) (fun c18 => ?_)
      · have hf := ite_f hf c18
        refine lv_iload_n hx hb dX3_wordAskedFor_90 rfl (lv_at hl 0 rfl) ?_
        have er0 := Option.some.inj hf
        rw [← hQ0]; exact W.iret (v := r13) hx hb hr (fun t ht hW => ⟨r13, rfl, ⟨er0, trivial⟩, ht⟩) (fun q h => by cases h) dX3_wordAskedFor_91
      · have hf := ite_t hf c18
        refine lv_aload_n hx hb dX3_wordAskedFor_83 rfl (lv_at hl 3 rfl) ?_
        refine va_get (D := g.1) (ci := 3) (v := .int (XS 6 0)) (C := RX3) (T := TX3) (N := 15) hx hb hts i_X3 hown hK hP 0 rfl rfl 6 (by decide) (hts (.fieldLink RX3 46 "WordFlasher$State" "present" "I") (List.mem_of_getElem? (i := 1) rfl)) (fun _ h9 => h9) rfl dX3_wordAskedFor_84 ?_
        refine lv_goto (tgt := 91) hx hb dX3_wordAskedFor_87 (by decide) ?_
        have er0 := Option.some.inj hf
        rw [← hQ0]; exact W.iret (v := (XS 6 0)) hx hb hr (fun t ht hW => ⟨(XS 6 0), rfl, ⟨er0, trivial⟩, ht⟩) (fun q h => by cases h) dX3_wordAskedFor_91
    · have hf := ite_f hf c12
      refine lv_iload_n hx hb dX3_wordAskedFor_67 rfl (lv_at hl 0 rfl) ?_
      have er0 := Option.some.inj hf
      rw [← hQ0]; exact W.iret (v := r7) hx hb hr (fun t ht hW => ⟨r7, rfl, ⟨er0, trivial⟩, ht⟩) (fun q h => by cases h) dX3_wordAskedFor_68
  · have hf := ite_t hf c1
    refine lv_aload_n hx hb dX3_wordAskedFor_8 rfl (lv_at hl 0 rfl) ?_
    refine va_get (D := g.1) (ci := 3) (v := .ref (aW 0)) (C := RX3) (T := TX3) (N := 15) hx hb hts i_X3 hown hK hP 0 rfl rfl 0 (by decide) (hts (.fieldLink RX3 9 "WordFlasher$State" "words" "LWordFlasher$Words;") (List.mem_of_getElem? (i := 2) rfl)) (fun _ h9 => h9) rfl dX3_wordAskedFor_9 ?_
    refine lv_aload_n hx hb dX3_wordAskedFor_12 rfl (lv_at hl 0 rfl) ?_
    refine va_get (D := g.1) (ci := 3) (v := .ref (aW 0)) (C := RX3) (T := TX3) (N := 15) hx hb hts i_X3 hown hK hP 0 rfl rfl 0 (by decide) (hts (.fieldLink RX3 9 "WordFlasher$State" "words" "LWordFlasher$Words;") (List.mem_of_getElem? (i := 2) rfl)) (fun _ h9 => h9) rfl dX3_wordAskedFor_13 ?_
    refine va_get (D := g.1) (ci := 4) (v := .ref (aP 0)) (C := RX4) (T := TX4) (N := 9) hx hb hts i_X4 hown hK hP 7 rfl rfl 6 (by decide) (hts (.fieldLink RX3 144 "WordFlasher$Words" "sentences" "LWordFlasher$Spans;") (List.mem_of_getElem? (i := 3) rfl)) (fun _ h9 => h9) rfl dX3_wordAskedFor_16 ?_
    refine va_get (D := g.1) (ci := 2) (v := .int (XP 3 0)) (C := RX2) (T := TX2) (N := 4) hx hb hts i_X2 hown hK hP 14 rfl rfl 3 (by decide) (hts (.fieldLink RX3 170 "WordFlasher$Spans" "many" "I") (List.mem_of_getElem? (i := 4) rfl)) (fun _ h9 => h9) rfl dX3_wordAskedFor_19 ?_
    obtain ⟨r19, h20, hf⟩ := bnd_el hf
    refine rdV (As := [.int (XP 3 0)]) (rest := []) ⟨hx, hb, hml, hown, hts⟩ (c_X4_firstBeforeSentence l g aW aP aQ _ _ _ _ _ h20) (cwV 1 hts gX3_wordAskedFor_X4_firstBeforeSentence rfl rfl rfl (by decide +kernel) ⟨Nat.le_of_ble_eq_true rfl, Nat.le_of_ble_eq_true rfl⟩) hKW hP [7, 8, 9, 10, 11, 12, 13, 14, 15, 16, 17] rfl (va_recv hK hP (ci := 4) (q0 := 7) rfl rfl) rfl hl.1 rfl (lv_room (Nat.le_of_ble_eq_true rfl)) dX3_wordAskedFor_22 ⟨Nat.zero_le _, Nat.zero_le _⟩ (fun r21 q22 => ?_)
    obtain ⟨q22, nb23⟩ := q22
    refine lv_as q22.symm ?_
    have er0 := Option.some.inj hf
    rw [← hQ0]; exact W.iret (v := r19) hx hb hr (fun t ht hW => ⟨r19, rfl, ⟨er0, trivial⟩, ht⟩) (fun q h => by cases h) dX3_wordAskedFor_25
abbrev rmX3_askBack : Room := { frames := 4, cells := 0, slots := 0, locals := 89 }
set_option maxHeartbeats 8000000 in
set_option maxRecDepth 100000 in
theorem c_X3_askBack (l : Launch) (g : GG) (aS : Nat → Nat) (aW : Nat → Nat) (aP : Nat → Nat) (aQ : Nat → Nat) (sz : Nat) (n : Nat) (XS : DM) (XW : DM) (XP : DM) (XSz : DM) (hf : fX3_askBack n XS XW XP = some XSz) : Met l yX3_askBack wsX3_askBack rmX3_askBack (va_Pc [.ref (aS 0)] (fun U => U.heap.size = sz ∧ va_P g.1 vwCl (pS g aS (aW 0) XS ++ (pW g aW (aP 0) (aQ 0) XW ++ (pP g aP XP))) U.heap ∧ KW g U ∧ va_D (fun _ => True) (pS g aS (aW 0) XS ++ (pW g aW (aP 0) (aQ 0) XW ++ (pP g aP XP))))) (va_Qv (fun (_ : Unit) => True) (fun (_ : Unit) t => va_P g.1 vwCl (pS g aS (aW 0) XSz ++ (pW g aW (aP 0) (aQ 0) XW ++ (pP g aP XP))) t.heap) (va_A (pS g aS (aW 0) XS ++ (pW g aW (aP 0) (aQ 0) XW ++ (pP g aP XP))) sz)) 0 0 (va_A (pS g aS (aW 0) XS ++ (pW g aW (aP 0) (aQ 0) XW ++ (pP g aP XP))) sz) := by
  refine Met.ofW (cc := cX3_askBack) (maxL := 2) (ret := none) (by decide) rfl ?_
  intro p e s m args below meth c s₁ B hml hv
  obtain ⟨hargs, hsz, hP, hKW, hD0⟩ := hv
  have hK := hKW.1
  have hx := B.exec
  have hb := B.bytes
  have hr := B.returns
  have hts := atoms_spec (ws := wsX3_askBack) B.pre
  have hown : s.vm.findClass RX3 = some m.cls := findClass_of_methodNamed B.named
  have hlocks := B.notSynchronized
  subst hsz
  have hD := hD0.self (sz := s.heap.size)
  generalize hAe : va_A (pS g aS (aW 0) XS ++ (pW g aW (aP 0) (aQ 0) XW ++ (pP g aP XP))) s.heap.size = A at hD ⊢
  have hA : ∀ q : Nat, s.heap.size ≤ q → A q := fun q h => by rw [← hAe]; exact Or.inr h
  have hS : va_S A s.heap s.heap [] := va_S.rf
  have i_X3 : ∀ w ∈ wsX30, w ∈ wsX3_askBack := fun w h => List.mem_cons_of_mem _ (List.mem_append_left _ (List.mem_append_left _ (List.mem_append_right _ h)))
  have i_X4 : ∀ w ∈ wsX40, w ∈ wsX3_askBack := fun w h => List.mem_cons_of_mem _ (List.mem_append_left _ (List.mem_append_right _ h))
  have i_X2 : ∀ w ∈ wsX20, w ∈ wsX3_askBack := fun w h => List.mem_cons_of_mem _ (List.mem_append_right _ h)
  have hent : entryFrame m args 2 = F0 m 0 ((lg_sl ([.ref (aS 0)]) ++ List.replicate (2 - (lg_sl ([.ref (aS 0)])).length) Slot.unset).toArray) [] := by rw [hargs]; exact lg_entry_eq _ _ _
  rw [hent]
  have hl := lv_entry ([.ref (aS 0)]) (n := 2) (Nat.le_of_ble_eq_true rfl)
  generalize (lg_sl ([.ref (aS 0)]) ++ List.replicate (2 - (lg_sl ([.ref (aS 0)])).length) Slot.unset).toArray = ls at hl ⊢
  have hl : lv_has ls 2 [(0, .ref (aS 0))] := hl
  generalize hQ0 : MQ below _ _ _ _ _ _ = Q0
  unfold fX3_askBack at hf
  refine lv_iconst (v := 0) hx hb dX3_askBack_0 (by decide) ?_
  refine lv_istore_n (lv' := [(1, .int 0), (0, .ref (aS 0))]) hx hb dX3_askBack_1 rfl hl (by decide) rfl (fun ls hl => ?_)
  obtain ⟨j51, ej51, hf⟩ := sl_el hf
  have J_51 : ∀ (XS : DM) (H : Heap) (locs : List Loc) (ls : Array Slot), va_P g.1 vwCl (pS g aS (aW 0) XS ++ (pW g aW (aP 0) (aQ 0) XW ++ (pP g aP XP))) H → va_D A (pS g aS (aW 0) XS ++ (pW g aW (aP 0) (aQ 0) XW ++ (pP g aP XP))) → va_S A s.heap H locs → lv_has ls 2 [(0, .ref (aS 0))] → j51 XS = some XSz → W p l e (headSpec wsX3_askBack rmX3_askBack).room s m args below meth c H locs 0 0 Q0 (F0 m 51 ls []) := by
    intro XS H locs ls hP hD hS hl hf
    rw [ej51] at hf
    refine lv_aload_n hx hb dX3_askBack_51 rfl (lv_at hl 0 rfl) ?_
    refine lv_iconst (v := 1) hx hb dX3_askBack_52 (by decide) ?_
    obtain ⟨X1, e2, hf⟩ := sl_el hf
    refine va_put (D := g.1) (ci := 3) (v := .int 1) (ty := .boolean) (C := RX3) (T := TX3) (N := 15) hx hb hts i_X3 tyX3 tyX3_ok nmX3 hown hK hP hD hS 0 rfl rfl 11 (by decide) (hts (.fieldLink RX3 63 "WordFlasher$State" "askedBack" "Z") (List.mem_of_getElem? (i := 7) rfl)) (fun _ h9 => h9) rfl (by decide +kernel) rfl rfl (Nat.le_of_ble_eq_true rfl) dX3_askBack_53 (fun H locs hP hD hS => ?_)
    have hP : va_P g.1 vwCl (pS g aS (aW 0) X1 ++ (pW g aW (aP 0) (aQ 0) XW ++ (pP g aP XP))) H := by subst e2; exact hP
    have hD : va_D A (pS g aS (aW 0) X1 ++ (pW g aW (aP 0) (aQ 0) XW ++ (pP g aP XP))) := by subst e2; exact hD
    refine lv_aload_n hx hb dX3_askBack_56 rfl (lv_at hl 0 rfl) ?_
    refine lv_dup hx hb dX3_askBack_57 rfl ?_
    refine va_get (D := g.1) (ci := 3) (v := .int (X1 14 0)) (C := RX3) (T := TX3) (N := 15) hx hb hts i_X3 hown hK hP 0 rfl rfl 14 (by decide) (hts (.fieldLink RX3 73 "WordFlasher$State" "askings" "I") (List.mem_of_getElem? (i := 8) rfl)) (fun _ h9 => h9) rfl dX3_askBack_58 ?_
    refine lv_iconst (v := 1) hx hb dX3_askBack_61 (by decide) ?_
    refine lv_iadd hx hb dX3_askBack_62 ?_
    obtain ⟨X3, e4, hf⟩ := sl_el hf
    refine va_put (D := g.1) (ci := 3) (v := .int ((X1 14 0) + 1)) (ty := .int) (C := RX3) (T := TX3) (N := 15) hx hb hts i_X3 tyX3 tyX3_ok nmX3 hown hK hP hD hS 0 rfl rfl 14 (by decide) (hts (.fieldLink RX3 73 "WordFlasher$State" "askings" "I") (List.mem_of_getElem? (i := 8) rfl)) (fun _ h9 => h9) rfl (by decide +kernel) rfl rfl (Nat.le_of_ble_eq_true rfl) dX3_askBack_63 (fun H locs hP hD hS => ?_)
    have hP : va_P g.1 vwCl (pS g aS (aW 0) X3 ++ (pW g aW (aP 0) (aQ 0) XW ++ (pP g aP XP))) H := by subst e4; exact hP
    have hD : va_D A (pS g aS (aW 0) X3 ++ (pW g aW (aP 0) (aQ 0) XW ++ (pP g aP XP))) := by subst e4; exact hD
    refine lv_aload_n hx hb dX3_askBack_66 rfl (lv_at hl 0 rfl) ?_
    refine lv_aload_n hx hb dX3_askBack_67 rfl (lv_at hl 0 rfl) ?_
    obtain ⟨r5, h6, hf⟩ := bnd_el hf
    refine rdV (As := []) (rest := [.ref (aS 0)]) ⟨hx, hb, hml, hown, hts⟩ (c_X3_wordAskedFor l g aS aW aP aQ _ _ _ _ _ h6) (cwV 0 hts gX3_askBack_X3_wordAskedFor rfl rfl rfl (by decide +kernel) ⟨Nat.le_of_ble_eq_true rfl, Nat.le_of_ble_eq_true rfl⟩) hKW hP [0, 1, 2, 3, 4, 5, 6, 7, 8, 9, 10, 11, 12, 13, 14, 15, 16, 17] rfl (va_recv hK hP (ci := 3) (q0 := 0) rfl rfl) rfl hl.1 rfl (lv_room (Nat.le_of_ble_eq_true rfl)) dX3_askBack_68 ⟨Nat.zero_le _, Nat.zero_le _⟩ (fun r7 q8 => ?_)
    obtain ⟨q8, nb9⟩ := q8
    refine lv_as q8.symm ?_
    obtain ⟨X10, h11, hf⟩ := bnd_el hf
    refine wr_v (rest := []) (wc := (pS g aS (aW 0) X3 ++ (pW g aW (aP 0) (aQ 0) XW))) (wc' := (pS g aS (aW 0) X10 ++ (pW g aW (aP 0) (aQ 0) XW))) (ws2 := (pS g aS (aW 0) X10 ++ (pW g aW (aP 0) (aQ 0) XW ++ (pP g aP XP)))) hP hD hS hA [0, 1, 2, 3, 4, 5, 6, 7, 8, 9, 10, 11, 12, 13] rfl rfl (by rfl) (rnV (As := [.int r5]) ⟨hx, hb, hml, hown, hts⟩ (c_X3_becomePresent l g aS aW aP aQ _ _ _ _ _ _ h11) (cwV 1 hts gX3_askBack_X3_becomePresent rfl rfl rfl (by decide +kernel) ⟨Nat.le_of_ble_eq_true rfl, Nat.le_of_ble_eq_true rfl⟩) hKW hP hD [0, 1, 2, 3, 4, 5, 6, 7, 8, 9, 10, 11, 12, 13] (by decide) rfl (va_recv hK hP (ci := 3) (q0 := 0) rfl rfl) rfl hl.1 rfl (lv_room (Nat.le_of_ble_eq_true rfl)) dX3_askBack_71 ⟨Nat.zero_le _, Nat.zero_le _⟩) (fun H locs hP hD hS => ?_)
    have er0 := Option.some.inj hf
    rw [← hQ0]; exact W.vret hx hb hr (fun t ht hW => ⟨⟨(), rfl, trivial, by dsimp only; rw [ht, ← er0]; exact hP⟩, hS.F ht⟩) hS.2.2 dX3_askBack_74
  have L_2 : ∀ fu : Nat, ∀ (x1 : Int32) (XS : DM) (H : Heap) (locs : List Loc) (ls : Array Slot), va_P g.1 vwCl (pS g aS (aW 0) XS ++ (pW g aW (aP 0) (aQ 0) XW ++ (pP g aP XP))) H → va_D A (pS g aS (aW 0) XS ++ (pW g aW (aP 0) (aQ 0) XW ++ (pP g aP XP))) → va_S A s.heap H locs → lv_has ls 2 [(0, .ref (aS 0)), (1, .int x1)] → fX3_askBack_L2 n XW XP j51 fu x1 XS = some XSz → W p l e (headSpec wsX3_askBack rmX3_askBack).room s m args below meth c H locs 0 0 Q0 (F0 m 2 ls []) := by
    intro fu
    induction fu with
    | zero => intros; rename_i hf; rw [fX3_askBack_L2] at hf; cases hf
    | succ fu ih =>
      intro x1 XS H locs ls hP hD hS hl hf
      rw [fX3_askBack_L2] at hf
      refine lv_iload_n hx hb dX3_askBack_2 rfl (lv_at hl 1 rfl) ?_
      refine lv_iconst (v := 3) hx hb dX3_askBack_3 (by decide) ?_
      refine lv_icmp_ge (tgt := 51) hx hb dX3_askBack_4 (by decide) (fun c12 => ?_) (fun c12 => ?_)
      · have hf := ite_t hf c12
        exact J_51 XS _ _ ls hP hD hS (lv_sub hl [0] rfl) hf
      · have hf := ite_f hf c12
        refine lv_aload_n hx hb dX3_askBack_7 rfl (lv_at hl 0 rfl) ?_
        refine lv_iload_n hx hb dX3_askBack_8 rfl (lv_at hl 1 rfl) ?_
        obtain ⟨r13, h14, hf⟩ := bnd_el hf
        refine rdV (As := [.int x1]) (rest := []) ⟨hx, hb, hml, hown, hts⟩ (c_X3_isClassOfLatest l g aS aW aP aQ _ _ _ _ _ h14) (cwV 1 hts gX3_askBack_X3_isClassOfLatest rfl rfl rfl (by decide +kernel) ⟨Nat.le_of_ble_eq_true rfl, Nat.le_of_ble_eq_true rfl⟩) hKW hP [0, 1, 2, 3, 4, 5, 6, 7, 8, 9, 10, 11, 12, 13] rfl (va_recv hK hP (ci := 3) (q0 := 0) rfl rfl) rfl hl.1 rfl (lv_room (Nat.le_of_ble_eq_true rfl)) dX3_askBack_9 ⟨Nat.zero_le _, Nat.zero_le _⟩ (fun r15 q16 => ?_)
        obtain ⟨q16, nb17⟩ := q16
        refine lv_as q16.symm ?_
        rw [q16] at nb17
        obtain ⟨j45, ej45, hf⟩ := sl_el hf
        have J_45 : ∀ (x1 : Int32) (XS : DM) (H : Heap) (locs : List Loc) (ls : Array Slot), va_P g.1 vwCl (pS g aS (aW 0) XS ++ (pW g aW (aP 0) (aQ 0) XW ++ (pP g aP XP))) H → va_D A (pS g aS (aW 0) XS ++ (pW g aW (aP 0) (aQ 0) XW ++ (pP g aP XP))) → va_S A s.heap H locs → lv_has ls 2 [(0, .ref (aS 0)), (1, .int x1)] → j45 x1 XS = some XSz → W p l e (headSpec wsX3_askBack rmX3_askBack).room s m args below meth c H locs 0 0 Q0 (F0 m 45 ls []) := by
          intro x1 XS H locs ls hP hD hS hl hf
          rw [ej45] at hf
          obtain ⟨v18, e19, hf⟩ := sl_el hf
          refine lv_iinc (v := v18) (lv' := [(1, .int v18), (0, .ref (aS 0))]) hx hb dX3_askBack_45 hl (k := 1) rfl (by rw [e19]; rfl) (by decide) rfl (fun ls hl => ?_)
          refine lv_goto (tgt := 2) hx hb dX3_askBack_48 (by decide) ?_
          exact ih v18 XS _ _ ls hP hD hS (lv_sub hl [1, 0] rfl) hf
        refine lv_if_eq (tgt := 45) hx hb dX3_askBack_12 (by decide) (fun c20 => ?_) (fun c20 => ?_)
        · have hf := ite_t hf c20
          exact J_45 x1 XS _ _ ls hP hD hS (lv_sub hl [0, 1] rfl) hf
        · have hf := ite_f hf c20
          refine lv_aload_n hx hb dX3_askBack_15 rfl (lv_at hl 0 rfl) ?_
          refine va_get (D := g.1) (ci := 3) (v := .ref (aS 3)) (C := RX3) (T := TX3) (N := 15) hx hb hts i_X3 hown hK hP 0 rfl rfl 4 (by decide) (hts (.fieldLink RX3 30 "WordFlasher$State" "speeds" "[I") (List.mem_of_getElem? (i := 1) rfl)) (fun _ h9 => h9) rfl dX3_askBack_16 ?_
          refine lv_iload_n hx hb dX3_askBack_19 rfl (lv_at hl 1 rfl) ?_
          refine lv_bipush (v := 50) hx hb dX3_askBack_20 (by decide) ?_
          refine lv_aload_n hx hb dX3_askBack_22 rfl (lv_at hl 0 rfl) ?_
          refine va_get (D := g.1) (ci := 3) (v := .ref (aS 3)) (C := RX3) (T := TX3) (N := 15) hx hb hts i_X3 hown hK hP 0 rfl rfl 4 (by decide) (hts (.fieldLink RX3 30 "WordFlasher$State" "speeds" "[I") (List.mem_of_getElem? (i := 1) rfl)) (fun _ h9 => h9) rfl dX3_askBack_23 ?_
          refine lv_iload_n hx hb dX3_askBack_26 rfl (lv_at hl 1 rfl) ?_
          obtain ⟨r21, h22, hf⟩ := bnd_el hf
          refine rdN (As := [.ref (aS 3), .int x1]) (rest := [.int 50, .int x1, .ref (aS 3)]) ⟨hx, hb, hml, hown, hts⟩ (c_X5_at l g (aS 3) 3 _ _ _ h22) ⟨va_cnB 2 hts gX3_askBack_X5_at_n99 rfl rfl rfl (hKW.2 _ (List.mem_of_getElem? (i := 6) rfl)) (hts (.initialized RX5) (List.mem_of_getElem? (i := 23) rfl)) (by decide +kernel) ⟨Nat.le_of_ble_eq_true rfl, Nat.le_of_ble_eq_true rfl⟩, (hts (.static yX5_at) (List.mem_of_getElem? (i := 22) rfl)), trivial⟩ hKW hP [3] rfl rfl hl.1 rfl (lv_room (Nat.le_of_ble_eq_true rfl)) dX3_askBack_27 ⟨Nat.zero_le _, Nat.zero_le _⟩ (fun r23 q24 => ?_)
          obtain ⟨q24, nb25⟩ := q24
          refine lv_as q24.symm ?_
          refine lv_aload_n hx hb dX3_askBack_30 rfl (lv_at hl 0 rfl) ?_
          refine va_get (D := g.1) (ci := 3) (v := .ref (aS 2)) (C := RX3) (T := TX3) (N := 15) hx hb hts i_X3 hown hK hP 0 rfl rfl 3 (by decide) (hts (.fieldLink RX3 27 "WordFlasher$State" "settings" "[I") (List.mem_of_getElem? (i := 2) rfl)) (fun _ h9 => h9) rfl dX3_askBack_31 ?_
          refine lv_iconst (v := 5) hx hb dX3_askBack_34 (by decide) ?_
          obtain ⟨r26, h27, hf⟩ := bnd_el hf
          refine rdN (As := [.ref (aS 2), .int 5]) (rest := [.int r21, .int 50, .int x1, .ref (aS 3)]) ⟨hx, hb, hml, hown, hts⟩ (c_X5_at l g (aS 2) 7 _ _ _ h27) ⟨va_cnB 2 hts gX3_askBack_X5_at_n99 rfl rfl rfl (hKW.2 _ (List.mem_of_getElem? (i := 6) rfl)) (hts (.initialized RX5) (List.mem_of_getElem? (i := 23) rfl)) (by decide +kernel) ⟨Nat.le_of_ble_eq_true rfl, Nat.le_of_ble_eq_true rfl⟩, (hts (.static yX5_at) (List.mem_of_getElem? (i := 22) rfl)), trivial⟩ hKW hP [2] rfl rfl hl.1 rfl (lv_room (Nat.le_of_ble_eq_true rfl)) dX3_askBack_35 ⟨Nat.zero_le _, Nat.zero_le _⟩ (fun r28 q29 => ?_)
          obtain ⟨q29, nb30⟩ := q29
          refine lv_as q29.symm ?_
          refine lv_isub hx hb dX3_askBack_38 ?_
          obtain ⟨v31, e32, hf⟩ := sl_el hf
          refine va_mmax hx hb (hml.trans hl.1.symm) hown (hts (.methodLink RX3 103 Lib.Math.max.name) (List.mem_of_getElem? (i := 3) rfl)) (hts (.static Lib.Math.max.name) (List.mem_of_getElem? (i := 4) rfl)) (hts (.initialized "java/lang/Math") (List.mem_of_getElem? (i := 5) rfl)) (hts (.code Lib.Math.max.name Lib.Math.max.code 2 (some .int)) (List.mem_of_getElem? (i := 6) rfl)) (Nat.le_of_ble_eq_true rfl) (Nat.le_of_ble_eq_true rfl) (Nat.zero_le _) (Nat.zero_le _) dX3_askBack_39 ?_
          refine lv_as e32 ?_
          obtain ⟨f33, h34, hf⟩ := bnd_el hf
          obtain ⟨X35, e36, hf⟩ := sl_el hf
          refine wr_v (rest := []) (wc := (pR g (aS 3) 3 (XS 4))) (wc' := (pR g (aS 3) 3 f33)) (ws2 := (pS g aS (aW 0) X35 ++ (pW g aW (aP 0) (aQ 0) XW ++ (pP g aP XP)))) hP hD hS hA [3] rfl rfl (by subst e36; rfl) (rnN (As := [.ref (aS 3), .int x1, .int v31]) ⟨hx, hb, hml, hown, hts⟩ (c_X5_put l g (aS 3) 3 _ _ _ _ _ h34) ⟨va_cnB 3 hts gX3_askBack_X5_put_n133 rfl rfl rfl (hKW.2 _ (List.mem_of_getElem? (i := 9) rfl)) (hts (.initialized RX5) (List.mem_of_getElem? (i := 23) rfl)) (by decide +kernel) ⟨Nat.le_of_ble_eq_true rfl, Nat.le_of_ble_eq_true rfl⟩, (hts (.static yX5_put) (List.mem_of_getElem? (i := 25) rfl)), trivial⟩ hKW hP hD [3] (by decide) rfl rfl hl.1 rfl (lv_room (Nat.le_of_ble_eq_true rfl)) dX3_askBack_42 ⟨Nat.zero_le _, Nat.zero_le _⟩) (fun H locs hP hD hS => ?_)
          exact J_45 x1 X35 _ _ ls hP hD hS (lv_sub hl [0, 1] rfl) hf
  exact L_2 n 0 XS _ _ ls hP hD hS (lv_sub hl [1, 0] rfl) hf
abbrev rmX3_leapError : Room := { frames := 2, cells := 0, slots := 0, locals := 42 }
set_option maxHeartbeats 8000000 in
set_option maxRecDepth 100000 in
theorem c_X3_leapError (l : Launch) (g : GG) (aS : Nat → Nat) (aW : Nat → Nat) (aP : Nat → Nat) (aQ : Nat → Nat) (XS : DM) (XW : DM) (XP : DM) (p1 : Int32) (r : Int32) (hf : fX3_leapError XS XW XP p1 = some r) : Met l yX3_leapError wsX3_leapError rmX3_leapError (va_Pc [.ref (aS 0), .int p1] (fun U => va_P g.1 vwCl (pS g aS (aW 0) XS ++ (pW g aW (aP 0) (aQ 0) XW ++ (pP g aP XP))) U.heap ∧ KW g U)) (vp_Si (fun r' => r' = r ∧ True)) 0 0 (fun _ => False) := by
  refine Met.ofW (cc := cX3_leapError) (maxL := 2) (ret := (some .int)) (by decide) rfl ?_
  intro p e s m args below meth c s₁ B hml hv
  obtain ⟨hargs, hP, hKW⟩ := hv
  have hK := hKW.1
  have hx := B.exec
  have hb := B.bytes
  have hr := B.returns
  have hts := atoms_spec (ws := wsX3_leapError) B.pre
  have hown : s.vm.findClass RX3 = some m.cls := findClass_of_methodNamed B.named
  have hlocks := B.notSynchronized
  have i_X3 : ∀ w ∈ wsX30, w ∈ wsX3_leapError := fun w h => List.mem_cons_of_mem _ (List.mem_append_left _ (List.mem_append_left _ (List.mem_append_right _ h)))
  have i_X4 : ∀ w ∈ wsX40, w ∈ wsX3_leapError := fun w h => List.mem_cons_of_mem _ (List.mem_append_left _ (List.mem_append_right _ h))
  have i_X2 : ∀ w ∈ wsX20, w ∈ wsX3_leapError := fun w h => List.mem_cons_of_mem _ (List.mem_append_right _ h)
  have hent : entryFrame m args 2 = F0 m 0 ((lg_sl ([.ref (aS 0), .int p1]) ++ List.replicate (2 - (lg_sl ([.ref (aS 0), .int p1])).length) Slot.unset).toArray) [] := by rw [hargs]; exact lg_entry_eq _ _ _
  rw [hent]
  have hl := lv_entry ([.ref (aS 0), .int p1]) (n := 2) (Nat.le_of_ble_eq_true rfl)
  generalize (lg_sl ([.ref (aS 0), .int p1]) ++ List.replicate (2 - (lg_sl ([.ref (aS 0), .int p1])).length) Slot.unset).toArray = ls at hl ⊢
  have hl : lv_has ls 2 [(0, .ref (aS 0)), (1, .int p1)] := hl
  generalize hQ0 : MQ below _ _ _ _ _ _ = Q0
  unfold fX3_leapError at hf
  refine lv_aload_n hx hb dX3_leapError_0 rfl (lv_at hl 0 rfl) ?_
  refine va_get (D := g.1) (ci := 3) (v := .ref (aW 0)) (C := RX3) (T := TX3) (N := 15) hx hb hts i_X3 hown hK hP 0 rfl rfl 0 (by decide) (hts (.fieldLink RX3 9 "WordFlasher$State" "words" "LWordFlasher$Words;") (List.mem_of_getElem? (i := 1) rfl)) (fun _ h9 => h9) rfl dX3_leapError_1 ?_
  refine va_get (D := g.1) (ci := 4) (v := .ref (aP 0)) (C := RX4) (T := TX4) (N := 9) hx hb hts i_X4 hown hK hP 7 rfl rfl 6 (by decide) (hts (.fieldLink RX3 144 "WordFlasher$Words" "sentences" "LWordFlasher$Spans;") (List.mem_of_getElem? (i := 2) rfl)) (fun _ h9 => h9) rfl dX3_leapError_4 ?_
  refine lv_iload_n hx hb dX3_leapError_7 rfl (lv_at hl 1 rfl) ?_
  obtain ⟨r1, h2, hf⟩ := bnd_el hf
  refine rdV (As := [.int p1]) (rest := []) ⟨hx, hb, hml, hown, hts⟩ (c_X2_has l g aP _ _ _ h2) (cwV 1 hts gX3_leapError_X2_has rfl rfl rfl (by decide +kernel) ⟨Nat.le_of_ble_eq_true rfl, Nat.le_of_ble_eq_true rfl⟩) hKW hP [14, 15, 16, 17] rfl (va_recv hK hP (ci := 2) (q0 := 14) rfl rfl) rfl hl.1 rfl (lv_room (Nat.le_of_ble_eq_true rfl)) dX3_leapError_8 ⟨Nat.zero_le _, Nat.zero_le _⟩ (fun r3 q4 => ?_)
  obtain ⟨q4, nb5⟩ := q4
  refine lv_as q4.symm ?_
  rw [q4] at nb5
  refine lv_if_ne (tgt := 16) hx hb dX3_leapError_11 (by decide) (fun c6 => ?_) (fun c6 => ?_)
  · have hf := ite_f hf c6
    refine lv_aload_n hx hb dX3_leapError_16 rfl (lv_at hl 0 rfl) ?_
    refine va_get (D := g.1) (ci := 3) (v := .int (XS 6 0)) (C := RX3) (T := TX3) (N := 15) hx hb hts i_X3 hown hK hP 0 rfl rfl 6 (by decide) (hts (.fieldLink RX3 46 "WordFlasher$State" "present" "I") (List.mem_of_getElem? (i := 3) rfl)) (fun _ h9 => h9) rfl dX3_leapError_17 ?_
    refine lv_iconst (v := (-1)) hx hb dX3_leapError_20 (by decide) ?_
    refine lv_icmp_eq (tgt := 48) hx hb dX3_leapError_21 (by decide) (fun c7 => ?_) (fun c7 => ?_)
    · have hf := ite_t hf c7
      refine lv_bipush (v := (-2)) hx hb dX3_leapError_48 (by decide) ?_
      have er0 := Option.some.inj hf
      rw [← hQ0]; exact W.iret (v := (-2)) hx hb hr (fun t ht hW => ⟨(-2), rfl, ⟨er0, trivial⟩, ht⟩) (fun q h => by cases h) dX3_leapError_50
    · have hf := ite_f hf c7
      refine lv_aload_n hx hb dX3_leapError_24 rfl (lv_at hl 0 rfl) ?_
      refine va_get (D := g.1) (ci := 3) (v := .ref (aW 0)) (C := RX3) (T := TX3) (N := 15) hx hb hts i_X3 hown hK hP 0 rfl rfl 0 (by decide) (hts (.fieldLink RX3 9 "WordFlasher$State" "words" "LWordFlasher$Words;") (List.mem_of_getElem? (i := 1) rfl)) (fun _ h9 => h9) rfl dX3_leapError_25 ?_
      refine lv_aload_n hx hb dX3_leapError_28 rfl (lv_at hl 0 rfl) ?_
      refine va_get (D := g.1) (ci := 3) (v := .ref (aW 0)) (C := RX3) (T := TX3) (N := 15) hx hb hts i_X3 hown hK hP 0 rfl rfl 0 (by decide) (hts (.fieldLink RX3 9 "WordFlasher$State" "words" "LWordFlasher$Words;") (List.mem_of_getElem? (i := 1) rfl)) (fun _ h9 => h9) rfl dX3_leapError_29 ?_
      refine va_get (D := g.1) (ci := 4) (v := .ref (aP 0)) (C := RX4) (T := TX4) (N := 9) hx hb hts i_X4 hown hK hP 7 rfl rfl 6 (by decide) (hts (.fieldLink RX3 144 "WordFlasher$Words" "sentences" "LWordFlasher$Spans;") (List.mem_of_getElem? (i := 2) rfl)) (fun _ h9 => h9) rfl dX3_leapError_32 ?_
      refine va_get (D := g.1) (ci := 2) (v := .ref (aP 1)) (C := RX2) (T := TX2) (N := 4) hx hb hts i_X2 hown hK hP 14 rfl rfl 0 (by decide) (hts (.fieldLink RX3 153 "WordFlasher$Spans" "firsts" "[I") (List.mem_of_getElem? (i := 4) rfl)) (fun _ h9 => h9) rfl dX3_leapError_35 ?_
      refine lv_iload_n hx hb dX3_leapError_38 rfl (lv_at hl 1 rfl) ?_
      obtain ⟨r8, h9, hf⟩ := bnd_el hf
      refine rdN (As := [.ref (aP 1), .int p1]) (rest := [.ref (aW 0)]) ⟨hx, hb, hml, hown, hts⟩ (c_X5_at l g (aP 1) 150 _ _ _ h9) ⟨va_cnB 2 hts gX3_leapError_X5_at_n99 rfl rfl rfl (hKW.2 _ (List.mem_of_getElem? (i := 6) rfl)) (hts (.initialized RX5) (List.mem_of_getElem? (i := 12) rfl)) (by decide +kernel) ⟨Nat.le_of_ble_eq_true rfl, Nat.le_of_ble_eq_true rfl⟩, (hts (.static yX5_at) (List.mem_of_getElem? (i := 11) rfl)), trivial⟩ hKW hP [15] rfl rfl hl.1 rfl (lv_room (Nat.le_of_ble_eq_true rfl)) dX3_leapError_39 ⟨Nat.zero_le _, Nat.zero_le _⟩ (fun r10 q11 => ?_)
      obtain ⟨q11, nb12⟩ := q11
      refine lv_as q11.symm ?_
      obtain ⟨r13, h14, hf⟩ := bnd_el hf
      refine rdV (As := [.int r8]) (rest := []) ⟨hx, hb, hml, hown, hts⟩ (c_X4_isMark l g aW aP aQ _ _ _ h14) (cwV 1 hts gX3_leapError_X4_isMark rfl rfl rfl (by decide +kernel) ⟨Nat.le_of_ble_eq_true rfl, Nat.le_of_ble_eq_true rfl⟩) hKW hP [7, 8, 9, 10, 11, 12, 13] rfl (va_recv hK hP (ci := 4) (q0 := 7) rfl rfl) rfl hl.1 rfl (lv_room (Nat.le_of_ble_eq_true rfl)) dX3_leapError_42 ⟨Nat.zero_le _, Nat.zero_le _⟩ (fun r15 q16 => ?_)
      obtain ⟨q16, nb17⟩ := q16
      refine lv_as q16.symm ?_
      rw [q16] at nb17
      refine lv_if_eq (tgt := 51) hx hb dX3_leapError_45 (by decide) (fun c18 => ?_) (fun c18 => ?_)
      · have hf := ite_t hf c18
        refine lv_iconst (v := 0) hx hb dX3_leapError_51 (by decide) ?_
        have er0 := Option.some.inj hf
        rw [← hQ0]; exact W.iret (v := 0) hx hb hr (fun t ht hW => ⟨0, rfl, ⟨er0, trivial⟩, ht⟩) (fun q h => by cases h) dX3_leapError_52
      · have hf := ite_f hf c18
        refine lv_bipush (v := (-2)) hx hb dX3_leapError_48 (by decide) ?_
        have er0 := Option.some.inj hf
        rw [← hQ0]; exact W.iret (v := (-2)) hx hb hr (fun t ht hW => ⟨(-2), rfl, ⟨er0, trivial⟩, ht⟩) (fun q h => by cases h) dX3_leapError_50
  · have hf := ite_t hf c6
    refine lv_iconst (v := (-1)) hx hb dX3_leapError_14 (by decide) ?_
    have er0 := Option.some.inj hf
    rw [← hQ0]; exact W.iret (v := (-1)) hx hb hr (fun t ht hW => ⟨(-1), rfl, ⟨er0, trivial⟩, ht⟩) (fun q h => by cases h) dX3_leapError_15
abbrev rmX3_leapTo : Room := { frames := 4, cells := 0, slots := 0, locals := 89 }
set_option maxHeartbeats 8000000 in
set_option maxRecDepth 100000 in
theorem c_X3_leapTo (l : Launch) (g : GG) (aS : Nat → Nat) (aW : Nat → Nat) (aP : Nat → Nat) (aQ : Nat → Nat) (sz : Nat) (n : Nat) (XS : DM) (XW : DM) (XP : DM) (p1 : Int32) (XSz : DM) (hf : fX3_leapTo n XS XW XP p1 = some XSz) : Met l yX3_leapTo wsX3_leapTo rmX3_leapTo (va_Pc [.ref (aS 0), .int p1] (fun U => U.heap.size = sz ∧ va_P g.1 vwCl (pS g aS (aW 0) XS ++ (pW g aW (aP 0) (aQ 0) XW ++ (pP g aP XP))) U.heap ∧ KW g U ∧ va_D (fun _ => True) (pS g aS (aW 0) XS ++ (pW g aW (aP 0) (aQ 0) XW ++ (pP g aP XP))))) (va_Qv (fun (_ : Unit) => True) (fun (_ : Unit) t => va_P g.1 vwCl (pS g aS (aW 0) XSz ++ (pW g aW (aP 0) (aQ 0) XW ++ (pP g aP XP))) t.heap) (va_A (pS g aS (aW 0) XS ++ (pW g aW (aP 0) (aQ 0) XW ++ (pP g aP XP))) sz)) 0 0 (va_A (pS g aS (aW 0) XS ++ (pW g aW (aP 0) (aQ 0) XW ++ (pP g aP XP))) sz) := by
  refine Met.ofW (cc := cX3_leapTo) (maxL := 3) (ret := none) (by decide) rfl ?_
  intro p e s m args below meth c s₁ B hml hv
  obtain ⟨hargs, hsz, hP, hKW, hD0⟩ := hv
  have hK := hKW.1
  have hx := B.exec
  have hb := B.bytes
  have hr := B.returns
  have hts := atoms_spec (ws := wsX3_leapTo) B.pre
  have hown : s.vm.findClass RX3 = some m.cls := findClass_of_methodNamed B.named
  have hlocks := B.notSynchronized
  subst hsz
  have hD := hD0.self (sz := s.heap.size)
  generalize hAe : va_A (pS g aS (aW 0) XS ++ (pW g aW (aP 0) (aQ 0) XW ++ (pP g aP XP))) s.heap.size = A at hD ⊢
  have hA : ∀ q : Nat, s.heap.size ≤ q → A q := fun q h => by rw [← hAe]; exact Or.inr h
  have hS : va_S A s.heap s.heap [] := va_S.rf
  have i_X3 : ∀ w ∈ wsX30, w ∈ wsX3_leapTo := fun w h => List.mem_cons_of_mem _ (List.mem_append_left _ (List.mem_append_left _ (List.mem_append_right _ h)))
  have i_X4 : ∀ w ∈ wsX40, w ∈ wsX3_leapTo := fun w h => List.mem_cons_of_mem _ (List.mem_append_left _ (List.mem_append_right _ h))
  have i_X2 : ∀ w ∈ wsX20, w ∈ wsX3_leapTo := fun w h => List.mem_cons_of_mem _ (List.mem_append_right _ h)
  have hent : entryFrame m args 3 = F0 m 0 ((lg_sl ([.ref (aS 0), .int p1]) ++ List.replicate (3 - (lg_sl ([.ref (aS 0), .int p1])).length) Slot.unset).toArray) [] := by rw [hargs]; exact lg_entry_eq _ _ _
  rw [hent]
  have hl := lv_entry ([.ref (aS 0), .int p1]) (n := 3) (Nat.le_of_ble_eq_true rfl)
  generalize (lg_sl ([.ref (aS 0), .int p1]) ++ List.replicate (3 - (lg_sl ([.ref (aS 0), .int p1])).length) Slot.unset).toArray = ls at hl ⊢
  have hl : lv_has ls 3 [(0, .ref (aS 0)), (1, .int p1)] := hl
  generalize hQ0 : MQ below _ _ _ _ _ _ = Q0
  unfold fX3_leapTo at hf
  refine lv_aload_n hx hb dX3_leapTo_0 rfl (lv_at hl 0 rfl) ?_
  refine va_get (D := g.1) (ci := 3) (v := .int (XS 9 0)) (C := RX3) (T := TX3) (N := 15) hx hb hts i_X3 hown hK hP 0 rfl rfl 9 (by decide) (hts (.fieldLink RX3 60 "WordFlasher$State" "placed" "I") (List.mem_of_getElem? (i := 1) rfl)) (fun _ h9 => h9) rfl dX3_leapTo_1 ?_
  refine lv_iconst (v := 5) hx hb dX3_leapTo_4 (by decide) ?_
  obtain ⟨j44, ej44, hf⟩ := sl_el hf
  have J_44 : ∀ (x1 : Int32) (XS : DM) (H : Heap) (locs : List Loc) (ls : Array Slot), va_P g.1 vwCl (pS g aS (aW 0) XS ++ (pW g aW (aP 0) (aQ 0) XW ++ (pP g aP XP))) H → va_D A (pS g aS (aW 0) XS ++ (pW g aW (aP 0) (aQ 0) XW ++ (pP g aP XP))) → va_S A s.heap H locs → lv_has ls 3 [(0, .ref (aS 0)), (1, .int x1)] → j44 x1 XS = some XSz → W p l e (headSpec wsX3_leapTo rmX3_leapTo).room s m args below meth c H locs 0 0 Q0 (F0 m 44 ls []) := by
    intro x1 XS H locs ls hP hD hS hl hf
    rw [ej44] at hf
    refine lv_aload_n hx hb dX3_leapTo_44 rfl (lv_at hl 0 rfl) ?_
    refine va_get (D := g.1) (ci := 3) (v := .ref (aS 5)) (C := RX3) (T := TX3) (N := 15) hx hb hts i_X3 hown hK hP 0 rfl rfl 8 (by decide) (hts (.fieldLink RX3 36 "WordFlasher$State" "places" "[I") (List.mem_of_getElem? (i := 2) rfl)) (fun _ h9 => h9) rfl dX3_leapTo_45 ?_
    refine lv_aload_n hx hb dX3_leapTo_48 rfl (lv_at hl 0 rfl) ?_
    refine va_get (D := g.1) (ci := 3) (v := .int (XS 9 0)) (C := RX3) (T := TX3) (N := 15) hx hb hts i_X3 hown hK hP 0 rfl rfl 9 (by decide) (hts (.fieldLink RX3 60 "WordFlasher$State" "placed" "I") (List.mem_of_getElem? (i := 1) rfl)) (fun _ h9 => h9) rfl dX3_leapTo_49 ?_
    refine lv_aload_n hx hb dX3_leapTo_52 rfl (lv_at hl 0 rfl) ?_
    refine va_get (D := g.1) (ci := 3) (v := .int (XS 6 0)) (C := RX3) (T := TX3) (N := 15) hx hb hts i_X3 hown hK hP 0 rfl rfl 6 (by decide) (hts (.fieldLink RX3 46 "WordFlasher$State" "present" "I") (List.mem_of_getElem? (i := 3) rfl)) (fun _ h9 => h9) rfl dX3_leapTo_53 ?_
    obtain ⟨f1, h2, hf⟩ := bnd_el hf
    obtain ⟨X3, e4, hf⟩ := sl_el hf
    refine wr_v (rest := []) (wc := (pR g (aS 5) 5 (XS 8))) (wc' := (pR g (aS 5) 5 f1)) (ws2 := (pS g aS (aW 0) X3 ++ (pW g aW (aP 0) (aQ 0) XW ++ (pP g aP XP)))) hP hD hS hA [5] rfl rfl (by subst e4; rfl) (rnN (As := [.ref (aS 5), .int (XS 9 0), .int (XS 6 0)]) ⟨hx, hb, hml, hown, hts⟩ (c_X5_put l g (aS 5) 5 _ _ _ _ _ h2) ⟨va_cnB 3 hts gX3_leapTo_X5_put_n133 rfl rfl rfl (hKW.2 _ (List.mem_of_getElem? (i := 9) rfl)) (hts (.initialized RX5) (List.mem_of_getElem? (i := 9) rfl)) (by decide +kernel) ⟨Nat.le_of_ble_eq_true rfl, Nat.le_of_ble_eq_true rfl⟩, (hts (.static yX5_put) (List.mem_of_getElem? (i := 8) rfl)), trivial⟩ hKW hP hD [5] (by decide) rfl rfl hl.1 rfl (lv_room (Nat.le_of_ble_eq_true rfl)) dX3_leapTo_56 ⟨Nat.zero_le _, Nat.zero_le _⟩) (fun H locs hP hD hS => ?_)
    refine lv_aload_n hx hb dX3_leapTo_59 rfl (lv_at hl 0 rfl) ?_
    refine lv_dup hx hb dX3_leapTo_60 rfl ?_
    refine va_get (D := g.1) (ci := 3) (v := .int (X3 9 0)) (C := RX3) (T := TX3) (N := 15) hx hb hts i_X3 hown hK hP 0 rfl rfl 9 (by decide) (hts (.fieldLink RX3 60 "WordFlasher$State" "placed" "I") (List.mem_of_getElem? (i := 1) rfl)) (fun _ h9 => h9) rfl dX3_leapTo_61 ?_
    refine lv_iconst (v := 1) hx hb dX3_leapTo_64 (by decide) ?_
    refine lv_iadd hx hb dX3_leapTo_65 ?_
    obtain ⟨X5, e6, hf⟩ := sl_el hf
    refine va_put (D := g.1) (ci := 3) (v := .int ((X3 9 0) + 1)) (ty := .int) (C := RX3) (T := TX3) (N := 15) hx hb hts i_X3 tyX3 tyX3_ok nmX3 hown hK hP hD hS 0 rfl rfl 9 (by decide) (hts (.fieldLink RX3 60 "WordFlasher$State" "placed" "I") (List.mem_of_getElem? (i := 1) rfl)) (fun _ h9 => h9) rfl (by decide +kernel) rfl rfl (Nat.le_of_ble_eq_true rfl) dX3_leapTo_66 (fun H locs hP hD hS => ?_)
    have hP : va_P g.1 vwCl (pS g aS (aW 0) X5 ++ (pW g aW (aP 0) (aQ 0) XW ++ (pP g aP XP))) H := by subst e6; exact hP
    have hD : va_D A (pS g aS (aW 0) X5 ++ (pW g aW (aP 0) (aQ 0) XW ++ (pP g aP XP))) := by subst e6; exact hD
    refine lv_aload_n hx hb dX3_leapTo_69 rfl (lv_at hl 0 rfl) ?_
    refine lv_iconst (v := 0) hx hb dX3_leapTo_70 (by decide) ?_
    obtain ⟨X7, e8, hf⟩ := sl_el hf
    refine va_put (D := g.1) (ci := 3) (v := .int 0) (ty := .boolean) (C := RX3) (T := TX3) (N := 15) hx hb hts i_X3 tyX3 tyX3_ok nmX3 hown hK hP hD hS 0 rfl rfl 11 (by decide) (hts (.fieldLink RX3 63 "WordFlasher$State" "askedBack" "Z") (List.mem_of_getElem? (i := 4) rfl)) (fun _ h9 => h9) rfl (by decide +kernel) rfl rfl (Nat.le_of_ble_eq_true rfl) dX3_leapTo_71 (fun H locs hP hD hS => ?_)
    have hP : va_P g.1 vwCl (pS g aS (aW 0) X7 ++ (pW g aW (aP 0) (aQ 0) XW ++ (pP g aP XP))) H := by subst e8; exact hP
    have hD : va_D A (pS g aS (aW 0) X7 ++ (pW g aW (aP 0) (aQ 0) XW ++ (pP g aP XP))) := by subst e8; exact hD
    refine lv_aload_n hx hb dX3_leapTo_74 rfl (lv_at hl 0 rfl) ?_
    refine lv_aload_n hx hb dX3_leapTo_75 rfl (lv_at hl 0 rfl) ?_
    refine va_get (D := g.1) (ci := 3) (v := .ref (aW 0)) (C := RX3) (T := TX3) (N := 15) hx hb hts i_X3 hown hK hP 0 rfl rfl 0 (by decide) (hts (.fieldLink RX3 9 "WordFlasher$State" "words" "LWordFlasher$Words;") (List.mem_of_getElem? (i := 5) rfl)) (fun _ h9 => h9) rfl dX3_leapTo_76 ?_
    refine va_get (D := g.1) (ci := 4) (v := .ref (aP 0)) (C := RX4) (T := TX4) (N := 9) hx hb hts i_X4 hown hK hP 7 rfl rfl 6 (by decide) (hts (.fieldLink RX3 144 "WordFlasher$Words" "sentences" "LWordFlasher$Spans;") (List.mem_of_getElem? (i := 6) rfl)) (fun _ h9 => h9) rfl dX3_leapTo_79 ?_
    refine va_get (D := g.1) (ci := 2) (v := .ref (aP 1)) (C := RX2) (T := TX2) (N := 4) hx hb hts i_X2 hown hK hP 14 rfl rfl 0 (by decide) (hts (.fieldLink RX3 153 "WordFlasher$Spans" "firsts" "[I") (List.mem_of_getElem? (i := 7) rfl)) (fun _ h9 => h9) rfl dX3_leapTo_82 ?_
    refine lv_iload_n hx hb dX3_leapTo_85 rfl (lv_at hl 1 rfl) ?_
    obtain ⟨r9, h10, hf⟩ := bnd_el hf
    refine rdN (As := [.ref (aP 1), .int x1]) (rest := [.ref (aS 0)]) ⟨hx, hb, hml, hown, hts⟩ (c_X5_at l g (aP 1) 150 _ _ _ h10) ⟨va_cnB 2 hts gX3_leapTo_X5_at_n99 rfl rfl rfl (hKW.2 _ (List.mem_of_getElem? (i := 6) rfl)) (hts (.initialized RX5) (List.mem_of_getElem? (i := 9) rfl)) (by decide +kernel) ⟨Nat.le_of_ble_eq_true rfl, Nat.le_of_ble_eq_true rfl⟩, (hts (.static yX5_at) (List.mem_of_getElem? (i := 11) rfl)), trivial⟩ hKW hP [15] rfl rfl hl.1 rfl (lv_room (Nat.le_of_ble_eq_true rfl)) dX3_leapTo_86 ⟨Nat.zero_le _, Nat.zero_le _⟩ (fun r11 q12 => ?_)
    obtain ⟨q12, nb13⟩ := q12
    refine lv_as q12.symm ?_
    obtain ⟨X14, h15, hf⟩ := bnd_el hf
    refine wr_v (rest := []) (wc := (pS g aS (aW 0) X7 ++ (pW g aW (aP 0) (aQ 0) XW))) (wc' := (pS g aS (aW 0) X14 ++ (pW g aW (aP 0) (aQ 0) XW))) (ws2 := (pS g aS (aW 0) X14 ++ (pW g aW (aP 0) (aQ 0) XW ++ (pP g aP XP)))) hP hD hS hA [0, 1, 2, 3, 4, 5, 6, 7, 8, 9, 10, 11, 12, 13] rfl rfl (by rfl) (rnV (As := [.int r9]) ⟨hx, hb, hml, hown, hts⟩ (c_X3_becomePresent l g aS aW aP aQ _ _ _ _ _ _ h15) (cwV 1 hts gX3_leapTo_X3_becomePresent rfl rfl rfl (by decide +kernel) ⟨Nat.le_of_ble_eq_true rfl, Nat.le_of_ble_eq_true rfl⟩) hKW hP hD [0, 1, 2, 3, 4, 5, 6, 7, 8, 9, 10, 11, 12, 13] (by decide) rfl (va_recv hK hP (ci := 3) (q0 := 0) rfl rfl) rfl hl.1 rfl (lv_room (Nat.le_of_ble_eq_true rfl)) dX3_leapTo_89 ⟨Nat.zero_le _, Nat.zero_le _⟩) (fun H locs hP hD hS => ?_)
    have er0 := Option.some.inj hf
    rw [← hQ0]; exact W.vret hx hb hr (fun t ht hW => ⟨⟨(), rfl, trivial, by dsimp only; rw [ht, ← er0]; exact hP⟩, hS.F ht⟩) hS.2.2 dX3_leapTo_92
  refine lv_icmp_lt (tgt := 44) hx hb dX3_leapTo_5 (by decide) (fun c16 => ?_) (fun c16 => ?_)
  · have hf := ite_t hf c16
    exact J_44 p1 XS _ _ ls hP hD hS (lv_sub hl [0, 1] rfl) hf
  · have hf := ite_f hf c16
    refine lv_iconst (v := 1) hx hb dX3_leapTo_8 (by decide) ?_
    refine lv_istore_n (lv' := [(2, .int 1), (0, .ref (aS 0)), (1, .int p1)]) hx hb dX3_leapTo_9 rfl hl (by decide) rfl (fun ls hl => ?_)
    obtain ⟨j39, ej39, hf⟩ := sl_el hf
    have J_39 : ∀ (x1 : Int32) (XS : DM) (H : Heap) (locs : List Loc) (ls : Array Slot), va_P g.1 vwCl (pS g aS (aW 0) XS ++ (pW g aW (aP 0) (aQ 0) XW ++ (pP g aP XP))) H → va_D A (pS g aS (aW 0) XS ++ (pW g aW (aP 0) (aQ 0) XW ++ (pP g aP XP))) → va_S A s.heap H locs → lv_has ls 3 [(0, .ref (aS 0)), (1, .int x1)] → j39 x1 XS = some XSz → W p l e (headSpec wsX3_leapTo rmX3_leapTo).room s m args below meth c H locs 0 0 Q0 (F0 m 39 ls []) := by
      intro x1 XS H locs ls hP hD hS hl hf
      rw [ej39] at hf
      refine lv_aload_n hx hb dX3_leapTo_39 rfl (lv_at hl 0 rfl) ?_
      refine lv_iconst (v := 4) hx hb dX3_leapTo_40 (by decide) ?_
      obtain ⟨X17, e18, hf⟩ := sl_el hf
      refine va_put (D := g.1) (ci := 3) (v := .int 4) (ty := .int) (C := RX3) (T := TX3) (N := 15) hx hb hts i_X3 tyX3 tyX3_ok nmX3 hown hK hP hD hS 0 rfl rfl 9 (by decide) (hts (.fieldLink RX3 60 "WordFlasher$State" "placed" "I") (List.mem_of_getElem? (i := 1) rfl)) (fun _ h9 => h9) rfl (by decide +kernel) rfl rfl (Nat.le_of_ble_eq_true rfl) dX3_leapTo_41 (fun H locs hP hD hS => ?_)
      have hP : va_P g.1 vwCl (pS g aS (aW 0) X17 ++ (pW g aW (aP 0) (aQ 0) XW ++ (pP g aP XP))) H := by subst e18; exact hP
      have hD : va_D A (pS g aS (aW 0) X17 ++ (pW g aW (aP 0) (aQ 0) XW ++ (pP g aP XP))) := by subst e18; exact hD
      exact J_44 x1 X17 _ _ ls hP hD hS (lv_sub hl [0, 1] rfl) hf
    have L_10 : ∀ fu : Nat, ∀ (x1 x2 : Int32) (XS : DM) (H : Heap) (locs : List Loc) (ls : Array Slot), va_P g.1 vwCl (pS g aS (aW 0) XS ++ (pW g aW (aP 0) (aQ 0) XW ++ (pP g aP XP))) H → va_D A (pS g aS (aW 0) XS ++ (pW g aW (aP 0) (aQ 0) XW ++ (pP g aP XP))) → va_S A s.heap H locs → lv_has ls 3 [(0, .ref (aS 0)), (1, .int x1), (2, .int x2)] → fX3_leapTo_L10 n XW XP j39 fu x1 x2 XS = some XSz → W p l e (headSpec wsX3_leapTo rmX3_leapTo).room s m args below meth c H locs 0 0 Q0 (F0 m 10 ls []) := by
      intro fu
      induction fu with
      | zero => intros; rename_i hf; rw [fX3_leapTo_L10] at hf; cases hf
      | succ fu ih =>
        intro x1 x2 XS H locs ls hP hD hS hl hf
        rw [fX3_leapTo_L10] at hf
        refine lv_iload_n hx hb dX3_leapTo_10 rfl (lv_at hl 2 rfl) ?_
        refine lv_aload_n hx hb dX3_leapTo_11 rfl (lv_at hl 0 rfl) ?_
        refine va_get (D := g.1) (ci := 3) (v := .ref (aS 5)) (C := RX3) (T := TX3) (N := 15) hx hb hts i_X3 hown hK hP 0 rfl rfl 8 (by decide) (hts (.fieldLink RX3 36 "WordFlasher$State" "places" "[I") (List.mem_of_getElem? (i := 2) rfl)) (fun _ h9 => h9) rfl dX3_leapTo_12 ?_
        refine va_alen (v := 5) hx hb hK hP 5 0 rfl rfl rfl dX3_leapTo_15 ?_
        refine lv_icmp_ge (tgt := 39) hx hb dX3_leapTo_16 (by decide) (fun c19 => ?_) (fun c19 => ?_)
        · have hf := ite_t hf c19
          exact J_39 x1 XS _ _ ls hP hD hS (lv_sub hl [0, 1] rfl) hf
        · have hf := ite_f hf c19
          refine lv_aload_n hx hb dX3_leapTo_19 rfl (lv_at hl 0 rfl) ?_
          refine va_get (D := g.1) (ci := 3) (v := .ref (aS 5)) (C := RX3) (T := TX3) (N := 15) hx hb hts i_X3 hown hK hP 0 rfl rfl 8 (by decide) (hts (.fieldLink RX3 36 "WordFlasher$State" "places" "[I") (List.mem_of_getElem? (i := 2) rfl)) (fun _ h9 => h9) rfl dX3_leapTo_20 ?_
          refine lv_iload_n hx hb dX3_leapTo_23 rfl (lv_at hl 2 rfl) ?_
          refine lv_iconst (v := 1) hx hb dX3_leapTo_24 (by decide) ?_
          refine lv_isub hx hb dX3_leapTo_25 ?_
          refine lv_aload_n hx hb dX3_leapTo_26 rfl (lv_at hl 0 rfl) ?_
          refine va_get (D := g.1) (ci := 3) (v := .ref (aS 5)) (C := RX3) (T := TX3) (N := 15) hx hb hts i_X3 hown hK hP 0 rfl rfl 8 (by decide) (hts (.fieldLink RX3 36 "WordFlasher$State" "places" "[I") (List.mem_of_getElem? (i := 2) rfl)) (fun _ h9 => h9) rfl dX3_leapTo_27 ?_
          refine lv_iload_n hx hb dX3_leapTo_30 rfl (lv_at hl 2 rfl) ?_
          obtain ⟨h22, v20, e21, hf⟩ := rdA_el hf
          refine va_iald hx hb hK hP 5 0 rfl rfl h22 dX3_leapTo_31 ?_
          refine lv_as e21 ?_
          obtain ⟨h25, f23, e24, hf⟩ := wrA_el hf
          obtain ⟨X26, e27, hf⟩ := sl_el hf
          refine va_iast hx hb hK hP hD hS 5 0 rfl rfl h25 dX3_leapTo_32 (fun H locs hP hD hS => ?_)
          have hP : va_P g.1 vwCl (pS g aS (aW 0) X26 ++ (pW g aW (aP 0) (aQ 0) XW ++ (pP g aP XP))) H := by subst e27; subst e24; exact hP
          have hD : va_D A (pS g aS (aW 0) X26 ++ (pW g aW (aP 0) (aQ 0) XW ++ (pP g aP XP))) := by subst e27; subst e24; exact hD
          obtain ⟨v28, e29, hf⟩ := sl_el hf
          refine lv_iinc (v := v28) (lv' := [(2, .int v28), (0, .ref (aS 0)), (1, .int x1)]) hx hb dX3_leapTo_33 hl (k := 2) rfl (by rw [e29]; rfl) (by decide) rfl (fun ls hl => ?_)
          refine lv_goto (tgt := 10) hx hb dX3_leapTo_36 (by decide) ?_
          exact ih x1 v28 X26 _ _ ls hP hD hS (lv_sub hl [1, 2, 0] rfl) hf
    exact L_10 n p1 1 XS _ _ ls hP hD hS (lv_sub hl [1, 2, 0] rfl) hf
abbrev rmX3_returnError : Room := { frames := 0, cells := 0, slots := 0, locals := 0 }
set_option maxHeartbeats 8000000 in
set_option maxRecDepth 100000 in
theorem c_X3_returnError (l : Launch) (g : GG) (aS : Nat → Nat) (aW : Nat → Nat) (aP : Nat → Nat) (aQ : Nat → Nat) (XS : DM) (r : Int32) (hf : fX3_returnError XS = some r) : Met l yX3_returnError wsX3_returnError rmX3_returnError (va_Pc [.ref (aS 0)] (fun U => va_P g.1 vwCl (pS g aS (aW 0) XS) U.heap ∧ KW g U)) (vp_Si (fun r' => r' = r ∧ True)) 0 0 (fun _ => False) := by
  refine Met.ofW (cc := cX3_returnError) (maxL := 1) (ret := (some .int)) (by decide) rfl ?_
  intro p e s m args below meth c s₁ B hml hv
  obtain ⟨hargs, hP, hKW⟩ := hv
  have hK := hKW.1
  have hx := B.exec
  have hb := B.bytes
  have hr := B.returns
  have hts := atoms_spec (ws := wsX3_returnError) B.pre
  have hown : s.vm.findClass RX3 = some m.cls := findClass_of_methodNamed B.named
  have hlocks := B.notSynchronized
  have i_X3 : ∀ w ∈ wsX30, w ∈ wsX3_returnError := fun w h => List.mem_cons_of_mem _ (List.mem_append_right _ h)
  have hent : entryFrame m args 1 = F0 m 0 ((lg_sl ([.ref (aS 0)]) ++ List.replicate (1 - (lg_sl ([.ref (aS 0)])).length) Slot.unset).toArray) [] := by rw [hargs]; exact lg_entry_eq _ _ _
  rw [hent]
  have hl := lv_entry ([.ref (aS 0)]) (n := 1) (Nat.le_of_ble_eq_true rfl)
  generalize (lg_sl ([.ref (aS 0)]) ++ List.replicate (1 - (lg_sl ([.ref (aS 0)])).length) Slot.unset).toArray = ls at hl ⊢
  have hl : lv_has ls 1 [(0, .ref (aS 0))] := hl
  generalize hQ0 : MQ below _ _ _ _ _ _ = Q0
  unfold fX3_returnError at hf
  refine lv_aload_n hx hb dX3_returnError_0 rfl (lv_at hl 0 rfl) ?_
  refine va_get (D := g.1) (ci := 3) (v := .int (XS 9 0)) (C := RX3) (T := TX3) (N := 15) hx hb hts i_X3 hown hK hP 0 rfl rfl 9 (by decide) (hts (.fieldLink RX3 60 "WordFlasher$State" "placed" "I") (List.mem_of_getElem? (i := 1) rfl)) (fun _ h9 => h9) rfl dX3_returnError_1 ?_
  refine lv_if_ne (tgt := 12) hx hb dX3_returnError_4 (by decide) (fun c1 => ?_) (fun c1 => ?_)
  · have hf := ite_f hf c1
    refine lv_iconst (v := 0) hx hb dX3_returnError_12 (by decide) ?_
    have er0 := Option.some.inj hf
    rw [← hQ0]; exact W.iret (v := 0) hx hb hr (fun t ht hW => ⟨0, rfl, ⟨er0, trivial⟩, ht⟩) (fun q h => by cases h) dX3_returnError_13
  · have hf := ite_t hf c1
    refine lv_bipush (v := (-2)) hx hb dX3_returnError_7 (by decide) ?_
    refine lv_goto (tgt := 13) hx hb dX3_returnError_9 (by decide) ?_
    have er0 := Option.some.inj hf
    rw [← hQ0]; exact W.iret (v := (-2)) hx hb hr (fun t ht hW => ⟨(-2), rfl, ⟨er0, trivial⟩, ht⟩) (fun q h => by cases h) dX3_returnError_13
abbrev rmX3_returnToPlace : Room := { frames := 4, cells := 0, slots := 0, locals := 89 }
set_option maxHeartbeats 8000000 in
set_option maxRecDepth 100000 in
theorem c_X3_returnToPlace (l : Launch) (g : GG) (aS : Nat → Nat) (aW : Nat → Nat) (aP : Nat → Nat) (aQ : Nat → Nat) (sz : Nat) (n : Nat) (XS : DM) (XW : DM) (XSz : DM) (hf : fX3_returnToPlace n XS XW = some XSz) : Met l yX3_returnToPlace wsX3_returnToPlace rmX3_returnToPlace (va_Pc [.ref (aS 0)] (fun U => U.heap.size = sz ∧ va_P g.1 vwCl (pS g aS (aW 0) XS ++ (pW g aW (aP 0) (aQ 0) XW)) U.heap ∧ KW g U ∧ va_D (fun _ => True) (pS g aS (aW 0) XS ++ (pW g aW (aP 0) (aQ 0) XW)))) (va_Qv (fun (_ : Unit) => True) (fun (_ : Unit) t => va_P g.1 vwCl (pS g aS (aW 0) XSz ++ (pW g aW (aP 0) (aQ 0) XW)) t.heap) (va_A (pS g aS (aW 0) XS ++ (pW g aW (aP 0) (aQ 0) XW)) sz)) 0 0 (va_A (pS g aS (aW 0) XS ++ (pW g aW (aP 0) (aQ 0) XW)) sz) := by
  refine Met.ofW (cc := cX3_returnToPlace) (maxL := 1) (ret := none) (by decide) rfl ?_
  intro p e s m args below meth c s₁ B hml hv
  obtain ⟨hargs, hsz, hP, hKW, hD0⟩ := hv
  have hK := hKW.1
  have hx := B.exec
  have hb := B.bytes
  have hr := B.returns
  have hts := atoms_spec (ws := wsX3_returnToPlace) B.pre
  have hown : s.vm.findClass RX3 = some m.cls := findClass_of_methodNamed B.named
  have hlocks := B.notSynchronized
  subst hsz
  have hD := hD0.self (sz := s.heap.size)
  generalize hAe : va_A (pS g aS (aW 0) XS ++ (pW g aW (aP 0) (aQ 0) XW)) s.heap.size = A at hD ⊢
  have hA : ∀ q : Nat, s.heap.size ≤ q → A q := fun q h => by rw [← hAe]; exact Or.inr h
  have hS : va_S A s.heap s.heap [] := va_S.rf
  have i_X3 : ∀ w ∈ wsX30, w ∈ wsX3_returnToPlace := fun w h => List.mem_cons_of_mem _ (List.mem_append_left _ (List.mem_append_right _ h))
  have i_X4 : ∀ w ∈ wsX40, w ∈ wsX3_returnToPlace := fun w h => List.mem_cons_of_mem _ (List.mem_append_right _ h)
  have hent : entryFrame m args 1 = F0 m 0 ((lg_sl ([.ref (aS 0)]) ++ List.replicate (1 - (lg_sl ([.ref (aS 0)])).length) Slot.unset).toArray) [] := by rw [hargs]; exact lg_entry_eq _ _ _
  rw [hent]
  have hl := lv_entry ([.ref (aS 0)]) (n := 1) (Nat.le_of_ble_eq_true rfl)
  generalize (lg_sl ([.ref (aS 0)]) ++ List.replicate (1 - (lg_sl ([.ref (aS 0)])).length) Slot.unset).toArray = ls at hl ⊢
  have hl : lv_has ls 1 [(0, .ref (aS 0))] := hl
  generalize hQ0 : MQ below _ _ _ _ _ _ = Q0
  unfold fX3_returnToPlace at hf
  refine lv_aload_n hx hb dX3_returnToPlace_0 rfl (lv_at hl 0 rfl) ?_
  refine lv_dup hx hb dX3_returnToPlace_1 rfl ?_
  refine va_get (D := g.1) (ci := 3) (v := .int (XS 9 0)) (C := RX3) (T := TX3) (N := 15) hx hb hts i_X3 hown hK hP 0 rfl rfl 9 (by decide) (hts (.fieldLink RX3 60 "WordFlasher$State" "placed" "I") (List.mem_of_getElem? (i := 1) rfl)) (fun _ h9 => h9) rfl dX3_returnToPlace_2 ?_
  refine lv_iconst (v := 1) hx hb dX3_returnToPlace_5 (by decide) ?_
  refine lv_isub hx hb dX3_returnToPlace_6 ?_
  obtain ⟨X1, e2, hf⟩ := sl_el hf
  refine va_put (D := g.1) (ci := 3) (v := .int ((XS 9 0) - 1)) (ty := .int) (C := RX3) (T := TX3) (N := 15) hx hb hts i_X3 tyX3 tyX3_ok nmX3 hown hK hP hD hS 0 rfl rfl 9 (by decide) (hts (.fieldLink RX3 60 "WordFlasher$State" "placed" "I") (List.mem_of_getElem? (i := 1) rfl)) (fun _ h9 => h9) rfl (by decide +kernel) rfl rfl (Nat.le_of_ble_eq_true rfl) dX3_returnToPlace_7 (fun H locs hP hD hS => ?_)
  have hP : va_P g.1 vwCl (pS g aS (aW 0) X1 ++ (pW g aW (aP 0) (aQ 0) XW)) H := by subst e2; exact hP
  have hD : va_D A (pS g aS (aW 0) X1 ++ (pW g aW (aP 0) (aQ 0) XW)) := by subst e2; exact hD
  refine lv_aload_n hx hb dX3_returnToPlace_10 rfl (lv_at hl 0 rfl) ?_
  refine lv_iconst (v := 0) hx hb dX3_returnToPlace_11 (by decide) ?_
  obtain ⟨X3, e4, hf⟩ := sl_el hf
  refine va_put (D := g.1) (ci := 3) (v := .int 0) (ty := .boolean) (C := RX3) (T := TX3) (N := 15) hx hb hts i_X3 tyX3 tyX3_ok nmX3 hown hK hP hD hS 0 rfl rfl 11 (by decide) (hts (.fieldLink RX3 63 "WordFlasher$State" "askedBack" "Z") (List.mem_of_getElem? (i := 2) rfl)) (fun _ h9 => h9) rfl (by decide +kernel) rfl rfl (Nat.le_of_ble_eq_true rfl) dX3_returnToPlace_12 (fun H locs hP hD hS => ?_)
  have hP : va_P g.1 vwCl (pS g aS (aW 0) X3 ++ (pW g aW (aP 0) (aQ 0) XW)) H := by subst e4; exact hP
  have hD : va_D A (pS g aS (aW 0) X3 ++ (pW g aW (aP 0) (aQ 0) XW)) := by subst e4; exact hD
  refine lv_aload_n hx hb dX3_returnToPlace_15 rfl (lv_at hl 0 rfl) ?_
  refine lv_aload_n hx hb dX3_returnToPlace_16 rfl (lv_at hl 0 rfl) ?_
  refine va_get (D := g.1) (ci := 3) (v := .ref (aS 5)) (C := RX3) (T := TX3) (N := 15) hx hb hts i_X3 hown hK hP 0 rfl rfl 8 (by decide) (hts (.fieldLink RX3 36 "WordFlasher$State" "places" "[I") (List.mem_of_getElem? (i := 3) rfl)) (fun _ h9 => h9) rfl dX3_returnToPlace_17 ?_
  refine lv_aload_n hx hb dX3_returnToPlace_20 rfl (lv_at hl 0 rfl) ?_
  refine va_get (D := g.1) (ci := 3) (v := .int (X3 9 0)) (C := RX3) (T := TX3) (N := 15) hx hb hts i_X3 hown hK hP 0 rfl rfl 9 (by decide) (hts (.fieldLink RX3 60 "WordFlasher$State" "placed" "I") (List.mem_of_getElem? (i := 1) rfl)) (fun _ h9 => h9) rfl dX3_returnToPlace_21 ?_
  obtain ⟨r5, h6, hf⟩ := bnd_el hf
  refine rdN (As := [.ref (aS 5), .int (X3 9 0)]) (rest := [.ref (aS 0)]) ⟨hx, hb, hml, hown, hts⟩ (c_X5_at l g (aS 5) 5 _ _ _ h6) ⟨va_cnB 2 hts gX3_returnToPlace_X5_at_n99 rfl rfl rfl (hKW.2 _ (List.mem_of_getElem? (i := 6) rfl)) (hts (.initialized RX5) (List.mem_of_getElem? (i := 5) rfl)) (by decide +kernel) ⟨Nat.le_of_ble_eq_true rfl, Nat.le_of_ble_eq_true rfl⟩, (hts (.static yX5_at) (List.mem_of_getElem? (i := 4) rfl)), trivial⟩ hKW hP [5] rfl rfl hl.1 rfl (lv_room (Nat.le_of_ble_eq_true rfl)) dX3_returnToPlace_24 ⟨Nat.zero_le _, Nat.zero_le _⟩ (fun r7 q8 => ?_)
  obtain ⟨q8, nb9⟩ := q8
  refine lv_as q8.symm ?_
  obtain ⟨X10, h11, hf⟩ := bnd_el hf
  refine wr_v (rest := []) (wc := (pS g aS (aW 0) X3 ++ (pW g aW (aP 0) (aQ 0) XW))) (wc' := (pS g aS (aW 0) X10 ++ (pW g aW (aP 0) (aQ 0) XW))) (ws2 := (pS g aS (aW 0) X10 ++ (pW g aW (aP 0) (aQ 0) XW))) hP hD hS hA [0, 1, 2, 3, 4, 5, 6, 7, 8, 9, 10, 11, 12, 13] rfl rfl (by rfl) (rnV (As := [.int r5]) ⟨hx, hb, hml, hown, hts⟩ (c_X3_becomePresent l g aS aW aP aQ _ _ _ _ _ _ h11) (cwV 1 hts gX3_returnToPlace_X3_becomePresent rfl rfl rfl (by decide +kernel) ⟨Nat.le_of_ble_eq_true rfl, Nat.le_of_ble_eq_true rfl⟩) hKW hP hD [0, 1, 2, 3, 4, 5, 6, 7, 8, 9, 10, 11, 12, 13] (by decide) rfl (va_recv hK hP (ci := 3) (q0 := 0) rfl rfl) rfl hl.1 rfl (lv_room (Nat.le_of_ble_eq_true rfl)) dX3_returnToPlace_27 ⟨Nat.zero_le _, Nat.zero_le _⟩) (fun H locs hP hD hS => ?_)
  have er0 := Option.some.inj hf
  rw [← hQ0]; exact W.vret hx hb hr (fun t ht hW => ⟨⟨(), rfl, trivial, by dsimp only; rw [ht, ← er0]; exact hP⟩, hS.F ht⟩) hS.2.2 dX3_returnToPlace_30
abbrev rmX3_countNotes : Room := { frames := 0, cells := 0, slots := 0, locals := 0 }
set_option maxHeartbeats 8000000 in
set_option maxRecDepth 100000 in
theorem c_X3_countNotes (l : Launch) (g : GG) (aS : Nat → Nat) (aW : Nat → Nat) (aP : Nat → Nat) (aQ : Nat → Nat) (n : Nat) (XS : DM) (r : Int32) (hf : fX3_countNotes n XS = some r) : Met l yX3_countNotes wsX3_countNotes rmX3_countNotes (va_Pc [.ref (aS 0)] (fun U => va_P g.1 vwCl (pS g aS (aW 0) XS) U.heap ∧ KW g U)) (vp_Si (fun r' => r' = r ∧ True)) 0 0 (fun _ => False) := by
  refine Met.ofW (cc := cX3_countNotes) (maxL := 3) (ret := (some .int)) (by decide) rfl ?_
  intro p e s m args below meth c s₁ B hml hv
  obtain ⟨hargs, hP, hKW⟩ := hv
  have hK := hKW.1
  have hx := B.exec
  have hb := B.bytes
  have hr := B.returns
  have hts := atoms_spec (ws := wsX3_countNotes) B.pre
  have hown : s.vm.findClass RX3 = some m.cls := findClass_of_methodNamed B.named
  have hlocks := B.notSynchronized
  have i_X3 : ∀ w ∈ wsX30, w ∈ wsX3_countNotes := fun w h => List.mem_cons_of_mem _ (List.mem_append_right _ h)
  have hent : entryFrame m args 3 = F0 m 0 ((lg_sl ([.ref (aS 0)]) ++ List.replicate (3 - (lg_sl ([.ref (aS 0)])).length) Slot.unset).toArray) [] := by rw [hargs]; exact lg_entry_eq _ _ _
  rw [hent]
  have hl := lv_entry ([.ref (aS 0)]) (n := 3) (Nat.le_of_ble_eq_true rfl)
  generalize (lg_sl ([.ref (aS 0)]) ++ List.replicate (3 - (lg_sl ([.ref (aS 0)])).length) Slot.unset).toArray = ls at hl ⊢
  have hl : lv_has ls 3 [(0, .ref (aS 0))] := hl
  generalize hQ0 : MQ below _ _ _ _ _ _ = Q0
  unfold fX3_countNotes at hf
  refine lv_iconst (v := 0) hx hb dX3_countNotes_0 (by decide) ?_
  refine lv_istore_n (lv' := [(1, .int 0), (0, .ref (aS 0))]) hx hb dX3_countNotes_1 rfl hl (by decide) rfl (fun ls hl => ?_)
  refine lv_iconst (v := 0) hx hb dX3_countNotes_2 (by decide) ?_
  refine lv_istore_n (lv' := [(2, .int 0), (1, .int 0), (0, .ref (aS 0))]) hx hb dX3_countNotes_3 rfl hl (by decide) rfl (fun ls hl => ?_)
  have L_4 : ∀ fu : Nat, ∀ (x1 x2 : Int32) (ls : Array Slot), lv_has ls 3 [(0, .ref (aS 0)), (1, .int x1), (2, .int x2)] → fX3_countNotes_L4 n XS fu x1 x2 = some r → W p l e (headSpec wsX3_countNotes rmX3_countNotes).room s m args below meth c s.heap [] 0 0 Q0 (F0 m 4 ls []) := by
    intro fu
    induction fu with
    | zero => intros; rename_i hf; rw [fX3_countNotes_L4] at hf; cases hf
    | succ fu ih =>
      intro x1 x2 ls hl hf
      rw [fX3_countNotes_L4] at hf
      refine lv_iload_n hx hb dX3_countNotes_4 rfl (lv_at hl 2 rfl) ?_
      refine lv_aload_n hx hb dX3_countNotes_5 rfl (lv_at hl 0 rfl) ?_
      refine va_get (D := g.1) (ci := 3) (v := .ref (aS 4)) (C := RX3) (T := TX3) (N := 15) hx hb hts i_X3 hown hK hP 0 rfl rfl 5 (by decide) (hts (.fieldLink RX3 33 "WordFlasher$State" "notes" "[I") (List.mem_of_getElem? (i := 1) rfl)) (fun _ h9 => h9) rfl dX3_countNotes_6 ?_
      refine va_alen (v := 150) hx hb hK hP 4 0 rfl rfl rfl dX3_countNotes_9 ?_
      refine lv_icmp_ge (tgt := 31) hx hb dX3_countNotes_10 (by decide) (fun c1 => ?_) (fun c1 => ?_)
      · have hf := ite_t hf c1
        refine lv_iload_n hx hb dX3_countNotes_31 rfl (lv_at hl 1 rfl) ?_
        have er0 := Option.some.inj hf
        rw [← hQ0]; exact W.iret (v := x1) hx hb hr (fun t ht hW => ⟨x1, rfl, ⟨er0, trivial⟩, ht⟩) (fun q h => by cases h) dX3_countNotes_32
      · have hf := ite_f hf c1
        refine lv_aload_n hx hb dX3_countNotes_13 rfl (lv_at hl 0 rfl) ?_
        refine va_get (D := g.1) (ci := 3) (v := .ref (aS 4)) (C := RX3) (T := TX3) (N := 15) hx hb hts i_X3 hown hK hP 0 rfl rfl 5 (by decide) (hts (.fieldLink RX3 33 "WordFlasher$State" "notes" "[I") (List.mem_of_getElem? (i := 1) rfl)) (fun _ h9 => h9) rfl dX3_countNotes_14 ?_
        refine lv_iload_n hx hb dX3_countNotes_17 rfl (lv_at hl 2 rfl) ?_
        obtain ⟨h4, v2, e3, hf⟩ := rdA_el hf
        refine va_iald hx hb hK hP 4 0 rfl rfl h4 dX3_countNotes_18 ?_
        refine lv_as e3 ?_
        obtain ⟨j25, ej25, hf⟩ := sl_el hf
        have J_25 : ∀ (x1 x2 : Int32) (ls : Array Slot), lv_has ls 3 [(0, .ref (aS 0)), (1, .int x1), (2, .int x2)] → j25 x1 x2 = some r → W p l e (headSpec wsX3_countNotes rmX3_countNotes).room s m args below meth c s.heap [] 0 0 Q0 (F0 m 25 ls []) := by
          intro x1 x2 ls hl hf
          rw [ej25] at hf
          obtain ⟨v5, e6, hf⟩ := sl_el hf
          refine lv_iinc (v := v5) (lv' := [(2, .int v5), (0, .ref (aS 0)), (1, .int x1)]) hx hb dX3_countNotes_25 hl (k := 2) rfl (by rw [e6]; rfl) (by decide) rfl (fun ls hl => ?_)
          refine lv_goto (tgt := 4) hx hb dX3_countNotes_28 (by decide) ?_
          exact ih x1 v5 ls (lv_sub hl [1, 2, 0] rfl) hf
        refine lv_if_eq (tgt := 25) hx hb dX3_countNotes_19 (by decide) (fun c7 => ?_) (fun c7 => ?_)
        · have hf := ite_t hf c7
          exact J_25 x1 x2 ls (lv_sub hl [0, 1, 2] rfl) hf
        · have hf := ite_f hf c7
          obtain ⟨v8, e9, hf⟩ := sl_el hf
          refine lv_iinc (v := v8) (lv' := [(1, .int v8), (0, .ref (aS 0)), (2, .int x2)]) hx hb dX3_countNotes_22 hl (k := 1) rfl (by rw [e9]; rfl) (by decide) rfl (fun ls hl => ?_)
          exact J_25 v8 x2 ls (lv_sub hl [1, 0, 2] rfl) hf
  exact L_4 n 0 0 ls (lv_sub hl [2, 1, 0] rfl) hf
