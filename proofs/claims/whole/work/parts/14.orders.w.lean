abbrev rmX1_add : Room := { frames := 1, cells := 0, slots := 0, locals := 22 }
set_option maxHeartbeats 8000000 in
set_option maxRecDepth 100000 in
theorem c_X1_add (l : Launch) (g : GG) (aO : Nat → Nat) (sz : Nat) (XO : DM) (p1 : Int32) (XOz : DM) (hf : fX1_add XO p1 = some XOz) : Met l yX1_add wsX1_add rmX1_add (va_Pc [.ref (aO 0), .int p1] (fun U => U.heap.size = sz ∧ va_P g.1 vwCl (pO g aO XO) U.heap ∧ KW g U ∧ va_D (fun _ => True) (pO g aO XO))) (va_Qv (fun (_ : Unit) => True) (fun (_ : Unit) t => va_P g.1 vwCl (pO g aO XOz) t.heap) (va_A (pO g aO XO) sz)) 0 0 (va_A (pO g aO XO) sz) := by
  refine Met.ofW (cc := cX1_add) (maxL := 2) (ret := none) (by decide) rfl ?_
  intro p e s m args below meth c s₁ B hml hv
  obtain ⟨hargs, hsz, hP, hKW, hD0⟩ := hv
  have hK := hKW.1
  have hx := B.exec
  have hb := B.bytes
  have hr := B.returns
  have hts := atoms_spec (ws := wsX1_add) B.pre
  have hown : s.vm.findClass RX1 = some m.cls := findClass_of_methodNamed B.named
  have hlocks := B.notSynchronized
  subst hsz
  have hD := hD0.self (sz := s.heap.size)
  generalize hAe : va_A (pO g aO XO) s.heap.size = A at hD ⊢
  have hA : ∀ q : Nat, s.heap.size ≤ q → A q := fun q h => by rw [← hAe]; exact Or.inr h
  have hS : va_S A s.heap s.heap [] := va_S.rf
  have i_X1 : ∀ w ∈ wsX10, w ∈ wsX1_add := fun w h => List.mem_cons_of_mem _ (List.mem_append_right _ h)
  have hent : entryFrame m args 2 = F0 m 0 ((lg_sl ([.ref (aO 0), .int p1]) ++ List.replicate (2 - (lg_sl ([.ref (aO 0), .int p1])).length) Slot.unset).toArray) [] := by rw [hargs]; exact lg_entry_eq _ _ _
  rw [hent]
  have hl := lv_entry ([.ref (aO 0), .int p1]) (n := 2) (Nat.le_of_ble_eq_true rfl)
  generalize (lg_sl ([.ref (aO 0), .int p1]) ++ List.replicate (2 - (lg_sl ([.ref (aO 0), .int p1])).length) Slot.unset).toArray = ls at hl ⊢
  have hl : lv_has ls 2 [(0, .ref (aO 0)), (1, .int p1)] := hl
  generalize hQ0 : MQ below _ _ _ _ _ _ = Q0
  unfold fX1_add at hf
  refine lv_aload_n hx hb dX1_add_0 rfl (lv_at hl 0 rfl) ?_
  refine va_get (D := g.1) (ci := 1) (v := .ref (aO 1)) (C := RX1) (T := TX1) (N := 2) hx hb hts i_X1 hown hK hP 0 rfl rfl 0 (by decide) (hts (.fieldLink RX1 9 "WordFlasher$Orders" "characters" "[I") (List.mem_of_getElem? (i := 1) rfl)) (fun _ h9 => h9) rfl dX1_add_1 ?_
  refine lv_aload_n hx hb dX1_add_4 rfl (lv_at hl 0 rfl) ?_
  refine va_get (D := g.1) (ci := 1) (v := .int (XO 1 0)) (C := RX1) (T := TX1) (N := 2) hx hb hts i_X1 hown hK hP 0 rfl rfl 1 (by decide) (hts (.fieldLink RX1 15 "WordFlasher$Orders" "length" "I") (List.mem_of_getElem? (i := 2) rfl)) (fun _ h9 => h9) rfl dX1_add_5 ?_
  refine lv_iload_n hx hb dX1_add_8 rfl (lv_at hl 1 rfl) ?_
  obtain ⟨f1, h2, hf⟩ := bnd_el hf
  obtain ⟨X3, e4, hf⟩ := sl_el hf
  refine wr_v (rest := []) (wc := (pR g (aO 1) 60 (XO 0))) (wc' := (pR g (aO 1) 60 f1)) (ws2 := (pO g aO X3)) hP hD hS hA [1] rfl rfl (by subst e4; rfl) (rnN (As := [.ref (aO 1), .int (XO 1 0), .int p1]) ⟨hx, hb, hml, hown, hts⟩ (c_X5_put l g (aO 1) 60 _ _ _ _ _ h2) ⟨va_cnB 3 hts gX1_add_X5_put_n19 rfl rfl rfl (hKW.2 _ (List.mem_of_getElem? (i := 13) rfl)) (hts (.initialized RX5) (List.mem_of_getElem? (i := 4) rfl)) (by decide +kernel) ⟨Nat.le_of_ble_eq_true rfl, Nat.le_of_ble_eq_true rfl⟩, (hts (.static yX5_put) (List.mem_of_getElem? (i := 3) rfl)), trivial⟩ hKW hP hD [1] (by decide) rfl rfl hl.1 rfl (lv_room (Nat.le_of_ble_eq_true rfl)) dX1_add_9 ⟨Nat.zero_le _, Nat.zero_le _⟩) (fun H locs hP hD hS => ?_)
  refine lv_aload_n hx hb dX1_add_12 rfl (lv_at hl 0 rfl) ?_
  refine lv_dup hx hb dX1_add_13 rfl ?_
  refine va_get (D := g.1) (ci := 1) (v := .int (X3 1 0)) (C := RX1) (T := TX1) (N := 2) hx hb hts i_X1 hown hK hP 0 rfl rfl 1 (by decide) (hts (.fieldLink RX1 15 "WordFlasher$Orders" "length" "I") (List.mem_of_getElem? (i := 2) rfl)) (fun _ h9 => h9) rfl dX1_add_14 ?_
  refine lv_iconst (v := 1) hx hb dX1_add_17 (by decide) ?_
  refine lv_iadd hx hb dX1_add_18 ?_
  obtain ⟨X5, e6, hf⟩ := sl_el hf
  refine va_put (D := g.1) (ci := 1) (v := .int ((X3 1 0) + 1)) (ty := .int) (C := RX1) (T := TX1) (N := 2) hx hb hts i_X1 tyX1 tyX1_ok nmX1 hown hK hP hD hS 0 rfl rfl 1 (by decide) (hts (.fieldLink RX1 15 "WordFlasher$Orders" "length" "I") (List.mem_of_getElem? (i := 2) rfl)) (fun _ h9 => h9) rfl (by decide +kernel) rfl rfl (Nat.le_of_ble_eq_true rfl) dX1_add_19 (fun H locs hP hD hS => ?_)
  have hP : va_P g.1 vwCl (pO g aO X5) H := by subst e6; exact hP
  have hD : va_D A (pO g aO X5) := by subst e6; exact hD
  have er0 := Option.some.inj hf
  rw [← hQ0]; exact W.vret hx hb hr (fun t ht hW => ⟨⟨(), rfl, trivial, by dsimp only; rw [ht, ← er0]; exact hP⟩, hS.F ht⟩) hS.2.2 dX1_add_22
abbrev rmX1_characterAt : Room := { frames := 1, cells := 0, slots := 0, locals := 21 }
set_option maxHeartbeats 8000000 in
set_option maxRecDepth 100000 in
theorem c_X1_characterAt (l : Launch) (g : GG) (aO : Nat → Nat) (XO : DM) (p1 : Int32) (r : Int32) (hf : fX1_characterAt XO p1 = some r) : Met l yX1_characterAt wsX1_characterAt rmX1_characterAt (va_Pc [.ref (aO 0), .int p1] (fun U => va_P g.1 vwCl (pO g aO XO) U.heap ∧ KW g U)) (vp_Si (fun r' => r' = r ∧ True)) 0 0 (fun _ => False) := by
  refine Met.ofW (cc := cX1_characterAt) (maxL := 2) (ret := (some .int)) (by decide) rfl ?_
  intro p e s m args below meth c s₁ B hml hv
  obtain ⟨hargs, hP, hKW⟩ := hv
  have hK := hKW.1
  have hx := B.exec
  have hb := B.bytes
  have hr := B.returns
  have hts := atoms_spec (ws := wsX1_characterAt) B.pre
  have hown : s.vm.findClass RX1 = some m.cls := findClass_of_methodNamed B.named
  have hlocks := B.notSynchronized
  have i_X1 : ∀ w ∈ wsX10, w ∈ wsX1_characterAt := fun w h => List.mem_cons_of_mem _ (List.mem_append_right _ h)
  have hent : entryFrame m args 2 = F0 m 0 ((lg_sl ([.ref (aO 0), .int p1]) ++ List.replicate (2 - (lg_sl ([.ref (aO 0), .int p1])).length) Slot.unset).toArray) [] := by rw [hargs]; exact lg_entry_eq _ _ _
  rw [hent]
  have hl := lv_entry ([.ref (aO 0), .int p1]) (n := 2) (Nat.le_of_ble_eq_true rfl)
  generalize (lg_sl ([.ref (aO 0), .int p1]) ++ List.replicate (2 - (lg_sl ([.ref (aO 0), .int p1])).length) Slot.unset).toArray = ls at hl ⊢
  have hl : lv_has ls 2 [(0, .ref (aO 0)), (1, .int p1)] := hl
  generalize hQ0 : MQ below _ _ _ _ _ _ = Q0
  unfold fX1_characterAt at hf
  refine lv_iload_n hx hb dX1_characterAt_0 rfl (lv_at hl 1 rfl) ?_
  refine lv_aload_n hx hb dX1_characterAt_1 rfl (lv_at hl 0 rfl) ?_
  refine va_get (D := g.1) (ci := 1) (v := .int (XO 1 0)) (C := RX1) (T := TX1) (N := 2) hx hb hts i_X1 hown hK hP 0 rfl rfl 1 (by decide) (hts (.fieldLink RX1 15 "WordFlasher$Orders" "length" "I") (List.mem_of_getElem? (i := 1) rfl)) (fun _ h9 => h9) rfl dX1_characterAt_2 ?_
  refine lv_icmp_ge (tgt := 19) hx hb dX1_characterAt_5 (by decide) (fun c1 => ?_) (fun c1 => ?_)
  · have hf := ite_t hf c1
    refine lv_iconst (v := 0) hx hb dX1_characterAt_19 (by decide) ?_
    have er0 := Option.some.inj hf
    rw [← hQ0]; exact W.iret (v := 0) hx hb hr (fun t ht hW => ⟨0, rfl, ⟨er0, trivial⟩, ht⟩) (fun q h => by cases h) dX1_characterAt_20
  · have hf := ite_f hf c1
    refine lv_aload_n hx hb dX1_characterAt_8 rfl (lv_at hl 0 rfl) ?_
    refine va_get (D := g.1) (ci := 1) (v := .ref (aO 1)) (C := RX1) (T := TX1) (N := 2) hx hb hts i_X1 hown hK hP 0 rfl rfl 0 (by decide) (hts (.fieldLink RX1 9 "WordFlasher$Orders" "characters" "[I") (List.mem_of_getElem? (i := 2) rfl)) (fun _ h9 => h9) rfl dX1_characterAt_9 ?_
    refine lv_iload_n hx hb dX1_characterAt_12 rfl (lv_at hl 1 rfl) ?_
    obtain ⟨r2, h3, hf⟩ := bnd_el hf
    refine rdN (As := [.ref (aO 1), .int p1]) (rest := []) ⟨hx, hb, hml, hown, hts⟩ (c_X5_at l g (aO 1) 60 _ _ _ h3) ⟨va_cnB 2 hts gX1_characterAt_X5_at_n23 rfl rfl rfl (hKW.2 _ (List.mem_of_getElem? (i := 12) rfl)) (hts (.initialized RX5) (List.mem_of_getElem? (i := 4) rfl)) (by decide +kernel) ⟨Nat.le_of_ble_eq_true rfl, Nat.le_of_ble_eq_true rfl⟩, (hts (.static yX5_at) (List.mem_of_getElem? (i := 3) rfl)), trivial⟩ hKW hP [1] rfl rfl hl.1 rfl (lv_room (Nat.le_of_ble_eq_true rfl)) dX1_characterAt_13 ⟨Nat.zero_le _, Nat.zero_le _⟩ (fun r4 q5 => ?_)
    obtain ⟨q5, nb6⟩ := q5
    refine lv_as q5.symm ?_
    refine lv_goto (tgt := 20) hx hb dX1_characterAt_16 (by decide) ?_
    have er0 := Option.some.inj hf
    rw [← hQ0]; exact W.iret (v := r2) hx hb hr (fun t ht hW => ⟨r2, rfl, ⟨er0, trivial⟩, ht⟩) (fun q h => by cases h) dX1_characterAt_20
abbrev rmX1_digitsBehind : Room := { frames := 2, cells := 0, slots := 0, locals := 42 }
set_option maxHeartbeats 8000000 in
set_option maxRecDepth 100000 in
theorem c_X1_digitsBehind (l : Launch) (g : GG) (aO : Nat → Nat) (n : Nat) (XO : DM) (p1 : Int32) (r : Int32) (hf : fX1_digitsBehind n XO p1 = some r) : Met l yX1_digitsBehind wsX1_digitsBehind rmX1_digitsBehind (va_Pc [.ref (aO 0), .int p1] (fun U => va_P g.1 vwCl (pO g aO XO) U.heap ∧ KW g U)) (vp_Si (fun r' => r' = r ∧ True)) 0 0 (fun _ => False) := by
  refine Met.ofW (cc := cX1_digitsBehind) (maxL := 3) (ret := (some .int)) (by decide) rfl ?_
  intro p e s m args below meth c s₁ B hml hv
  obtain ⟨hargs, hP, hKW⟩ := hv
  have hK := hKW.1
  have hx := B.exec
  have hb := B.bytes
  have hr := B.returns
  have hts := atoms_spec (ws := wsX1_digitsBehind) B.pre
  have hown : s.vm.findClass RX1 = some m.cls := findClass_of_methodNamed B.named
  have hlocks := B.notSynchronized
  have i_X1 : ∀ w ∈ wsX10, w ∈ wsX1_digitsBehind := fun w h => List.mem_cons_of_mem _ (List.mem_append_right _ h)
  have hent : entryFrame m args 3 = F0 m 0 ((lg_sl ([.ref (aO 0), .int p1]) ++ List.replicate (3 - (lg_sl ([.ref (aO 0), .int p1])).length) Slot.unset).toArray) [] := by rw [hargs]; exact lg_entry_eq _ _ _
  rw [hent]
  have hl := lv_entry ([.ref (aO 0), .int p1]) (n := 3) (Nat.le_of_ble_eq_true rfl)
  generalize (lg_sl ([.ref (aO 0), .int p1]) ++ List.replicate (3 - (lg_sl ([.ref (aO 0), .int p1])).length) Slot.unset).toArray = ls at hl ⊢
  have hl : lv_has ls 3 [(0, .ref (aO 0)), (1, .int p1)] := hl
  generalize hQ0 : MQ below _ _ _ _ _ _ = Q0
  unfold fX1_digitsBehind at hf
  refine lv_iconst (v := 0) hx hb dX1_digitsBehind_0 (by decide) ?_
  refine lv_istore_n (lv' := [(2, .int 0), (0, .ref (aO 0)), (1, .int p1)]) hx hb dX1_digitsBehind_1 rfl hl (by decide) rfl (fun ls hl => ?_)
  have L_2 : ∀ fu : Nat, ∀ (x1 x2 : Int32) (ls : Array Slot), lv_has ls 3 [(0, .ref (aO 0)), (1, .int x1), (2, .int x2)] → fX1_digitsBehind_L2 n XO fu x1 x2 = some r → W p l e (headSpec wsX1_digitsBehind rmX1_digitsBehind).room s m args below meth c s.heap [] 0 0 Q0 (F0 m 2 ls []) := by
    intro fu
    induction fu with
    | zero => intros; rename_i hf; rw [fX1_digitsBehind_L2] at hf; cases hf
    | succ fu ih =>
      intro x1 x2 ls hl hf
      rw [fX1_digitsBehind_L2] at hf
      refine lv_iload_n hx hb dX1_digitsBehind_2 rfl (lv_at hl 2 rfl) ?_
      refine lv_iconst (v := 3) hx hb dX1_digitsBehind_3 (by decide) ?_
      refine lv_icmp_ge (tgt := 28) hx hb dX1_digitsBehind_4 (by decide) (fun c1 => ?_) (fun c1 => ?_)
      · have hf := ite_t hf c1
        refine lv_iload_n hx hb dX1_digitsBehind_28 rfl (lv_at hl 2 rfl) ?_
        have er0 := Option.some.inj hf
        rw [← hQ0]; exact W.iret (v := x2) hx hb hr (fun t ht hW => ⟨x2, rfl, ⟨er0, trivial⟩, ht⟩) (fun q h => by cases h) dX1_digitsBehind_29
      · have hf := ite_f hf c1
        refine lv_aload_n hx hb dX1_digitsBehind_7 rfl (lv_at hl 0 rfl) ?_
        refine lv_iload_n hx hb dX1_digitsBehind_8 rfl (lv_at hl 1 rfl) ?_
        refine lv_iconst (v := 1) hx hb dX1_digitsBehind_9 (by decide) ?_
        refine lv_iadd hx hb dX1_digitsBehind_10 ?_
        refine lv_iload_n hx hb dX1_digitsBehind_11 rfl (lv_at hl 2 rfl) ?_
        refine lv_iadd hx hb dX1_digitsBehind_12 ?_
        obtain ⟨r2, h3, hf⟩ := bnd_el hf
        refine rdV (As := [.int ((x1 + 1) + x2)]) (rest := []) ⟨hx, hb, hml, hown, hts⟩ (c_X1_characterAt l g aO _ _ _ h3) (cwV 1 hts gX1_digitsBehind_X1_characterAt rfl rfl rfl (by decide +kernel) ⟨Nat.le_of_ble_eq_true rfl, Nat.le_of_ble_eq_true rfl⟩) hKW hP [0, 1] rfl (va_recv hK hP (ci := 1) (q0 := 0) rfl rfl) rfl hl.1 rfl (lv_room (Nat.le_of_ble_eq_true rfl)) dX1_digitsBehind_13 ⟨Nat.zero_le _, Nat.zero_le _⟩ (fun r4 q5 => ?_)
        obtain ⟨q5, nb6⟩ := q5
        refine lv_as q5.symm ?_
        obtain ⟨r7, h8, hf⟩ := bnd_el hf
        refine rdN (As := [.int r2]) (rest := []) ⟨hx, hb, hml, hown, hts⟩ (c_X5_isFigure l g _ _ h8) ⟨va_cnB 1 hts gX1_digitsBehind_X5_isFigure_n44 rfl rfl rfl (hKW.2 _ (List.mem_of_getElem? (i := 11) rfl)) (hts (.initialized RX5) (List.mem_of_getElem? (i := 9) rfl)) (by decide +kernel) ⟨Nat.le_of_ble_eq_true rfl, Nat.le_of_ble_eq_true rfl⟩, (hts (.static yX5_isFigure) (List.mem_of_getElem? (i := 11) rfl)), trivial⟩ hKW hP [] rfl rfl hl.1 rfl (lv_room (Nat.le_of_ble_eq_true rfl)) dX1_digitsBehind_16 ⟨Nat.zero_le _, Nat.zero_le _⟩ (fun r9 q10 => ?_)
        obtain ⟨q10, nb11⟩ := q10
        refine lv_as q10.symm ?_
        rw [q10] at nb11
        refine lv_if_eq (tgt := 28) hx hb dX1_digitsBehind_19 (by decide) (fun c12 => ?_) (fun c12 => ?_)
        · have hf := ite_t hf c12
          refine lv_iload_n hx hb dX1_digitsBehind_28 rfl (lv_at hl 2 rfl) ?_
          have er0 := Option.some.inj hf
          rw [← hQ0]; exact W.iret (v := x2) hx hb hr (fun t ht hW => ⟨x2, rfl, ⟨er0, trivial⟩, ht⟩) (fun q h => by cases h) dX1_digitsBehind_29
        · have hf := ite_f hf c12
          obtain ⟨v13, e14, hf⟩ := sl_el hf
          refine lv_iinc (v := v13) (lv' := [(2, .int v13), (0, .ref (aO 0)), (1, .int x1)]) hx hb dX1_digitsBehind_22 hl (k := 2) rfl (by rw [e14]; rfl) (by decide) rfl (fun ls hl => ?_)
          refine lv_goto (tgt := 2) hx hb dX1_digitsBehind_25 (by decide) ?_
          exact ih x1 v13 ls (lv_sub hl [1, 2, 0] rfl) hf
  exact L_2 n p1 0 ls (lv_sub hl [1, 2, 0] rfl) hf
abbrev rmX1_numberBehind : Room := { frames := 3, cells := 0, slots := 0, locals := 64 }
set_option maxHeartbeats 8000000 in
set_option maxRecDepth 100000 in
theorem c_X1_numberBehind (l : Launch) (g : GG) (aO : Nat → Nat) (n : Nat) (XO : DM) (p1 : Int32) (r : Int32) (hf : fX1_numberBehind n XO p1 = some r) : Met l yX1_numberBehind wsX1_numberBehind rmX1_numberBehind (va_Pc [.ref (aO 0), .int p1] (fun U => va_P g.1 vwCl (pO g aO XO) U.heap ∧ KW g U)) (vp_Si (fun r' => r' = r ∧ True)) 0 0 (fun _ => False) := by
  refine Met.ofW (cc := cX1_numberBehind) (maxL := 5) (ret := (some .int)) (by decide) rfl ?_
  intro p e s m args below meth c s₁ B hml hv
  obtain ⟨hargs, hP, hKW⟩ := hv
  have hK := hKW.1
  have hx := B.exec
  have hb := B.bytes
  have hr := B.returns
  have hts := atoms_spec (ws := wsX1_numberBehind) B.pre
  have hown : s.vm.findClass RX1 = some m.cls := findClass_of_methodNamed B.named
  have hlocks := B.notSynchronized
  have i_X1 : ∀ w ∈ wsX10, w ∈ wsX1_numberBehind := fun w h => List.mem_cons_of_mem _ (List.mem_append_right _ h)
  have hent : entryFrame m args 5 = F0 m 0 ((lg_sl ([.ref (aO 0), .int p1]) ++ List.replicate (5 - (lg_sl ([.ref (aO 0), .int p1])).length) Slot.unset).toArray) [] := by rw [hargs]; exact lg_entry_eq _ _ _
  rw [hent]
  have hl := lv_entry ([.ref (aO 0), .int p1]) (n := 5) (Nat.le_of_ble_eq_true rfl)
  generalize (lg_sl ([.ref (aO 0), .int p1]) ++ List.replicate (5 - (lg_sl ([.ref (aO 0), .int p1])).length) Slot.unset).toArray = ls at hl ⊢
  have hl : lv_has ls 5 [(0, .ref (aO 0)), (1, .int p1)] := hl
  generalize hQ0 : MQ below _ _ _ _ _ _ = Q0
  unfold fX1_numberBehind at hf
  refine lv_aload_n hx hb dX1_numberBehind_0 rfl (lv_at hl 0 rfl) ?_
  refine lv_iload_n hx hb dX1_numberBehind_1 rfl (lv_at hl 1 rfl) ?_
  obtain ⟨r1, h2, hf⟩ := bnd_el hf
  refine rdV (As := [.int p1]) (rest := []) ⟨hx, hb, hml, hown, hts⟩ (c_X1_digitsBehind l g aO _ _ _ _ h2) (cwV 1 hts gX1_numberBehind_X1_digitsBehind rfl rfl rfl (by decide +kernel) ⟨Nat.le_of_ble_eq_true rfl, Nat.le_of_ble_eq_true rfl⟩) hKW hP [0, 1] rfl (va_recv hK hP (ci := 1) (q0 := 0) rfl rfl) rfl hl.1 rfl (lv_room (Nat.le_of_ble_eq_true rfl)) dX1_numberBehind_2 ⟨Nat.zero_le _, Nat.zero_le _⟩ (fun r3 q4 => ?_)
  obtain ⟨q4, nb5⟩ := q4
  refine lv_as q4.symm ?_
  refine lv_istore_n (lv' := [(2, .int r1), (0, .ref (aO 0)), (1, .int p1)]) hx hb dX1_numberBehind_5 rfl hl (by decide) rfl (fun ls hl => ?_)
  refine lv_iconst (v := 0) hx hb dX1_numberBehind_6 (by decide) ?_
  refine lv_istore_n (lv' := [(3, .int 0), (2, .int r1), (0, .ref (aO 0)), (1, .int p1)]) hx hb dX1_numberBehind_7 rfl hl (by decide) rfl (fun ls hl => ?_)
  refine lv_iconst (v := 1) hx hb dX1_numberBehind_8 (by decide) ?_
  refine lv_istore (lv' := [(4, .int 1), (3, .int 0), (2, .int r1), (0, .ref (aO 0)), (1, .int p1)]) hx hb dX1_numberBehind_9 hl (by decide) rfl (fun ls hl => ?_)
  have L_11 : ∀ fu : Nat, ∀ (x1 x2 x3 x4 : Int32) (ls : Array Slot), lv_has ls 5 [(0, .ref (aO 0)), (1, .int x1), (2, .int x2), (3, .int x3), (4, .int x4)] → fX1_numberBehind_L11 n XO fu x1 x2 x3 x4 = some r → W p l e (headSpec wsX1_numberBehind rmX1_numberBehind).room s m args below meth c s.heap [] 0 0 Q0 (F0 m 11 ls []) := by
    intro fu
    induction fu with
    | zero => intros; rename_i hf; rw [fX1_numberBehind_L11] at hf; cases hf
    | succ fu ih =>
      intro x1 x2 x3 x4 ls hl hf
      rw [fX1_numberBehind_L11] at hf
      refine lv_iload hx hb dX1_numberBehind_11 (lv_at hl 4 rfl) ?_
      refine lv_iload_n hx hb dX1_numberBehind_13 rfl (lv_at hl 2 rfl) ?_
      refine lv_icmp_gt (tgt := 40) hx hb dX1_numberBehind_14 (by decide) (fun c6 => ?_) (fun c6 => ?_)
      · have hf := ite_t hf c6
        refine lv_iload_n hx hb dX1_numberBehind_40 rfl (lv_at hl 3 rfl) ?_
        have er0 := Option.some.inj hf
        rw [← hQ0]; exact W.iret (v := x3) hx hb hr (fun t ht hW => ⟨x3, rfl, ⟨er0, trivial⟩, ht⟩) (fun q h => by cases h) dX1_numberBehind_41
      · have hf := ite_f hf c6
        refine lv_iload_n hx hb dX1_numberBehind_17 rfl (lv_at hl 3 rfl) ?_
        refine lv_bipush (v := 10) hx hb dX1_numberBehind_18 (by decide) ?_
        refine lv_imul hx hb dX1_numberBehind_20 ?_
        refine lv_aload_n hx hb dX1_numberBehind_21 rfl (lv_at hl 0 rfl) ?_
        refine lv_iload_n hx hb dX1_numberBehind_22 rfl (lv_at hl 1 rfl) ?_
        refine lv_iload hx hb dX1_numberBehind_23 (lv_at hl 4 rfl) ?_
        refine lv_iadd hx hb dX1_numberBehind_25 ?_
        obtain ⟨r7, h8, hf⟩ := bnd_el hf
        refine rdV (As := [.int (x1 + x4)]) (rest := [.int (x3 * 10)]) ⟨hx, hb, hml, hown, hts⟩ (c_X1_characterAt l g aO _ _ _ h8) (cwV 1 hts gX1_numberBehind_X1_characterAt rfl rfl rfl (by decide +kernel) ⟨Nat.le_of_ble_eq_true rfl, Nat.le_of_ble_eq_true rfl⟩) hKW hP [0, 1] rfl (va_recv hK hP (ci := 1) (q0 := 0) rfl rfl) rfl hl.1 rfl (lv_room (Nat.le_of_ble_eq_true rfl)) dX1_numberBehind_26 ⟨Nat.zero_le _, Nat.zero_le _⟩ (fun r9 q10 => ?_)
        obtain ⟨q10, nb11⟩ := q10
        refine lv_as q10.symm ?_
        refine lv_iadd hx hb dX1_numberBehind_29 ?_
        refine lv_bipush (v := 48) hx hb dX1_numberBehind_30 (by decide) ?_
        refine lv_isub hx hb dX1_numberBehind_32 ?_
        obtain ⟨v12, e13, hf⟩ := sl_el hf
        refine lv_as e13 ?_
        refine lv_istore_n (lv' := [(3, .int v12), (0, .ref (aO 0)), (1, .int x1), (2, .int x2), (4, .int x4)]) hx hb dX1_numberBehind_33 rfl hl (by decide) rfl (fun ls hl => ?_)
        obtain ⟨v14, e15, hf⟩ := sl_el hf
        refine lv_iinc (v := v14) (lv' := [(4, .int v14), (3, .int v12), (0, .ref (aO 0)), (1, .int x1), (2, .int x2)]) hx hb dX1_numberBehind_34 hl (k := 4) rfl (by rw [e15]; rfl) (by decide) rfl (fun ls hl => ?_)
        refine lv_goto (tgt := 11) hx hb dX1_numberBehind_37 (by decide) ?_
        exact ih x1 x2 v12 v14 ls (lv_sub hl [2, 3, 4, 1, 0] rfl) hf
  exact L_11 n p1 r1 0 1 ls (lv_sub hl [3, 4, 2, 1, 0] rfl) hf
abbrev rmX1_isOrder : Room := { frames := 0, cells := 0, slots := 0, locals := 0 }
set_option maxHeartbeats 8000000 in
set_option maxRecDepth 100000 in
theorem c_X1_isOrder (l : Launch) (g : GG) (aO : Nat → Nat) (p1 p2 p3 : Int32) (r : Int32) (hf : fX1_isOrder p1 p2 p3 = some r) : Met l yX1_isOrder wsX1_isOrder rmX1_isOrder (va_Pc [.ref (aO 0), .int p1, .int p2, .int p3] (fun U => va_P g.1 vwCl ([] : va_W) U.heap ∧ KW g U)) (vp_Si (fun r' => r' = r ∧ narrow .boolean (.int r') = .int r')) 0 0 (fun _ => False) := by
  refine Met.ofW (cc := cX1_isOrder) (maxL := 5) (ret := (some .boolean)) (by decide) rfl ?_
  intro p e s m args below meth c s₁ B hml hv
  obtain ⟨hargs, hP, hKW⟩ := hv
  have hK := hKW.1
  have hx := B.exec
  have hb := B.bytes
  have hr := B.returns
  have hts := atoms_spec (ws := wsX1_isOrder) B.pre
  have hown : s.vm.findClass RX1 = some m.cls := findClass_of_methodNamed B.named
  have hlocks := B.notSynchronized
  have hent : entryFrame m args 5 = F0 m 0 ((lg_sl ([.ref (aO 0), .int p1, .int p2, .int p3]) ++ List.replicate (5 - (lg_sl ([.ref (aO 0), .int p1, .int p2, .int p3])).length) Slot.unset).toArray) [] := by rw [hargs]; exact lg_entry_eq _ _ _
  rw [hent]
  have hl := lv_entry ([.ref (aO 0), .int p1, .int p2, .int p3]) (n := 5) (Nat.le_of_ble_eq_true rfl)
  generalize (lg_sl ([.ref (aO 0), .int p1, .int p2, .int p3]) ++ List.replicate (5 - (lg_sl ([.ref (aO 0), .int p1, .int p2, .int p3])).length) Slot.unset).toArray = ls at hl ⊢
  have hl : lv_has ls 5 [(0, .ref (aO 0)), (1, .int p1), (2, .int p2), (3, .int p3)] := hl
  generalize hQ0 : MQ below _ _ _ _ _ _ = Q0
  unfold fX1_isOrder at hf
  refine lv_iload_n hx hb dX1_isOrder_0 rfl (lv_at hl 2 rfl) ?_
  obtain ⟨j9, ej9, hf⟩ := sl_el hf
  have J_9 : ∀ (x1 x2 x3 k0 : Int32) (ls : Array Slot), lv_has ls 5 [(1, .int x1), (2, .int x2), (3, .int x3)] → j9 x1 x2 x3 k0 = some r → W p l e (headSpec wsX1_isOrder rmX1_isOrder).room s m args below meth c s.heap [] 0 0 Q0 (F0 m 9 ls [.int k0]) := by
    intro x1 x2 x3 k0 ls hl hf
    rw [ej9] at hf
    refine lv_istore (lv' := [(4, .int k0), (1, .int x1), (2, .int x2), (3, .int x3)]) hx hb dX1_isOrder_9 hl (by decide) rfl (fun ls hl => ?_)
    refine lv_iload_n hx hb dX1_isOrder_11 rfl (lv_at hl 1 rfl) ?_
    obtain ⟨j64, ej64, hf⟩ := sl_el hf
    have J_64 : ∀ (x2 : Int32) (ls : Array Slot), lv_has ls 5 [(2, .int x2)] → j64 x2 = some r → W p l e (headSpec wsX1_isOrder rmX1_isOrder).room s m args below meth c s.heap [] 0 0 Q0 (F0 m 64 ls []) := by
      intro x2 ls hl hf
      rw [ej64] at hf
      refine lv_iload_n hx hb dX1_isOrder_64 rfl (lv_at hl 0 rfl) ?_
      refine lv_if_ne (tgt := 72) hx hb dX1_isOrder_65 (by decide) (fun c1 => ?_) (fun c1 => ?_)
      · have hf := ite_f hf c1
        refine lv_iconst (v := 0) hx hb dX1_isOrder_72 (by decide) ?_
        have er0 := Option.some.inj hf
        rw [← hQ0]; exact W.zret (v := 0) hx hb hr rfl (fun t ht hW => ⟨0, rfl, ⟨er0, rfl⟩, ht⟩) (fun q h => by cases h) dX1_isOrder_73
      · have hf := ite_t hf c1
        refine lv_iconst (v := 1) hx hb dX1_isOrder_68 (by decide) ?_
        refine lv_goto (tgt := 73) hx hb dX1_isOrder_69 (by decide) ?_
        have er0 := Option.some.inj hf
        rw [← hQ0]; exact W.zret (v := 1) hx hb hr rfl (fun t ht hW => ⟨1, rfl, ⟨er0, rfl⟩, ht⟩) (fun q h => by cases h) dX1_isOrder_73
    by_cases c2 : x1 = 98
    · have hf := ite_t hf c2
      refine lv_lookup (tgt := 64) (off := 52) hx hb dX1_isOrder_12 (by decide) (by rw [c2]; rfl) (by decide) ?_
      exact J_64 x2 ls (lv_sub hl [2] rfl) hf
    have hf := ite_f hf c2
    have q3 := i32_nk (z := 98) (by decide) c2
    by_cases c4 : x1 = 106
    · have hf := ite_t hf c4
      refine lv_lookup (tgt := 90) (off := 78) hx hb dX1_isOrder_12 (by decide) (by rw [c4]; rfl) (by decide) ?_
      refine lv_iload hx hb dX1_isOrder_90 (lv_at hl 0 rfl) ?_
      obtain ⟨z5, hf⟩ := zA_el hf
      have er0 := Option.some.inj hf
      rw [← hQ0]; exact W.zret (v := k0) hx hb hr (zA_n z5) (fun t ht hW => ⟨k0, rfl, ⟨er0, (zA_n z5)⟩, ht⟩) (fun q h => by cases h) dX1_isOrder_92
    have hf := ite_f hf c4
    have q6 := i32_nk (z := 106) (by decide) c4
    by_cases c7 : x1 = 110
    · have hf := ite_t hf c7
      refine lv_lookup (tgt := 93) (off := 81) hx hb dX1_isOrder_12 (by decide) (by rw [c7]; rfl) (by decide) ?_
      refine lv_iload hx hb dX1_isOrder_93 (lv_at hl 0 rfl) ?_
      refine lv_if_eq (tgt := 113) hx hb dX1_isOrder_95 (by decide) (fun c8 => ?_) (fun c8 => ?_)
      · have hf := ite_t hf c8
        refine lv_iconst (v := 0) hx hb dX1_isOrder_113 (by decide) ?_
        have er0 := Option.some.inj hf
        rw [← hQ0]; exact W.zret (v := 0) hx hb hr rfl (fun t ht hW => ⟨0, rfl, ⟨er0, rfl⟩, ht⟩) (fun q h => by cases h) dX1_isOrder_114
      · have hf := ite_f hf c8
        refine lv_iload_n hx hb dX1_isOrder_98 rfl (lv_at hl 3 rfl) ?_
        refine lv_iconst (v := 1) hx hb dX1_isOrder_99 (by decide) ?_
        refine lv_icmp_lt (tgt := 113) hx hb dX1_isOrder_100 (by decide) (fun c9 => ?_) (fun c9 => ?_)
        · have hf := ite_t hf c9
          refine lv_iconst (v := 0) hx hb dX1_isOrder_113 (by decide) ?_
          have er0 := Option.some.inj hf
          rw [← hQ0]; exact W.zret (v := 0) hx hb hr rfl (fun t ht hW => ⟨0, rfl, ⟨er0, rfl⟩, ht⟩) (fun q h => by cases h) dX1_isOrder_114
        · have hf := ite_f hf c9
          refine lv_iload_n hx hb dX1_isOrder_103 rfl (lv_at hl 3 rfl) ?_
          refine lv_bipush (v := 99) hx hb dX1_isOrder_104 (by decide) ?_
          refine lv_icmp_gt (tgt := 113) hx hb dX1_isOrder_106 (by decide) (fun c10 => ?_) (fun c10 => ?_)
          · have hf := ite_t hf c10
            refine lv_iconst (v := 0) hx hb dX1_isOrder_113 (by decide) ?_
            have er0 := Option.some.inj hf
            rw [← hQ0]; exact W.zret (v := 0) hx hb hr rfl (fun t ht hW => ⟨0, rfl, ⟨er0, rfl⟩, ht⟩) (fun q h => by cases h) dX1_isOrder_114
          · have hf := ite_f hf c10
            refine lv_iconst (v := 1) hx hb dX1_isOrder_109 (by decide) ?_
            refine lv_goto (tgt := 114) hx hb dX1_isOrder_110 (by decide) ?_
            have er0 := Option.some.inj hf
            rw [← hQ0]; exact W.zret (v := 1) hx hb hr rfl (fun t ht hW => ⟨1, rfl, ⟨er0, rfl⟩, ht⟩) (fun q h => by cases h) dX1_isOrder_114
    have hf := ite_f hf c7
    have q11 := i32_nk (z := 110) (by decide) c7
    by_cases c12 : x1 = 114
    · have hf := ite_t hf c12
      refine lv_lookup (tgt := 74) (off := 62) hx hb dX1_isOrder_12 (by decide) (by rw [c12]; rfl) (by decide) ?_
      refine lv_iload hx hb dX1_isOrder_74 (lv_at hl 0 rfl) ?_
      refine lv_if_eq (tgt := 88) hx hb dX1_isOrder_76 (by decide) (fun c13 => ?_) (fun c13 => ?_)
      · have hf := ite_t hf c13
        refine lv_iconst (v := 0) hx hb dX1_isOrder_88 (by decide) ?_
        have er0 := Option.some.inj hf
        rw [← hQ0]; exact W.zret (v := 0) hx hb hr rfl (fun t ht hW => ⟨0, rfl, ⟨er0, rfl⟩, ht⟩) (fun q h => by cases h) dX1_isOrder_89
      · have hf := ite_f hf c13
        refine lv_iload_n hx hb dX1_isOrder_79 rfl (lv_at hl 3 rfl) ?_
        refine lv_iconst (v := 1) hx hb dX1_isOrder_80 (by decide) ?_
        refine lv_icmp_lt (tgt := 88) hx hb dX1_isOrder_81 (by decide) (fun c14 => ?_) (fun c14 => ?_)
        · have hf := ite_t hf c14
          refine lv_iconst (v := 0) hx hb dX1_isOrder_88 (by decide) ?_
          have er0 := Option.some.inj hf
          rw [← hQ0]; exact W.zret (v := 0) hx hb hr rfl (fun t ht hW => ⟨0, rfl, ⟨er0, rfl⟩, ht⟩) (fun q h => by cases h) dX1_isOrder_89
        · have hf := ite_f hf c14
          refine lv_iconst (v := 1) hx hb dX1_isOrder_84 (by decide) ?_
          refine lv_goto (tgt := 89) hx hb dX1_isOrder_85 (by decide) ?_
          have er0 := Option.some.inj hf
          rw [← hQ0]; exact W.zret (v := 1) hx hb hr rfl (fun t ht hW => ⟨1, rfl, ⟨er0, rfl⟩, ht⟩) (fun q h => by cases h) dX1_isOrder_89
    have hf := ite_f hf c12
    have q15 := i32_nk (z := 114) (by decide) c12
    by_cases c16 : x1 = 117
    · have hf := ite_t hf c16
      refine lv_lookup (tgt := 64) (off := 52) hx hb dX1_isOrder_12 (by decide) (by rw [c16]; rfl) (by decide) ?_
      exact J_64 x2 ls (lv_sub hl [2] rfl) hf
    have hf := ite_f hf c16
    have q17 := i32_nk (z := 117) (by decide) c16
    refine lv_lookup (tgt := 115) (off := 103) hx hb dX1_isOrder_12 (by decide) (by simp [Op.lookupswitch.offset, List.find?, Ne.symm q3, q3, Ne.symm q6, q6, Ne.symm q11, q11, Ne.symm q15, q15, Ne.symm q17, q17]) (by decide) ?_
    refine lv_iconst (v := 0) hx hb dX1_isOrder_115 (by decide) ?_
    have er0 := Option.some.inj hf
    rw [← hQ0]; exact W.zret (v := 0) hx hb hr rfl (fun t ht hW => ⟨0, rfl, ⟨er0, rfl⟩, ht⟩) (fun q h => by cases h) dX1_isOrder_116
  refine lv_if_le (tgt := 8) hx hb dX1_isOrder_1 (by decide) (fun c18 => ?_) (fun c18 => ?_)
  · have hf := ite_t hf c18
    refine lv_iconst (v := 0) hx hb dX1_isOrder_8 (by decide) ?_
    exact J_9 p1 p2 p3 0 ls (lv_sub hl [1, 2, 3] rfl) hf
  · have hf := ite_f hf c18
    refine lv_iconst (v := 1) hx hb dX1_isOrder_4 (by decide) ?_
    refine lv_goto (tgt := 9) hx hb dX1_isOrder_5 (by decide) ?_
    exact J_9 p1 p2 p3 1 ls (lv_sub hl [1, 2, 3] rfl) hf
abbrev rmX1_endOf : Room := { frames := 4, cells := 0, slots := 0, locals := 88 }
set_option maxHeartbeats 8000000 in
set_option maxRecDepth 100000 in
theorem c_X1_endOf (l : Launch) (g : GG) (aO : Nat → Nat) (n : Nat) (XO : DM) (p1 : Int32) (r : Int32) (hf : fX1_endOf n XO p1 = some r) : Met l yX1_endOf wsX1_endOf rmX1_endOf (va_Pc [.ref (aO 0), .int p1] (fun U => va_P g.1 vwCl (pO g aO XO) U.heap ∧ KW g U)) (vp_Si (fun r' => r' = r ∧ True)) 0 0 (fun _ => False) := by
  refine Met.ofW (cc := cX1_endOf) (maxL := 4) (ret := (some .int)) (by decide) rfl ?_
  intro p e s m args below meth c s₁ B hml hv
  obtain ⟨hargs, hP, hKW⟩ := hv
  have hK := hKW.1
  have hx := B.exec
  have hb := B.bytes
  have hr := B.returns
  have hts := atoms_spec (ws := wsX1_endOf) B.pre
  have hown : s.vm.findClass RX1 = some m.cls := findClass_of_methodNamed B.named
  have hlocks := B.notSynchronized
  have i_X1 : ∀ w ∈ wsX10, w ∈ wsX1_endOf := fun w h => List.mem_cons_of_mem _ (List.mem_append_right _ h)
  have hent : entryFrame m args 4 = F0 m 0 ((lg_sl ([.ref (aO 0), .int p1]) ++ List.replicate (4 - (lg_sl ([.ref (aO 0), .int p1])).length) Slot.unset).toArray) [] := by rw [hargs]; exact lg_entry_eq _ _ _
  rw [hent]
  have hl := lv_entry ([.ref (aO 0), .int p1]) (n := 4) (Nat.le_of_ble_eq_true rfl)
  generalize (lg_sl ([.ref (aO 0), .int p1]) ++ List.replicate (4 - (lg_sl ([.ref (aO 0), .int p1])).length) Slot.unset).toArray = ls at hl ⊢
  have hl : lv_has ls 4 [(0, .ref (aO 0)), (1, .int p1)] := hl
  generalize hQ0 : MQ below _ _ _ _ _ _ = Q0
  unfold fX1_endOf at hf
  refine lv_aload_n hx hb dX1_endOf_0 rfl (lv_at hl 0 rfl) ?_
  refine lv_iload_n hx hb dX1_endOf_1 rfl (lv_at hl 1 rfl) ?_
  obtain ⟨r1, h2, hf⟩ := bnd_el hf
  refine rdV (As := [.int p1]) (rest := []) ⟨hx, hb, hml, hown, hts⟩ (c_X1_digitsBehind l g aO _ _ _ _ h2) (cwV 1 hts gX1_endOf_X1_digitsBehind rfl rfl rfl (by decide +kernel) ⟨Nat.le_of_ble_eq_true rfl, Nat.le_of_ble_eq_true rfl⟩) hKW hP [0, 1] rfl (va_recv hK hP (ci := 1) (q0 := 0) rfl rfl) rfl hl.1 rfl (lv_room (Nat.le_of_ble_eq_true rfl)) dX1_endOf_2 ⟨Nat.zero_le _, Nat.zero_le _⟩ (fun r3 q4 => ?_)
  obtain ⟨q4, nb5⟩ := q4
  refine lv_as q4.symm ?_
  refine lv_istore_n (lv' := [(2, .int r1), (0, .ref (aO 0)), (1, .int p1)]) hx hb dX1_endOf_5 rfl hl (by decide) rfl (fun ls hl => ?_)
  refine lv_iload_n hx hb dX1_endOf_6 rfl (lv_at hl 2 rfl) ?_
  refine lv_iconst (v := 1) hx hb dX1_endOf_7 (by decide) ?_
  refine lv_iadd hx hb dX1_endOf_8 ?_
  refine lv_iload_n hx hb dX1_endOf_9 rfl (lv_at hl 0 rfl) ?_
  refine lv_iadd hx hb dX1_endOf_10 ?_
  obtain ⟨v6, e7, hf⟩ := sl_el hf
  refine lv_as e7 ?_
  refine lv_istore_n (lv' := [(3, .int v6), (2, .int r1), (0, .ref (aO 0)), (1, .int p1)]) hx hb dX1_endOf_11 rfl hl (by decide) rfl (fun ls hl => ?_)
  refine lv_aload_n hx hb dX1_endOf_12 rfl (lv_at hl 2 rfl) ?_
  refine lv_iload_n hx hb dX1_endOf_13 rfl (lv_at hl 0 rfl) ?_
  obtain ⟨r8, h9, hf⟩ := bnd_el hf
  refine rdV (As := [.int v6]) (rest := []) ⟨hx, hb, hml, hown, hts⟩ (c_X1_characterAt l g aO _ _ _ h9) (cwV 1 hts gX1_endOf_X1_characterAt rfl rfl rfl (by decide +kernel) ⟨Nat.le_of_ble_eq_true rfl, Nat.le_of_ble_eq_true rfl⟩) hKW hP [0, 1] rfl (va_recv hK hP (ci := 1) (q0 := 0) rfl rfl) rfl hl.1 rfl (lv_room (Nat.le_of_ble_eq_true rfl)) dX1_endOf_14 ⟨Nat.zero_le _, Nat.zero_le _⟩ (fun r10 q11 => ?_)
  obtain ⟨q11, nb12⟩ := q11
  refine lv_as q11.symm ?_
  refine lv_bipush (v := 59) hx hb dX1_endOf_17 (by decide) ?_
  refine lv_icmp_eq (tgt := 24) hx hb dX1_endOf_19 (by decide) (fun c13 => ?_) (fun c13 => ?_)
  · have hf := ite_t hf c13
    refine lv_aload_n hx hb dX1_endOf_24 rfl (lv_at hl 2 rfl) ?_
    refine lv_aload_n hx hb dX1_endOf_25 rfl (lv_at hl 2 rfl) ?_
    refine lv_iload_n hx hb dX1_endOf_26 rfl (lv_at hl 3 rfl) ?_
    obtain ⟨r14, h15, hf⟩ := bnd_el hf
    refine rdV (As := [.int p1]) (rest := [.ref (aO 0)]) ⟨hx, hb, hml, hown, hts⟩ (c_X1_characterAt l g aO _ _ _ h15) (cwV 1 hts gX1_endOf_X1_characterAt rfl rfl rfl (by decide +kernel) ⟨Nat.le_of_ble_eq_true rfl, Nat.le_of_ble_eq_true rfl⟩) hKW hP [0, 1] rfl (va_recv hK hP (ci := 1) (q0 := 0) rfl rfl) rfl hl.1 rfl (lv_room (Nat.le_of_ble_eq_true rfl)) dX1_endOf_27 ⟨Nat.zero_le _, Nat.zero_le _⟩ (fun r16 q17 => ?_)
    obtain ⟨q17, nb18⟩ := q17
    refine lv_as q17.symm ?_
    refine lv_iload_n hx hb dX1_endOf_30 rfl (lv_at hl 1 rfl) ?_
    refine lv_aload_n hx hb dX1_endOf_31 rfl (lv_at hl 2 rfl) ?_
    refine lv_iload_n hx hb dX1_endOf_32 rfl (lv_at hl 3 rfl) ?_
    obtain ⟨r19, h20, hf⟩ := bnd_el hf
    refine rdV (As := [.int p1]) (rest := [.int r1, .int r14, .ref (aO 0)]) ⟨hx, hb, hml, hown, hts⟩ (c_X1_numberBehind l g aO _ _ _ _ h20) (cwV 1 hts gX1_endOf_X1_numberBehind rfl rfl rfl (by decide +kernel) ⟨Nat.le_of_ble_eq_true rfl, Nat.le_of_ble_eq_true rfl⟩) hKW hP [0, 1] rfl (va_recv hK hP (ci := 1) (q0 := 0) rfl rfl) rfl hl.1 rfl (lv_room (Nat.le_of_ble_eq_true rfl)) dX1_endOf_33 ⟨Nat.zero_le _, Nat.zero_le _⟩ (fun r21 q22 => ?_)
    obtain ⟨q22, nb23⟩ := q22
    refine lv_as q22.symm ?_
    obtain ⟨r24, h25, hf⟩ := bnd_el hf
    refine rdV (As := [.int r14, .int r1, .int r19]) (rest := []) ⟨hx, hb, hml, hown, hts⟩ (c_X1_isOrder l g aO _ _ _ _ h25) (cwV 3 hts gX1_endOf_X1_isOrder rfl rfl rfl (by decide +kernel) ⟨Nat.le_of_ble_eq_true rfl, Nat.le_of_ble_eq_true rfl⟩) hKW hP [] rfl (va_recv hK hP (ci := 1) (q0 := 0) rfl rfl) rfl hl.1 rfl (lv_room (Nat.le_of_ble_eq_true rfl)) dX1_endOf_36 ⟨Nat.zero_le _, Nat.zero_le _⟩ (fun r26 q27 => ?_)
    obtain ⟨q27, nb28⟩ := q27
    refine lv_as q27.symm ?_
    rw [q27] at nb28
    refine lv_if_eq (tgt := 48) hx hb dX1_endOf_39 (by decide) (fun c29 => ?_) (fun c29 => ?_)
    · have hf := ite_t hf c29
      refine lv_iconst (v := (-1)) hx hb dX1_endOf_48 (by decide) ?_
      have er0 := Option.some.inj hf
      rw [← hQ0]; exact W.iret (v := (-1)) hx hb hr (fun t ht hW => ⟨(-1), rfl, ⟨er0, trivial⟩, ht⟩) (fun q h => by cases h) dX1_endOf_49
    · have hf := ite_f hf c29
      refine lv_iload_n hx hb dX1_endOf_42 rfl (lv_at hl 0 rfl) ?_
      refine lv_iconst (v := 1) hx hb dX1_endOf_43 (by decide) ?_
      refine lv_iadd hx hb dX1_endOf_44 ?_
      refine lv_goto (tgt := 49) hx hb dX1_endOf_45 (by decide) ?_
      have er0 := Option.some.inj hf
      rw [← hQ0]; exact W.iret (v := (v6 + 1)) hx hb hr (fun t ht hW => ⟨(v6 + 1), rfl, ⟨er0, trivial⟩, ht⟩) (fun q h => by cases h) dX1_endOf_49
  · have hf := ite_f hf c13
    refine lv_iconst (v := (-1)) hx hb dX1_endOf_22 (by decide) ?_
    have er0 := Option.some.inj hf
    rw [← hQ0]; exact W.iret (v := (-1)) hx hb hr (fun t ht hW => ⟨(-1), rfl, ⟨er0, trivial⟩, ht⟩) (fun q h => by cases h) dX1_endOf_23
abbrev rmX1_firstFault : Room := { frames := 5, cells := 0, slots := 0, locals := 111 }
set_option maxHeartbeats 8000000 in
set_option maxRecDepth 100000 in
theorem c_X1_firstFault (l : Launch) (g : GG) (aO : Nat → Nat) (n : Nat) (XO : DM) (r : Int32) (hf : fX1_firstFault n XO = some r) : Met l yX1_firstFault wsX1_firstFault rmX1_firstFault (va_Pc [.ref (aO 0)] (fun U => va_P g.1 vwCl (pO g aO XO) U.heap ∧ KW g U)) (vp_Si (fun r' => r' = r ∧ True)) 0 0 (fun _ => False) := by
  refine Met.ofW (cc := cX1_firstFault) (maxL := 4) (ret := (some .int)) (by decide) rfl ?_
  intro p e s m args below meth c s₁ B hml hv
  obtain ⟨hargs, hP, hKW⟩ := hv
  have hK := hKW.1
  have hx := B.exec
  have hb := B.bytes
  have hr := B.returns
  have hts := atoms_spec (ws := wsX1_firstFault) B.pre
  have hown : s.vm.findClass RX1 = some m.cls := findClass_of_methodNamed B.named
  have hlocks := B.notSynchronized
  have i_X1 : ∀ w ∈ wsX10, w ∈ wsX1_firstFault := fun w h => List.mem_cons_of_mem _ (List.mem_append_right _ h)
  have hent : entryFrame m args 4 = F0 m 0 ((lg_sl ([.ref (aO 0)]) ++ List.replicate (4 - (lg_sl ([.ref (aO 0)])).length) Slot.unset).toArray) [] := by rw [hargs]; exact lg_entry_eq _ _ _
  rw [hent]
  have hl := lv_entry ([.ref (aO 0)]) (n := 4) (Nat.le_of_ble_eq_true rfl)
  generalize (lg_sl ([.ref (aO 0)]) ++ List.replicate (4 - (lg_sl ([.ref (aO 0)])).length) Slot.unset).toArray = ls at hl ⊢
  have hl : lv_has ls 4 [(0, .ref (aO 0))] := hl
  generalize hQ0 : MQ below _ _ _ _ _ _ = Q0
  unfold fX1_firstFault at hf
  refine lv_iconst (v := 0) hx hb dX1_firstFault_0 (by decide) ?_
  refine lv_istore_n (lv' := [(1, .int 0), (0, .ref (aO 0))]) hx hb dX1_firstFault_1 rfl hl (by decide) rfl (fun ls hl => ?_)
  refine lv_iconst (v := 0) hx hb dX1_firstFault_2 (by decide) ?_
  refine lv_istore_n (lv' := [(2, .int 0), (1, .int 0), (0, .ref (aO 0))]) hx hb dX1_firstFault_3 rfl hl (by decide) rfl (fun ls hl => ?_)
  have L_4 : ∀ fu : Nat, ∀ (x1 x2 : Int32) (ls : Array Slot), lv_has ls 4 [(0, .ref (aO 0)), (1, .int x1), (2, .int x2)] → fX1_firstFault_L4 n XO fu x1 x2 = some r → W p l e (headSpec wsX1_firstFault rmX1_firstFault).room s m args below meth c s.heap [] 0 0 Q0 (F0 m 4 ls []) := by
    intro fu
    induction fu with
    | zero => intros; rename_i hf; rw [fX1_firstFault_L4] at hf; cases hf
    | succ fu ih =>
      intro x1 x2 ls hl hf
      rw [fX1_firstFault_L4] at hf
      refine lv_iload_n hx hb dX1_firstFault_4 rfl (lv_at hl 2 rfl) ?_
      refine lv_bipush (v := 60) hx hb dX1_firstFault_5 (by decide) ?_
      refine lv_icmp_ge (tgt := 39) hx hb dX1_firstFault_7 (by decide) (fun c1 => ?_) (fun c1 => ?_)
      · have hf := ite_t hf c1
        refine lv_iconst (v := (-1)) hx hb dX1_firstFault_39 (by decide) ?_
        have er0 := Option.some.inj hf
        rw [← hQ0]; exact W.iret (v := (-1)) hx hb hr (fun t ht hW => ⟨(-1), rfl, ⟨er0, trivial⟩, ht⟩) (fun q h => by cases h) dX1_firstFault_40
      · have hf := ite_f hf c1
        refine lv_iload_n hx hb dX1_firstFault_10 rfl (lv_at hl 1 rfl) ?_
        refine lv_aload_n hx hb dX1_firstFault_11 rfl (lv_at hl 0 rfl) ?_
        refine va_get (D := g.1) (ci := 1) (v := .int (XO 1 0)) (C := RX1) (T := TX1) (N := 2) hx hb hts i_X1 hown hK hP 0 rfl rfl 1 (by decide) (hts (.fieldLink RX1 15 "WordFlasher$Orders" "length" "I") (List.mem_of_getElem? (i := 1) rfl)) (fun _ h9 => h9) rfl dX1_firstFault_12 ?_
        refine lv_icmp_ge (tgt := 39) hx hb dX1_firstFault_15 (by decide) (fun c2 => ?_) (fun c2 => ?_)
        · have hf := ite_t hf c2
          refine lv_iconst (v := (-1)) hx hb dX1_firstFault_39 (by decide) ?_
          have er0 := Option.some.inj hf
          rw [← hQ0]; exact W.iret (v := (-1)) hx hb hr (fun t ht hW => ⟨(-1), rfl, ⟨er0, trivial⟩, ht⟩) (fun q h => by cases h) dX1_firstFault_40
        · have hf := ite_f hf c2
          refine lv_aload_n hx hb dX1_firstFault_18 rfl (lv_at hl 0 rfl) ?_
          refine lv_iload_n hx hb dX1_firstFault_19 rfl (lv_at hl 1 rfl) ?_
          obtain ⟨r3, h4, hf⟩ := bnd_el hf
          refine rdV (As := [.int x1]) (rest := []) ⟨hx, hb, hml, hown, hts⟩ (c_X1_endOf l g aO _ _ _ _ h4) (cwV 1 hts gX1_firstFault_X1_endOf rfl rfl rfl (by decide +kernel) ⟨Nat.le_of_ble_eq_true rfl, Nat.le_of_ble_eq_true rfl⟩) hKW hP [0, 1] rfl (va_recv hK hP (ci := 1) (q0 := 0) rfl rfl) rfl hl.1 rfl (lv_room (Nat.le_of_ble_eq_true rfl)) dX1_firstFault_20 ⟨Nat.zero_le _, Nat.zero_le _⟩ (fun r5 q6 => ?_)
          obtain ⟨q6, nb7⟩ := q6
          refine lv_as q6.symm ?_
          refine lv_istore_n (lv' := [(3, .int r3), (0, .ref (aO 0)), (1, .int x1), (2, .int x2)]) hx hb dX1_firstFault_23 rfl hl (by decide) rfl (fun ls hl => ?_)
          refine lv_iload_n hx hb dX1_firstFault_24 rfl (lv_at hl 0 rfl) ?_
          refine lv_iconst (v := (-1)) hx hb dX1_firstFault_25 (by decide) ?_
          refine lv_icmp_ne (tgt := 31) hx hb dX1_firstFault_26 (by decide) (fun c8 => ?_) (fun c8 => ?_)
          · have hf := ite_f hf c8
            refine lv_iload_n hx hb dX1_firstFault_31 rfl (lv_at hl 0 rfl) ?_
            refine lv_istore_n (lv' := [(1, .int r3), (3, .int r3), (0, .ref (aO 0)), (2, .int x2)]) hx hb dX1_firstFault_32 rfl hl (by decide) rfl (fun ls hl => ?_)
            obtain ⟨v9, e10, hf⟩ := sl_el hf
            refine lv_iinc (v := v9) (lv' := [(2, .int v9), (1, .int r3), (3, .int r3), (0, .ref (aO 0))]) hx hb dX1_firstFault_33 hl (k := 3) rfl (by rw [e10]; rfl) (by decide) rfl (fun ls hl => ?_)
            refine lv_goto (tgt := 4) hx hb dX1_firstFault_36 (by decide) ?_
            exact ih r3 v9 ls (lv_sub hl [3, 1, 0] rfl) hf
          · have hf := ite_t hf c8
            refine lv_iload_n hx hb dX1_firstFault_29 rfl (lv_at hl 2 rfl) ?_
            have er0 := Option.some.inj hf
            rw [← hQ0]; exact W.iret (v := x1) hx hb hr (fun t ht hW => ⟨x1, rfl, ⟨er0, trivial⟩, ht⟩) (fun q h => by cases h) dX1_firstFault_30
  exact L_4 n 0 0 ls (lv_sub hl [2, 1, 0] rfl) hf
