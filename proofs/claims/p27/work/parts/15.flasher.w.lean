abbrev rmX5_spanProperty : Room := { frames := 5, cells := 0, slots := 0, locals := 112 }
set_option maxHeartbeats 8000000 in
set_option maxRecDepth 100000 in
theorem c_X5_spanProperty (l : Launch) (g : GG) (aF : Nat → Nat) (aN : Nat → Nat) (aA : Nat → Nat) (aW : Nat → Nat) (aP : Nat → Nat) (aQ : Nat → Nat) (aO : Nat → Nat) (aH : Nat → Nat) (aB : Nat → Nat → Nat) (n : Nat) (XF : DM) (XN : DM) (XW : DM) (p1 p2 p3 : Int32) (r : Int32) (hf : fX5_spanProperty n XF XN XW p1 p2 p3 = some r) : Met l yX5_spanProperty wsX5_spanProperty rmX5_spanProperty (va_Pc [.ref (aF 0), .int p1, .int p2, .int p3] (fun U => va_P g.1 vwCl (pF g aF (aW 0) (aN 0) (aA 0) (aH 0) (aO 0) XF ++ (pS g aN (aW 0) XN ++ (pW g aW (aP 0) (aQ 0) XW))) U.heap ∧ KW g U)) (vp_Si (fun r' => r' = r ∧ True)) 0 0 (fun _ => False) := by
  refine Met.ofW (cc := cX5_spanProperty) (maxL := 4) (ret := (some .int)) (by decide) rfl ?_
  intro p e s m args below meth c s₁ B hml hv
  obtain ⟨hargs, hP, hKW⟩ := hv
  have hK := hKW.1
  have hx := B.exec
  have hb := B.bytes
  have hr := B.returns
  have hts := atoms_spec (ws := wsX5_spanProperty) B.pre
  have hown : s.vm.findClass RX5 = some m.cls := findClass_of_methodNamed B.named
  have hlocks := B.notSynchronized
  have i_X5 : ∀ w ∈ wsX50, w ∈ wsX5_spanProperty := fun w h => List.mem_cons_of_mem _ (List.mem_append_left _ (List.mem_append_left _ (List.mem_append_right _ h)))
  have i_X3 : ∀ w ∈ wsX30, w ∈ wsX5_spanProperty := fun w h => List.mem_cons_of_mem _ (List.mem_append_left _ (List.mem_append_right _ h))
  have i_X4 : ∀ w ∈ wsX40, w ∈ wsX5_spanProperty := fun w h => List.mem_cons_of_mem _ (List.mem_append_right _ h)
  have hent : entryFrame m args 4 = F0 m 0 ((lg_sl ([.ref (aF 0), .int p1, .int p2, .int p3]) ++ List.replicate (4 - (lg_sl ([.ref (aF 0), .int p1, .int p2, .int p3])).length) Slot.unset).toArray) [] := by rw [hargs]; exact lg_entry_eq _ _ _
  rw [hent]
  have hl := lv_entry ([.ref (aF 0), .int p1, .int p2, .int p3]) (n := 4) (Nat.le_of_ble_eq_true rfl)
  generalize (lg_sl ([.ref (aF 0), .int p1, .int p2, .int p3]) ++ List.replicate (4 - (lg_sl ([.ref (aF 0), .int p1, .int p2, .int p3])).length) Slot.unset).toArray = ls at hl ⊢
  have hl : lv_has ls 4 [(0, .ref (aF 0)), (1, .int p1), (2, .int p2), (3, .int p3)] := hl
  generalize hQ0 : MQ below _ _ _ _ _ _ = Q0
  unfold fX5_spanProperty at hf
  refine lv_iload_n hx hb dX5_spanProperty_0 rfl (lv_at hl 3 rfl) ?_
  by_cases c1 : p3 = 0
  · have hf := ite_t hf c1
    refine lv_lookup (tgt := 28) (off := 27) hx hb dX5_spanProperty_1 (by decide) (by rw [c1]; rfl) (by decide) ?_
    refine lv_iload_n hx hb dX5_spanProperty_28 rfl (lv_at hl 1 rfl) ?_
    have er0 := Option.some.inj hf
    rw [← hQ0]; exact W.iret (v := p1) hx hb hr (fun t ht hW => ⟨p1, rfl, ⟨er0, trivial⟩, ht⟩) (fun q h => by cases h) dX5_spanProperty_29
  have hf := ite_f hf c1
  have q2 := i32_nk (z := 0) (by decide) c1
  by_cases c3 : p3 = 1
  · have hf := ite_t hf c3
    refine lv_lookup (tgt := 30) (off := 29) hx hb dX5_spanProperty_1 (by decide) (by rw [c3]; rfl) (by decide) ?_
    refine lv_iload_n hx hb dX5_spanProperty_30 rfl (lv_at hl 2 rfl) ?_
    have er0 := Option.some.inj hf
    rw [← hQ0]; exact W.iret (v := p2) hx hb hr (fun t ht hW => ⟨p2, rfl, ⟨er0, trivial⟩, ht⟩) (fun q h => by cases h) dX5_spanProperty_31
  have hf := ite_f hf c3
  have q4 := i32_nk (z := 1) (by decide) c3
  refine lv_lookup (tgt := 32) (off := 31) hx hb dX5_spanProperty_1 (by decide) (by simp [Op.lookupswitch.offset, List.find?, Ne.symm q2, q2, Ne.symm q4, q4]) (by decide) ?_
  refine lv_aload_n hx hb dX5_spanProperty_32 rfl (lv_at hl 0 rfl) ?_
  refine va_get (D := g.1) (ci := 5) (v := .ref (aN 0)) (C := RX5) (T := TX5) (N := 6) hx hb hts i_X5 hown hK hP 0 rfl rfl 1 (by decide) (hts (.fieldLink RX5 21 "WordFlasher" "now" "LWordFlasher$State;") (List.mem_of_getElem? (i := 1) rfl)) (fun _ h9 => h9) rfl dX5_spanProperty_33 ?_
  refine lv_iload_n hx hb dX5_spanProperty_36 rfl (lv_at hl 1 rfl) ?_
  refine lv_iload_n hx hb dX5_spanProperty_37 rfl (lv_at hl 2 rfl) ?_
  obtain ⟨r5, h6, hf⟩ := bnd_el hf
  refine rdV (As := [.int p1, .int p2]) (rest := []) ⟨hx, hb, hml, hown, hts⟩ (c_X3_timeOfAll l g aN aW aP aQ _ _ _ _ _ _ h6) (cwV 2 hts gX5_spanProperty_X3_timeOfAll rfl rfl rfl (by decide +kernel) ⟨Nat.le_of_ble_eq_true rfl, Nat.le_of_ble_eq_true rfl⟩) hKW hP [2, 3, 4, 5, 6, 7, 8, 9, 10, 11, 12, 13, 14, 15] rfl (va_recv hK hP (ci := 3) (q0 := 2) rfl rfl) rfl hl.1 rfl (lv_room (Nat.le_of_ble_eq_true rfl)) dX5_spanProperty_38 ⟨Nat.zero_le _, Nat.zero_le _⟩ (fun r7 q8 => ?_)
  obtain ⟨q8, nb9⟩ := q8
  refine lv_as q8.symm ?_
  have er0 := Option.some.inj hf
  rw [← hQ0]; exact W.iret (v := r5) hx hb hr (fun t ht hW => ⟨r5, rfl, ⟨er0, trivial⟩, ht⟩) (fun q h => by cases h) dX5_spanProperty_41
abbrev rmX5_word : Room := { frames := 4, cells := 0, slots := 0, locals := 88 }
set_option maxHeartbeats 8000000 in
set_option maxRecDepth 100000 in
theorem c_X5_word (l : Launch) (g : GG) (aF : Nat → Nat) (aN : Nat → Nat) (aA : Nat → Nat) (aW : Nat → Nat) (aP : Nat → Nat) (aQ : Nat → Nat) (aO : Nat → Nat) (aH : Nat → Nat) (aB : Nat → Nat → Nat) (XF : DM) (XN : DM) (XW : DM) (XP : DM) (XQ : DM) (p1 p2 : Int32) (r : Int32) (hf : fX5_word XF XN XW XP XQ p1 p2 = some r) : Met l yX5_word wsX5_word rmX5_word (va_Pc [.ref (aF 0), .int p1, .int p2] (fun U => va_P g.1 vwCl (pF g aF (aW 0) (aN 0) (aA 0) (aH 0) (aO 0) XF ++ (pS g aN (aW 0) XN ++ (pW g aW (aP 0) (aQ 0) XW ++ (pP g aP XP ++ (pP g aQ XQ))))) U.heap ∧ KW g U)) (vp_Si (fun r' => r' = r ∧ True)) 0 0 (fun _ => False) := by
  refine Met.ofW (cc := cX5_word) (maxL := 3) (ret := (some .int)) (by decide) rfl ?_
  intro p e s m args below meth c s₁ B hml hv
  obtain ⟨hargs, hP, hKW⟩ := hv
  have hK := hKW.1
  have hx := B.exec
  have hb := B.bytes
  have hr := B.returns
  have hts := atoms_spec (ws := wsX5_word) B.pre
  have hown : s.vm.findClass RX5 = some m.cls := findClass_of_methodNamed B.named
  have hlocks := B.notSynchronized
  have i_X5 : ∀ w ∈ wsX50, w ∈ wsX5_word := fun w h => List.mem_cons_of_mem _ (List.mem_append_left _ (List.mem_append_left _ (List.mem_append_left _ (List.mem_append_right _ h))))
  have i_X4 : ∀ w ∈ wsX40, w ∈ wsX5_word := fun w h => List.mem_cons_of_mem _ (List.mem_append_left _ (List.mem_append_left _ (List.mem_append_right _ h)))
  have i_X2 : ∀ w ∈ wsX20, w ∈ wsX5_word := fun w h => List.mem_cons_of_mem _ (List.mem_append_left _ (List.mem_append_right _ h))
  have i_X3 : ∀ w ∈ wsX30, w ∈ wsX5_word := fun w h => List.mem_cons_of_mem _ (List.mem_append_right _ h)
  have hent : entryFrame m args 3 = F0 m 0 ((lg_sl ([.ref (aF 0), .int p1, .int p2]) ++ List.replicate (3 - (lg_sl ([.ref (aF 0), .int p1, .int p2])).length) Slot.unset).toArray) [] := by rw [hargs]; exact lg_entry_eq _ _ _
  rw [hent]
  have hl := lv_entry ([.ref (aF 0), .int p1, .int p2]) (n := 3) (Nat.le_of_ble_eq_true rfl)
  generalize (lg_sl ([.ref (aF 0), .int p1, .int p2]) ++ List.replicate (3 - (lg_sl ([.ref (aF 0), .int p1, .int p2])).length) Slot.unset).toArray = ls at hl ⊢
  have hl : lv_has ls 3 [(0, .ref (aF 0)), (1, .int p1), (2, .int p2)] := hl
  generalize hQ0 : MQ below _ _ _ _ _ _ = Q0
  unfold fX5_word at hf
  refine lv_aload_n hx hb dX5_word_0 rfl (lv_at hl 0 rfl) ?_
  refine va_get (D := g.1) (ci := 5) (v := .ref (aW 0)) (C := RX5) (T := TX5) (N := 6) hx hb hts i_X5 hown hK hP 0 rfl rfl 0 (by decide) (hts (.fieldLink RX5 10 "WordFlasher" "words" "LWordFlasher$Words;") (List.mem_of_getElem? (i := 1) rfl)) (fun _ h9 => h9) rfl dX5_word_1 ?_
  refine lv_iload_n hx hb dX5_word_4 rfl (lv_at hl 1 rfl) ?_
  obtain ⟨r1, h2, hf⟩ := bnd_el hf
  refine rdV (As := [.int p1]) (rest := []) ⟨hx, hb, hml, hown, hts⟩ (c_X4_has l g aW aP aQ _ _ _ h2) (cwV 1 hts gX5_word_X4_has rfl rfl rfl (by decide +kernel) ⟨Nat.le_of_ble_eq_true rfl, Nat.le_of_ble_eq_true rfl⟩) hKW hP [9, 10, 11, 12, 13, 14, 15] rfl (va_recv hK hP (ci := 4) (q0 := 9) rfl rfl) rfl hl.1 rfl (lv_room (Nat.le_of_ble_eq_true rfl)) dX5_word_5 ⟨Nat.zero_le _, Nat.zero_le _⟩ (fun r3 q4 => ?_)
  obtain ⟨q4, nb5⟩ := q4
  refine lv_as q4.symm ?_
  rw [q4] at nb5
  refine lv_if_eq (tgt := 21) hx hb dX5_word_8 (by decide) (fun c6 => ?_) (fun c6 => ?_)
  · have hf := ite_t hf c6
    refine lv_iconst (v := (-1)) hx hb dX5_word_21 (by decide) ?_
    have er0 := Option.some.inj hf
    rw [← hQ0]; exact W.iret (v := (-1)) hx hb hr (fun t ht hW => ⟨(-1), rfl, ⟨er0, trivial⟩, ht⟩) (fun q h => by cases h) dX5_word_22
  · have hf := ite_f hf c6
    refine lv_iload_n hx hb dX5_word_11 rfl (lv_at hl 2 rfl) ?_
    refine lv_if_lt (tgt := 21) hx hb dX5_word_12 (by decide) (fun c7 => ?_) (fun c7 => ?_)
    · have hf := ite_t hf c7
      refine lv_iconst (v := (-1)) hx hb dX5_word_21 (by decide) ?_
      have er0 := Option.some.inj hf
      rw [← hQ0]; exact W.iret (v := (-1)) hx hb hr (fun t ht hW => ⟨(-1), rfl, ⟨er0, trivial⟩, ht⟩) (fun q h => by cases h) dX5_word_22
    · have hf := ite_f hf c7
      refine lv_iload_n hx hb dX5_word_15 rfl (lv_at hl 2 rfl) ?_
      refine lv_bipush (v := 11) hx hb dX5_word_16 (by decide) ?_
      refine lv_icmp_lt (tgt := 23) hx hb dX5_word_18 (by decide) (fun c8 => ?_) (fun c8 => ?_)
      · have hf := ite_t hf c8
        refine lv_iload_n hx hb dX5_word_23 rfl (lv_at hl 2 rfl) ?_
        by_cases c9 : p2 = 0
        · have hf := ite_t hf c9
          refine lv_tableIn (tgt := 80) (off := 56) hx hb dX5_word_24 (by rw [c9]; decide) (by rw [c9]; decide) (by rw [c9]; rfl) (by decide) ?_
          refine lv_aload_n hx hb dX5_word_80 rfl (lv_at hl 0 rfl) ?_
          refine va_get (D := g.1) (ci := 5) (v := .ref (aW 0)) (C := RX5) (T := TX5) (N := 6) hx hb hts i_X5 hown hK hP 0 rfl rfl 0 (by decide) (hts (.fieldLink RX5 10 "WordFlasher" "words" "LWordFlasher$Words;") (List.mem_of_getElem? (i := 1) rfl)) (fun _ h9 => h9) rfl dX5_word_81 ?_
          refine va_get (D := g.1) (ci := 4) (v := .ref (aW 1)) (C := RX4) (T := TX4) (N := 9) hx hb hts i_X4 hown hK hP 9 rfl rfl 0 (by decide) (hts (.fieldLink RX5 75 "WordFlasher$Words" "starts" "[I") (List.mem_of_getElem? (i := 2) rfl)) (fun _ h9 => h9) rfl dX5_word_84 ?_
          refine lv_iload_n hx hb dX5_word_87 rfl (lv_at hl 1 rfl) ?_
          obtain ⟨r10, h11, hf⟩ := bnd_el hf
          refine rdS (As := [.ref (aW 1), .int p1]) (rest := []) ⟨hx, hb, hml, hown, hts⟩ (c_X5_at l g (aW 1) 150 _ _ _ h11) (va_cwS 2 hts gX5_word_X5_at rfl rfl rfl (by decide +kernel) ⟨Nat.le_of_ble_eq_true rfl, Nat.le_of_ble_eq_true rfl⟩) hKW hP [10] rfl rfl hl.1 rfl (lv_room (Nat.le_of_ble_eq_true rfl)) dX5_word_88 ⟨Nat.zero_le _, Nat.zero_le _⟩ (fun r12 q13 => ?_)
          obtain ⟨q13, nb14⟩ := q13
          refine lv_as q13.symm ?_
          have er0 := Option.some.inj hf
          rw [← hQ0]; exact W.iret (v := r10) hx hb hr (fun t ht hW => ⟨r10, rfl, ⟨er0, trivial⟩, ht⟩) (fun q h => by cases h) dX5_word_91
        have hf := ite_f hf c9
        have q15 := i32_nk (z := 0) (by decide) c9
        by_cases c16 : p2 = 1
        · have hf := ite_t hf c16
          refine lv_tableIn (tgt := 92) (off := 68) hx hb dX5_word_24 (by rw [c16]; decide) (by rw [c16]; decide) (by rw [c16]; rfl) (by decide) ?_
          refine lv_aload_n hx hb dX5_word_92 rfl (lv_at hl 0 rfl) ?_
          refine va_get (D := g.1) (ci := 5) (v := .ref (aW 0)) (C := RX5) (T := TX5) (N := 6) hx hb hts i_X5 hown hK hP 0 rfl rfl 0 (by decide) (hts (.fieldLink RX5 10 "WordFlasher" "words" "LWordFlasher$Words;") (List.mem_of_getElem? (i := 1) rfl)) (fun _ h9 => h9) rfl dX5_word_93 ?_
          refine va_get (D := g.1) (ci := 4) (v := .ref (aW 2)) (C := RX4) (T := TX4) (N := 9) hx hb hts i_X4 hown hK hP 9 rfl rfl 1 (by decide) (hts (.fieldLink RX5 82 "WordFlasher$Words" "sizes" "[I") (List.mem_of_getElem? (i := 3) rfl)) (fun _ h9 => h9) rfl dX5_word_96 ?_
          refine lv_iload_n hx hb dX5_word_99 rfl (lv_at hl 1 rfl) ?_
          obtain ⟨r17, h18, hf⟩ := bnd_el hf
          refine rdS (As := [.ref (aW 2), .int p1]) (rest := []) ⟨hx, hb, hml, hown, hts⟩ (c_X5_at l g (aW 2) 150 _ _ _ h18) (va_cwS 2 hts gX5_word_X5_at rfl rfl rfl (by decide +kernel) ⟨Nat.le_of_ble_eq_true rfl, Nat.le_of_ble_eq_true rfl⟩) hKW hP [11] rfl rfl hl.1 rfl (lv_room (Nat.le_of_ble_eq_true rfl)) dX5_word_100 ⟨Nat.zero_le _, Nat.zero_le _⟩ (fun r19 q20 => ?_)
          obtain ⟨q20, nb21⟩ := q20
          refine lv_as q20.symm ?_
          have er0 := Option.some.inj hf
          rw [← hQ0]; exact W.iret (v := r17) hx hb hr (fun t ht hW => ⟨r17, rfl, ⟨er0, trivial⟩, ht⟩) (fun q h => by cases h) dX5_word_103
        have hf := ite_f hf c16
        have q22 := i32_nk (z := 1) (by decide) c16
        by_cases c23 : p2 = 2
        · have hf := ite_t hf c23
          refine lv_tableIn (tgt := 104) (off := 80) hx hb dX5_word_24 (by rw [c23]; decide) (by rw [c23]; decide) (by rw [c23]; rfl) (by decide) ?_
          refine lv_aload_n hx hb dX5_word_104 rfl (lv_at hl 0 rfl) ?_
          refine va_get (D := g.1) (ci := 5) (v := .ref (aW 0)) (C := RX5) (T := TX5) (N := 6) hx hb hts i_X5 hown hK hP 0 rfl rfl 0 (by decide) (hts (.fieldLink RX5 10 "WordFlasher" "words" "LWordFlasher$Words;") (List.mem_of_getElem? (i := 1) rfl)) (fun _ h9 => h9) rfl dX5_word_105 ?_
          refine va_get (D := g.1) (ci := 4) (v := .ref (aW 3)) (C := RX4) (T := TX4) (N := 9) hx hb hts i_X4 hown hK hP 9 rfl rfl 2 (by decide) (hts (.fieldLink RX5 85 "WordFlasher$Words" "lengths" "[I") (List.mem_of_getElem? (i := 4) rfl)) (fun _ h9 => h9) rfl dX5_word_108 ?_
          refine lv_iload_n hx hb dX5_word_111 rfl (lv_at hl 1 rfl) ?_
          obtain ⟨r24, h25, hf⟩ := bnd_el hf
          refine rdS (As := [.ref (aW 3), .int p1]) (rest := []) ⟨hx, hb, hml, hown, hts⟩ (c_X5_at l g (aW 3) 150 _ _ _ h25) (va_cwS 2 hts gX5_word_X5_at rfl rfl rfl (by decide +kernel) ⟨Nat.le_of_ble_eq_true rfl, Nat.le_of_ble_eq_true rfl⟩) hKW hP [12] rfl rfl hl.1 rfl (lv_room (Nat.le_of_ble_eq_true rfl)) dX5_word_112 ⟨Nat.zero_le _, Nat.zero_le _⟩ (fun r26 q27 => ?_)
          obtain ⟨q27, nb28⟩ := q27
          refine lv_as q27.symm ?_
          have er0 := Option.some.inj hf
          rw [← hQ0]; exact W.iret (v := r24) hx hb hr (fun t ht hW => ⟨r24, rfl, ⟨er0, trivial⟩, ht⟩) (fun q h => by cases h) dX5_word_115
        have hf := ite_f hf c23
        have q29 := i32_nk (z := 2) (by decide) c23
        by_cases c30 : p2 = 3
        · have hf := ite_t hf c30
          refine lv_tableIn (tgt := 116) (off := 92) hx hb dX5_word_24 (by rw [c30]; decide) (by rw [c30]; decide) (by rw [c30]; rfl) (by decide) ?_
          refine lv_aload_n hx hb dX5_word_116 rfl (lv_at hl 0 rfl) ?_
          refine va_get (D := g.1) (ci := 5) (v := .ref (aW 0)) (C := RX5) (T := TX5) (N := 6) hx hb hts i_X5 hown hK hP 0 rfl rfl 0 (by decide) (hts (.fieldLink RX5 10 "WordFlasher" "words" "LWordFlasher$Words;") (List.mem_of_getElem? (i := 1) rfl)) (fun _ h9 => h9) rfl dX5_word_117 ?_
          refine lv_iload_n hx hb dX5_word_120 rfl (lv_at hl 1 rfl) ?_
          obtain ⟨r31, h32, hf⟩ := bnd_el hf
          refine rdV (As := [.int p1]) (rest := []) ⟨hx, hb, hml, hown, hts⟩ (c_X4_classOf l g aW aP aQ _ _ _ h32) (cwV 1 hts gX5_word_X4_classOf rfl rfl rfl (by decide +kernel) ⟨Nat.le_of_ble_eq_true rfl, Nat.le_of_ble_eq_true rfl⟩) hKW hP [9, 10, 11, 12, 13, 14, 15] rfl (va_recv hK hP (ci := 4) (q0 := 9) rfl rfl) rfl hl.1 rfl (lv_room (Nat.le_of_ble_eq_true rfl)) dX5_word_121 ⟨Nat.zero_le _, Nat.zero_le _⟩ (fun r33 q34 => ?_)
          obtain ⟨q34, nb35⟩ := q34
          refine lv_as q34.symm ?_
          have er0 := Option.some.inj hf
          rw [← hQ0]; exact W.iret (v := r31) hx hb hr (fun t ht hW => ⟨r31, rfl, ⟨er0, trivial⟩, ht⟩) (fun q h => by cases h) dX5_word_124
        have hf := ite_f hf c30
        have q36 := i32_nk (z := 3) (by decide) c30
        by_cases c37 : p2 = 4
        · have hf := ite_t hf c37
          refine lv_tableIn (tgt := 125) (off := 101) hx hb dX5_word_24 (by rw [c37]; decide) (by rw [c37]; decide) (by rw [c37]; rfl) (by decide) ?_
          refine lv_aload_n hx hb dX5_word_125 rfl (lv_at hl 0 rfl) ?_
          refine va_get (D := g.1) (ci := 5) (v := .ref (aW 0)) (C := RX5) (T := TX5) (N := 6) hx hb hts i_X5 hown hK hP 0 rfl rfl 0 (by decide) (hts (.fieldLink RX5 10 "WordFlasher" "words" "LWordFlasher$Words;") (List.mem_of_getElem? (i := 1) rfl)) (fun _ h9 => h9) rfl dX5_word_126 ?_
          refine va_get (D := g.1) (ci := 4) (v := .ref (aW 4)) (C := RX4) (T := TX4) (N := 9) hx hb hts i_X4 hown hK hP 9 rfl rfl 3 (by decide) (hts (.fieldLink RX5 92 "WordFlasher$Words" "closings" "[I") (List.mem_of_getElem? (i := 5) rfl)) (fun _ h9 => h9) rfl dX5_word_129 ?_
          refine lv_iload_n hx hb dX5_word_132 rfl (lv_at hl 1 rfl) ?_
          obtain ⟨r38, h39, hf⟩ := bnd_el hf
          refine rdS (As := [.ref (aW 4), .int p1]) (rest := []) ⟨hx, hb, hml, hown, hts⟩ (c_X5_at l g (aW 4) 150 _ _ _ h39) (va_cwS 2 hts gX5_word_X5_at rfl rfl rfl (by decide +kernel) ⟨Nat.le_of_ble_eq_true rfl, Nat.le_of_ble_eq_true rfl⟩) hKW hP [13] rfl rfl hl.1 rfl (lv_room (Nat.le_of_ble_eq_true rfl)) dX5_word_133 ⟨Nat.zero_le _, Nat.zero_le _⟩ (fun r40 q41 => ?_)
          obtain ⟨q41, nb42⟩ := q41
          refine lv_as q41.symm ?_
          have er0 := Option.some.inj hf
          rw [← hQ0]; exact W.iret (v := r38) hx hb hr (fun t ht hW => ⟨r38, rfl, ⟨er0, trivial⟩, ht⟩) (fun q h => by cases h) dX5_word_136
        have hf := ite_f hf c37
        have q43 := i32_nk (z := 4) (by decide) c37
        by_cases c44 : p2 = 5
        · have hf := ite_t hf c44
          refine lv_tableIn (tgt := 137) (off := 113) hx hb dX5_word_24 (by rw [c44]; decide) (by rw [c44]; decide) (by rw [c44]; rfl) (by decide) ?_
          refine lv_aload_n hx hb dX5_word_137 rfl (lv_at hl 0 rfl) ?_
          refine va_get (D := g.1) (ci := 5) (v := .ref (aW 0)) (C := RX5) (T := TX5) (N := 6) hx hb hts i_X5 hown hK hP 0 rfl rfl 0 (by decide) (hts (.fieldLink RX5 10 "WordFlasher" "words" "LWordFlasher$Words;") (List.mem_of_getElem? (i := 1) rfl)) (fun _ h9 => h9) rfl dX5_word_138 ?_
          refine va_get (D := g.1) (ci := 4) (v := .ref (aP 0)) (C := RX4) (T := TX4) (N := 9) hx hb hts i_X4 hown hK hP 9 rfl rfl 6 (by decide) (hts (.fieldLink RX5 95 "WordFlasher$Words" "sentences" "LWordFlasher$Spans;") (List.mem_of_getElem? (i := 6) rfl)) (fun _ h9 => h9) rfl dX5_word_141 ?_
          refine va_get (D := g.1) (ci := 2) (v := .ref (aP 3)) (C := RX2) (T := TX2) (N := 4) hx hb hts i_X2 hown hK hP 16 rfl rfl 2 (by decide) (hts (.fieldLink RX5 99 "WordFlasher$Spans" "numbers" "[I") (List.mem_of_getElem? (i := 7) rfl)) (fun _ h9 => h9) rfl dX5_word_144 ?_
          refine lv_iload_n hx hb dX5_word_147 rfl (lv_at hl 1 rfl) ?_
          obtain ⟨r45, h46, hf⟩ := bnd_el hf
          refine rdS (As := [.ref (aP 3), .int p1]) (rest := []) ⟨hx, hb, hml, hown, hts⟩ (c_X5_at l g (aP 3) 150 _ _ _ h46) (va_cwS 2 hts gX5_word_X5_at rfl rfl rfl (by decide +kernel) ⟨Nat.le_of_ble_eq_true rfl, Nat.le_of_ble_eq_true rfl⟩) hKW hP [19] rfl rfl hl.1 rfl (lv_room (Nat.le_of_ble_eq_true rfl)) dX5_word_148 ⟨Nat.zero_le _, Nat.zero_le _⟩ (fun r47 q48 => ?_)
          obtain ⟨q48, nb49⟩ := q48
          refine lv_as q48.symm ?_
          have er0 := Option.some.inj hf
          rw [← hQ0]; exact W.iret (v := r45) hx hb hr (fun t ht hW => ⟨r45, rfl, ⟨er0, trivial⟩, ht⟩) (fun q h => by cases h) dX5_word_151
        have hf := ite_f hf c44
        have q50 := i32_nk (z := 5) (by decide) c44
        by_cases c51 : p2 = 6
        · have hf := ite_t hf c51
          refine lv_tableIn (tgt := 152) (off := 128) hx hb dX5_word_24 (by rw [c51]; decide) (by rw [c51]; decide) (by rw [c51]; rfl) (by decide) ?_
          refine lv_aload_n hx hb dX5_word_152 rfl (lv_at hl 0 rfl) ?_
          refine va_get (D := g.1) (ci := 5) (v := .ref (aW 0)) (C := RX5) (T := TX5) (N := 6) hx hb hts i_X5 hown hK hP 0 rfl rfl 0 (by decide) (hts (.fieldLink RX5 10 "WordFlasher" "words" "LWordFlasher$Words;") (List.mem_of_getElem? (i := 1) rfl)) (fun _ h9 => h9) rfl dX5_word_153 ?_
          refine va_get (D := g.1) (ci := 4) (v := .ref (aQ 0)) (C := RX4) (T := TX4) (N := 9) hx hb hts i_X4 hown hK hP 9 rfl rfl 7 (by decide) (hts (.fieldLink RX5 104 "WordFlasher$Words" "pages" "LWordFlasher$Spans;") (List.mem_of_getElem? (i := 8) rfl)) (fun _ h9 => h9) rfl dX5_word_156 ?_
          refine va_get (D := g.1) (ci := 2) (v := .ref (aQ 3)) (C := RX2) (T := TX2) (N := 4) hx hb hts i_X2 hown hK hP 20 rfl rfl 2 (by decide) (hts (.fieldLink RX5 99 "WordFlasher$Spans" "numbers" "[I") (List.mem_of_getElem? (i := 7) rfl)) (fun _ h9 => h9) rfl dX5_word_159 ?_
          refine lv_iload_n hx hb dX5_word_162 rfl (lv_at hl 1 rfl) ?_
          obtain ⟨r52, h53, hf⟩ := bnd_el hf
          refine rdS (As := [.ref (aQ 3), .int p1]) (rest := []) ⟨hx, hb, hml, hown, hts⟩ (c_X5_at l g (aQ 3) 150 _ _ _ h53) (va_cwS 2 hts gX5_word_X5_at rfl rfl rfl (by decide +kernel) ⟨Nat.le_of_ble_eq_true rfl, Nat.le_of_ble_eq_true rfl⟩) hKW hP [23] rfl rfl hl.1 rfl (lv_room (Nat.le_of_ble_eq_true rfl)) dX5_word_163 ⟨Nat.zero_le _, Nat.zero_le _⟩ (fun r54 q55 => ?_)
          obtain ⟨q55, nb56⟩ := q55
          refine lv_as q55.symm ?_
          have er0 := Option.some.inj hf
          rw [← hQ0]; exact W.iret (v := r52) hx hb hr (fun t ht hW => ⟨r52, rfl, ⟨er0, trivial⟩, ht⟩) (fun q h => by cases h) dX5_word_166
        have hf := ite_f hf c51
        have q57 := i32_nk (z := 6) (by decide) c51
        by_cases c58 : p2 = 7
        · have hf := ite_t hf c58
          refine lv_tableIn (tgt := 167) (off := 143) hx hb dX5_word_24 (by rw [c58]; decide) (by rw [c58]; decide) (by rw [c58]; rfl) (by decide) ?_
          refine lv_aload_n hx hb dX5_word_167 rfl (lv_at hl 0 rfl) ?_
          refine va_get (D := g.1) (ci := 5) (v := .ref (aN 0)) (C := RX5) (T := TX5) (N := 6) hx hb hts i_X5 hown hK hP 0 rfl rfl 1 (by decide) (hts (.fieldLink RX5 21 "WordFlasher" "now" "LWordFlasher$State;") (List.mem_of_getElem? (i := 9) rfl)) (fun _ h9 => h9) rfl dX5_word_168 ?_
          refine lv_iload_n hx hb dX5_word_171 rfl (lv_at hl 1 rfl) ?_
          obtain ⟨r59, h60, hf⟩ := bnd_el hf
          refine rdV (As := [.int p1]) (rest := []) ⟨hx, hb, hml, hown, hts⟩ (c_X3_measureOf l g aN aW aP aQ _ _ _ _ h60) (cwV 1 hts gX5_word_X3_measureOf rfl rfl rfl (by decide +kernel) ⟨Nat.le_of_ble_eq_true rfl, Nat.le_of_ble_eq_true rfl⟩) hKW hP [2, 3, 4, 5, 6, 7, 8, 9, 10, 11, 12, 13, 14, 15] rfl (va_recv hK hP (ci := 3) (q0 := 2) rfl rfl) rfl hl.1 rfl (lv_room (Nat.le_of_ble_eq_true rfl)) dX5_word_172 ⟨Nat.zero_le _, Nat.zero_le _⟩ (fun r61 q62 => ?_)
          obtain ⟨q62, nb63⟩ := q62
          refine lv_as q62.symm ?_
          have er0 := Option.some.inj hf
          rw [← hQ0]; exact W.iret (v := r59) hx hb hr (fun t ht hW => ⟨r59, rfl, ⟨er0, trivial⟩, ht⟩) (fun q h => by cases h) dX5_word_175
        have hf := ite_f hf c58
        have q64 := i32_nk (z := 7) (by decide) c58
        by_cases c65 : p2 = 8
        · have hf := ite_t hf c65
          refine lv_tableIn (tgt := 176) (off := 152) hx hb dX5_word_24 (by rw [c65]; decide) (by rw [c65]; decide) (by rw [c65]; rfl) (by decide) ?_
          refine lv_aload_n hx hb dX5_word_176 rfl (lv_at hl 0 rfl) ?_
          refine va_get (D := g.1) (ci := 5) (v := .ref (aN 0)) (C := RX5) (T := TX5) (N := 6) hx hb hts i_X5 hown hK hP 0 rfl rfl 1 (by decide) (hts (.fieldLink RX5 21 "WordFlasher" "now" "LWordFlasher$State;") (List.mem_of_getElem? (i := 9) rfl)) (fun _ h9 => h9) rfl dX5_word_177 ?_
          refine lv_iload_n hx hb dX5_word_180 rfl (lv_at hl 1 rfl) ?_
          obtain ⟨r66, h67, hf⟩ := bnd_el hf
          refine rdV (As := [.int p1]) (rest := []) ⟨hx, hb, hml, hown, hts⟩ (c_X3_timeOf l g aN aW aP aQ _ _ _ _ h67) (cwV 1 hts gX5_word_X3_timeOf rfl rfl rfl (by decide +kernel) ⟨Nat.le_of_ble_eq_true rfl, Nat.le_of_ble_eq_true rfl⟩) hKW hP [2, 3, 4, 5, 6, 7, 8, 9, 10, 11, 12, 13, 14, 15] rfl (va_recv hK hP (ci := 3) (q0 := 2) rfl rfl) rfl hl.1 rfl (lv_room (Nat.le_of_ble_eq_true rfl)) dX5_word_181 ⟨Nat.zero_le _, Nat.zero_le _⟩ (fun r68 q69 => ?_)
          obtain ⟨q69, nb70⟩ := q69
          refine lv_as q69.symm ?_
          have er0 := Option.some.inj hf
          rw [← hQ0]; exact W.iret (v := r66) hx hb hr (fun t ht hW => ⟨r66, rfl, ⟨er0, trivial⟩, ht⟩) (fun q h => by cases h) dX5_word_184
        have hf := ite_f hf c65
        have q71 := i32_nk (z := 8) (by decide) c65
        by_cases c72 : p2 = 9
        · have hf := ite_t hf c72
          refine lv_tableIn (tgt := 185) (off := 161) hx hb dX5_word_24 (by rw [c72]; decide) (by rw [c72]; decide) (by rw [c72]; rfl) (by decide) ?_
          refine lv_aload_n hx hb dX5_word_185 rfl (lv_at hl 0 rfl) ?_
          refine va_get (D := g.1) (ci := 5) (v := .ref (aN 0)) (C := RX5) (T := TX5) (N := 6) hx hb hts i_X5 hown hK hP 0 rfl rfl 1 (by decide) (hts (.fieldLink RX5 21 "WordFlasher" "now" "LWordFlasher$State;") (List.mem_of_getElem? (i := 9) rfl)) (fun _ h9 => h9) rfl dX5_word_186 ?_
          refine va_get (D := g.1) (ci := 3) (v := .ref (aN 4)) (C := RX3) (T := TX3) (N := 15) hx hb hts i_X3 hown hK hP 2 rfl rfl 5 (by decide) (hts (.fieldLink RX5 113 "WordFlasher$State" "notes" "[I") (List.mem_of_getElem? (i := 10) rfl)) (fun _ h9 => h9) rfl dX5_word_189 ?_
          refine lv_iload_n hx hb dX5_word_192 rfl (lv_at hl 1 rfl) ?_
          obtain ⟨r73, h74, hf⟩ := bnd_el hf
          refine rdS (As := [.ref (aN 4), .int p1]) (rest := []) ⟨hx, hb, hml, hown, hts⟩ (c_X5_at l g (aN 4) 150 _ _ _ h74) (va_cwS 2 hts gX5_word_X5_at rfl rfl rfl (by decide +kernel) ⟨Nat.le_of_ble_eq_true rfl, Nat.le_of_ble_eq_true rfl⟩) hKW hP [6] rfl rfl hl.1 rfl (lv_room (Nat.le_of_ble_eq_true rfl)) dX5_word_193 ⟨Nat.zero_le _, Nat.zero_le _⟩ (fun r75 q76 => ?_)
          obtain ⟨q76, nb77⟩ := q76
          refine lv_as q76.symm ?_
          have er0 := Option.some.inj hf
          rw [← hQ0]; exact W.iret (v := r73) hx hb hr (fun t ht hW => ⟨r73, rfl, ⟨er0, trivial⟩, ht⟩) (fun q h => by cases h) dX5_word_196
        have hf := ite_f hf c72
        have q78 := i32_nk (z := 9) (by decide) c72
        refine lv_tableOut (tgt := 197) hx hb dX5_word_24 (by omega) (by decide) ?_
        refine lv_aload_n hx hb dX5_word_197 rfl (lv_at hl 0 rfl) ?_
        refine va_get (D := g.1) (ci := 5) (v := .ref (aW 0)) (C := RX5) (T := TX5) (N := 6) hx hb hts i_X5 hown hK hP 0 rfl rfl 0 (by decide) (hts (.fieldLink RX5 10 "WordFlasher" "words" "LWordFlasher$Words;") (List.mem_of_getElem? (i := 1) rfl)) (fun _ h9 => h9) rfl dX5_word_198 ?_
        refine va_get (D := g.1) (ci := 4) (v := .ref (aW 6)) (C := RX4) (T := TX4) (N := 9) hx hb hts i_X4 hown hK hP 9 rfl rfl 5 (by decide) (hts (.fieldLink RX5 116 "WordFlasher$Words" "spots" "[I") (List.mem_of_getElem? (i := 11) rfl)) (fun _ h9 => h9) rfl dX5_word_201 ?_
        refine lv_iload_n hx hb dX5_word_204 rfl (lv_at hl 1 rfl) ?_
        obtain ⟨r79, h80, hf⟩ := bnd_el hf
        refine rdS (As := [.ref (aW 6), .int p1]) (rest := []) ⟨hx, hb, hml, hown, hts⟩ (c_X5_at l g (aW 6) 150 _ _ _ h80) (va_cwS 2 hts gX5_word_X5_at rfl rfl rfl (by decide +kernel) ⟨Nat.le_of_ble_eq_true rfl, Nat.le_of_ble_eq_true rfl⟩) hKW hP [15] rfl rfl hl.1 rfl (lv_room (Nat.le_of_ble_eq_true rfl)) dX5_word_205 ⟨Nat.zero_le _, Nat.zero_le _⟩ (fun r81 q82 => ?_)
        obtain ⟨q82, nb83⟩ := q82
        refine lv_as q82.symm ?_
        have er0 := Option.some.inj hf
        rw [← hQ0]; exact W.iret (v := r79) hx hb hr (fun t ht hW => ⟨r79, rfl, ⟨er0, trivial⟩, ht⟩) (fun q h => by cases h) dX5_word_208
      · have hf := ite_f hf c8
        refine lv_iconst (v := (-1)) hx hb dX5_word_21 (by decide) ?_
        have er0 := Option.some.inj hf
        rw [← hQ0]; exact W.iret (v := (-1)) hx hb hr (fun t ht hW => ⟨(-1), rfl, ⟨er0, trivial⟩, ht⟩) (fun q h => by cases h) dX5_word_22
abbrev rmX5_sentence : Room := { frames := 6, cells := 0, slots := 0, locals := 135 }
set_option maxHeartbeats 8000000 in
set_option maxRecDepth 100000 in
theorem c_X5_sentence (l : Launch) (g : GG) (aF : Nat → Nat) (aN : Nat → Nat) (aA : Nat → Nat) (aW : Nat → Nat) (aP : Nat → Nat) (aQ : Nat → Nat) (aO : Nat → Nat) (aH : Nat → Nat) (aB : Nat → Nat → Nat) (n : Nat) (XF : DM) (XN : DM) (XW : DM) (XP : DM) (p1 p2 : Int32) (r : Int32) (hf : fX5_sentence n XF XN XW XP p1 p2 = some r) : Met l yX5_sentence wsX5_sentence rmX5_sentence (va_Pc [.ref (aF 0), .int p1, .int p2] (fun U => va_P g.1 vwCl (pF g aF (aW 0) (aN 0) (aA 0) (aH 0) (aO 0) XF ++ (pS g aN (aW 0) XN ++ (pW g aW (aP 0) (aQ 0) XW ++ (pP g aP XP)))) U.heap ∧ KW g U)) (vp_Si (fun r' => r' = r ∧ True)) 0 0 (fun _ => False) := by
  refine Met.ofW (cc := cX5_sentence) (maxL := 5) (ret := (some .int)) (by decide) rfl ?_
  intro p e s m args below meth c s₁ B hml hv
  obtain ⟨hargs, hP, hKW⟩ := hv
  have hK := hKW.1
  have hx := B.exec
  have hb := B.bytes
  have hr := B.returns
  have hts := atoms_spec (ws := wsX5_sentence) B.pre
  have hown : s.vm.findClass RX5 = some m.cls := findClass_of_methodNamed B.named
  have hlocks := B.notSynchronized
  have i_X5 : ∀ w ∈ wsX50, w ∈ wsX5_sentence := fun w h => List.mem_cons_of_mem _ (List.mem_append_left _ (List.mem_append_left _ (List.mem_append_left _ (List.mem_append_right _ h))))
  have i_X4 : ∀ w ∈ wsX40, w ∈ wsX5_sentence := fun w h => List.mem_cons_of_mem _ (List.mem_append_left _ (List.mem_append_left _ (List.mem_append_right _ h)))
  have i_X2 : ∀ w ∈ wsX20, w ∈ wsX5_sentence := fun w h => List.mem_cons_of_mem _ (List.mem_append_left _ (List.mem_append_right _ h))
  have i_X3 : ∀ w ∈ wsX30, w ∈ wsX5_sentence := fun w h => List.mem_cons_of_mem _ (List.mem_append_right _ h)
  have hent : entryFrame m args 5 = F0 m 0 ((lg_sl ([.ref (aF 0), .int p1, .int p2]) ++ List.replicate (5 - (lg_sl ([.ref (aF 0), .int p1, .int p2])).length) Slot.unset).toArray) [] := by rw [hargs]; exact lg_entry_eq _ _ _
  rw [hent]
  have hl := lv_entry ([.ref (aF 0), .int p1, .int p2]) (n := 5) (Nat.le_of_ble_eq_true rfl)
  generalize (lg_sl ([.ref (aF 0), .int p1, .int p2]) ++ List.replicate (5 - (lg_sl ([.ref (aF 0), .int p1, .int p2])).length) Slot.unset).toArray = ls at hl ⊢
  have hl : lv_has ls 5 [(0, .ref (aF 0)), (1, .int p1), (2, .int p2)] := hl
  generalize hQ0 : MQ below _ _ _ _ _ _ = Q0
  unfold fX5_sentence at hf
  refine lv_aload_n hx hb dX5_sentence_0 rfl (lv_at hl 0 rfl) ?_
  refine va_get (D := g.1) (ci := 5) (v := .ref (aW 0)) (C := RX5) (T := TX5) (N := 6) hx hb hts i_X5 hown hK hP 0 rfl rfl 0 (by decide) (hts (.fieldLink RX5 10 "WordFlasher" "words" "LWordFlasher$Words;") (List.mem_of_getElem? (i := 1) rfl)) (fun _ h9 => h9) rfl dX5_sentence_1 ?_
  refine va_get (D := g.1) (ci := 4) (v := .ref (aP 0)) (C := RX4) (T := TX4) (N := 9) hx hb hts i_X4 hown hK hP 9 rfl rfl 6 (by decide) (hts (.fieldLink RX5 95 "WordFlasher$Words" "sentences" "LWordFlasher$Spans;") (List.mem_of_getElem? (i := 2) rfl)) (fun _ h9 => h9) rfl dX5_sentence_4 ?_
  refine lv_iload_n hx hb dX5_sentence_7 rfl (lv_at hl 1 rfl) ?_
  obtain ⟨r1, h2, hf⟩ := bnd_el hf
  refine rdV (As := [.int p1]) (rest := []) ⟨hx, hb, hml, hown, hts⟩ (c_X2_has l g aP _ _ _ h2) (cwV 1 hts gX5_sentence_X2_has rfl rfl rfl (by decide +kernel) ⟨Nat.le_of_ble_eq_true rfl, Nat.le_of_ble_eq_true rfl⟩) hKW hP [16, 17, 18, 19] rfl (va_recv hK hP (ci := 2) (q0 := 16) rfl rfl) rfl hl.1 rfl (lv_room (Nat.le_of_ble_eq_true rfl)) dX5_sentence_8 ⟨Nat.zero_le _, Nat.zero_le _⟩ (fun r3 q4 => ?_)
  obtain ⟨q4, nb5⟩ := q4
  refine lv_as q4.symm ?_
  rw [q4] at nb5
  refine lv_if_eq (tgt := 23) hx hb dX5_sentence_11 (by decide) (fun c6 => ?_) (fun c6 => ?_)
  · have hf := ite_t hf c6
    refine lv_iconst (v := (-1)) hx hb dX5_sentence_23 (by decide) ?_
    have er0 := Option.some.inj hf
    rw [← hQ0]; exact W.iret (v := (-1)) hx hb hr (fun t ht hW => ⟨(-1), rfl, ⟨er0, trivial⟩, ht⟩) (fun q h => by cases h) dX5_sentence_24
  · have hf := ite_f hf c6
    refine lv_iload_n hx hb dX5_sentence_14 rfl (lv_at hl 2 rfl) ?_
    refine lv_if_lt (tgt := 23) hx hb dX5_sentence_15 (by decide) (fun c7 => ?_) (fun c7 => ?_)
    · have hf := ite_t hf c7
      refine lv_iconst (v := (-1)) hx hb dX5_sentence_23 (by decide) ?_
      have er0 := Option.some.inj hf
      rw [← hQ0]; exact W.iret (v := (-1)) hx hb hr (fun t ht hW => ⟨(-1), rfl, ⟨er0, trivial⟩, ht⟩) (fun q h => by cases h) dX5_sentence_24
    · have hf := ite_f hf c7
      refine lv_iload_n hx hb dX5_sentence_18 rfl (lv_at hl 2 rfl) ?_
      refine lv_iconst (v := 4) hx hb dX5_sentence_19 (by decide) ?_
      refine lv_icmp_lt (tgt := 25) hx hb dX5_sentence_20 (by decide) (fun c8 => ?_) (fun c8 => ?_)
      · have hf := ite_t hf c8
        refine lv_aload_n hx hb dX5_sentence_25 rfl (lv_at hl 0 rfl) ?_
        refine va_get (D := g.1) (ci := 5) (v := .ref (aW 0)) (C := RX5) (T := TX5) (N := 6) hx hb hts i_X5 hown hK hP 0 rfl rfl 0 (by decide) (hts (.fieldLink RX5 10 "WordFlasher" "words" "LWordFlasher$Words;") (List.mem_of_getElem? (i := 1) rfl)) (fun _ h9 => h9) rfl dX5_sentence_26 ?_
        refine va_get (D := g.1) (ci := 4) (v := .ref (aP 0)) (C := RX4) (T := TX4) (N := 9) hx hb hts i_X4 hown hK hP 9 rfl rfl 6 (by decide) (hts (.fieldLink RX5 95 "WordFlasher$Words" "sentences" "LWordFlasher$Spans;") (List.mem_of_getElem? (i := 2) rfl)) (fun _ h9 => h9) rfl dX5_sentence_29 ?_
        refine va_get (D := g.1) (ci := 2) (v := .ref (aP 1)) (C := RX2) (T := TX2) (N := 4) hx hb hts i_X2 hown hK hP 16 rfl rfl 0 (by decide) (hts (.fieldLink RX5 120 "WordFlasher$Spans" "firsts" "[I") (List.mem_of_getElem? (i := 3) rfl)) (fun _ h9 => h9) rfl dX5_sentence_32 ?_
        refine lv_iload_n hx hb dX5_sentence_35 rfl (lv_at hl 1 rfl) ?_
        obtain ⟨r9, h10, hf⟩ := bnd_el hf
        refine rdS (As := [.ref (aP 1), .int p1]) (rest := []) ⟨hx, hb, hml, hown, hts⟩ (c_X5_at l g (aP 1) 150 _ _ _ h10) (va_cwS 2 hts gX5_sentence_X5_at rfl rfl rfl (by decide +kernel) ⟨Nat.le_of_ble_eq_true rfl, Nat.le_of_ble_eq_true rfl⟩) hKW hP [17] rfl rfl hl.1 rfl (lv_room (Nat.le_of_ble_eq_true rfl)) dX5_sentence_36 ⟨Nat.zero_le _, Nat.zero_le _⟩ (fun r11 q12 => ?_)
        obtain ⟨q12, nb13⟩ := q12
        refine lv_as q12.symm ?_
        refine lv_istore_n (lv' := [(3, .int r9), (0, .ref (aF 0)), (1, .int p1), (2, .int p2)]) hx hb dX5_sentence_39 rfl hl (by decide) rfl (fun ls hl => ?_)
        refine lv_aload_n hx hb dX5_sentence_40 rfl (lv_at hl 1 rfl) ?_
        refine va_get (D := g.1) (ci := 5) (v := .ref (aW 0)) (C := RX5) (T := TX5) (N := 6) hx hb hts i_X5 hown hK hP 0 rfl rfl 0 (by decide) (hts (.fieldLink RX5 10 "WordFlasher" "words" "LWordFlasher$Words;") (List.mem_of_getElem? (i := 1) rfl)) (fun _ h9 => h9) rfl dX5_sentence_41 ?_
        refine va_get (D := g.1) (ci := 4) (v := .ref (aP 0)) (C := RX4) (T := TX4) (N := 9) hx hb hts i_X4 hown hK hP 9 rfl rfl 6 (by decide) (hts (.fieldLink RX5 95 "WordFlasher$Words" "sentences" "LWordFlasher$Spans;") (List.mem_of_getElem? (i := 2) rfl)) (fun _ h9 => h9) rfl dX5_sentence_44 ?_
        refine va_get (D := g.1) (ci := 2) (v := .ref (aP 2)) (C := RX2) (T := TX2) (N := 4) hx hb hts i_X2 hown hK hP 16 rfl rfl 1 (by decide) (hts (.fieldLink RX5 123 "WordFlasher$Spans" "lasts" "[I") (List.mem_of_getElem? (i := 4) rfl)) (fun _ h9 => h9) rfl dX5_sentence_47 ?_
        refine lv_iload_n hx hb dX5_sentence_50 rfl (lv_at hl 2 rfl) ?_
        obtain ⟨r14, h15, hf⟩ := bnd_el hf
        refine rdS (As := [.ref (aP 2), .int p1]) (rest := []) ⟨hx, hb, hml, hown, hts⟩ (c_X5_at l g (aP 2) 150 _ _ _ h15) (va_cwS 2 hts gX5_sentence_X5_at rfl rfl rfl (by decide +kernel) ⟨Nat.le_of_ble_eq_true rfl, Nat.le_of_ble_eq_true rfl⟩) hKW hP [18] rfl rfl hl.1 rfl (lv_room (Nat.le_of_ble_eq_true rfl)) dX5_sentence_51 ⟨Nat.zero_le _, Nat.zero_le _⟩ (fun r16 q17 => ?_)
        obtain ⟨q17, nb18⟩ := q17
        refine lv_as q17.symm ?_
        refine lv_istore (lv' := [(4, .int r14), (3, .int r9), (0, .ref (aF 0)), (1, .int p1), (2, .int p2)]) hx hb dX5_sentence_54 hl (by decide) rfl (fun ls hl => ?_)
        refine lv_iload_n hx hb dX5_sentence_56 rfl (lv_at hl 4 rfl) ?_
        refine lv_iconst (v := 3) hx hb dX5_sentence_57 (by decide) ?_
        refine lv_icmp_ne (tgt := 74) hx hb dX5_sentence_58 (by decide) (fun c19 => ?_) (fun c19 => ?_)
        · have hf := ite_f hf c19
          refine lv_aload_n hx hb dX5_sentence_74 rfl (lv_at hl 2 rfl) ?_
          refine lv_iload_n hx hb dX5_sentence_75 rfl (lv_at hl 1 rfl) ?_
          refine lv_iload hx hb dX5_sentence_76 (lv_at hl 0 rfl) ?_
          refine lv_iload_n hx hb dX5_sentence_78 rfl (lv_at hl 4 rfl) ?_
          obtain ⟨r20, h21, hf⟩ := bnd_el hf
          refine rdV (As := [.int r9, .int r14, .int p2]) (rest := []) ⟨hx, hb, hml, hown, hts⟩ (c_X5_spanProperty l g aF aN aA aW aP aQ aO aH aB _ _ _ _ _ _ _ _ h21) (cwV 3 hts gX5_sentence_X5_spanProperty rfl rfl rfl (by decide +kernel) ⟨Nat.le_of_ble_eq_true rfl, Nat.le_of_ble_eq_true rfl⟩) hKW hP [0, 1, 2, 3, 4, 5, 6, 7, 8, 9, 10, 11, 12, 13, 14, 15] rfl (va_recv hK hP (ci := 5) (q0 := 0) rfl rfl) rfl hl.1 rfl (lv_room (Nat.le_of_ble_eq_true rfl)) dX5_sentence_79 ⟨Nat.zero_le _, Nat.zero_le _⟩ (fun r22 q23 => ?_)
          obtain ⟨q23, nb24⟩ := q23
          refine lv_as q23.symm ?_
          have er0 := Option.some.inj hf
          rw [← hQ0]; exact W.iret (v := r20) hx hb hr (fun t ht hW => ⟨r20, rfl, ⟨er0, trivial⟩, ht⟩) (fun q h => by cases h) dX5_sentence_82
        · have hf := ite_t hf c19
          refine lv_aload_n hx hb dX5_sentence_61 rfl (lv_at hl 2 rfl) ?_
          refine va_get (D := g.1) (ci := 5) (v := .ref (aW 0)) (C := RX5) (T := TX5) (N := 6) hx hb hts i_X5 hown hK hP 0 rfl rfl 0 (by decide) (hts (.fieldLink RX5 10 "WordFlasher" "words" "LWordFlasher$Words;") (List.mem_of_getElem? (i := 1) rfl)) (fun _ h9 => h9) rfl dX5_sentence_62 ?_
          refine lv_iload_n hx hb dX5_sentence_65 rfl (lv_at hl 1 rfl) ?_
          refine lv_iload hx hb dX5_sentence_66 (lv_at hl 0 rfl) ?_
          obtain ⟨r25, h26, hf⟩ := bnd_el hf
          refine rdV (As := [.int r9, .int r14]) (rest := []) ⟨hx, hb, hml, hown, hts⟩ (c_X4_shownAmong l g aW aP aQ _ _ _ _ _ h26) (cwV 2 hts gX5_sentence_X4_shownAmong rfl rfl rfl (by decide +kernel) ⟨Nat.le_of_ble_eq_true rfl, Nat.le_of_ble_eq_true rfl⟩) hKW hP [9, 10, 11, 12, 13, 14, 15] rfl (va_recv hK hP (ci := 4) (q0 := 9) rfl rfl) rfl hl.1 rfl (lv_room (Nat.le_of_ble_eq_true rfl)) dX5_sentence_68 ⟨Nat.zero_le _, Nat.zero_le _⟩ (fun r27 q28 => ?_)
          obtain ⟨q28, nb29⟩ := q28
          refine lv_as q28.symm ?_
          refine lv_goto (tgt := 82) hx hb dX5_sentence_71 (by decide) ?_
          have er0 := Option.some.inj hf
          rw [← hQ0]; exact W.iret (v := r25) hx hb hr (fun t ht hW => ⟨r25, rfl, ⟨er0, trivial⟩, ht⟩) (fun q h => by cases h) dX5_sentence_82
      · have hf := ite_f hf c8
        refine lv_iconst (v := (-1)) hx hb dX5_sentence_23 (by decide) ?_
        have er0 := Option.some.inj hf
        rw [← hQ0]; exact W.iret (v := (-1)) hx hb hr (fun t ht hW => ⟨(-1), rfl, ⟨er0, trivial⟩, ht⟩) (fun q h => by cases h) dX5_sentence_24
abbrev rmX5_page : Room := { frames := 6, cells := 0, slots := 0, locals := 135 }
set_option maxHeartbeats 8000000 in
set_option maxRecDepth 100000 in
theorem c_X5_page (l : Launch) (g : GG) (aF : Nat → Nat) (aN : Nat → Nat) (aA : Nat → Nat) (aW : Nat → Nat) (aP : Nat → Nat) (aQ : Nat → Nat) (aO : Nat → Nat) (aH : Nat → Nat) (aB : Nat → Nat → Nat) (n : Nat) (XF : DM) (XN : DM) (XW : DM) (XP : DM) (XQ : DM) (p1 p2 : Int32) (r : Int32) (hf : fX5_page n XF XN XW XP XQ p1 p2 = some r) : Met l yX5_page wsX5_page rmX5_page (va_Pc [.ref (aF 0), .int p1, .int p2] (fun U => va_P g.1 vwCl (pF g aF (aW 0) (aN 0) (aA 0) (aH 0) (aO 0) XF ++ (pS g aN (aW 0) XN ++ (pW g aW (aP 0) (aQ 0) XW ++ (pP g aP XP ++ (pP g aQ XQ))))) U.heap ∧ KW g U)) (vp_Si (fun r' => r' = r ∧ True)) 0 0 (fun _ => False) := by
  refine Met.ofW (cc := cX5_page) (maxL := 5) (ret := (some .int)) (by decide) rfl ?_
  intro p e s m args below meth c s₁ B hml hv
  obtain ⟨hargs, hP, hKW⟩ := hv
  have hK := hKW.1
  have hx := B.exec
  have hb := B.bytes
  have hr := B.returns
  have hts := atoms_spec (ws := wsX5_page) B.pre
  have hown : s.vm.findClass RX5 = some m.cls := findClass_of_methodNamed B.named
  have hlocks := B.notSynchronized
  have i_X5 : ∀ w ∈ wsX50, w ∈ wsX5_page := fun w h => List.mem_cons_of_mem _ (List.mem_append_left _ (List.mem_append_left _ (List.mem_append_left _ (List.mem_append_right _ h))))
  have i_X4 : ∀ w ∈ wsX40, w ∈ wsX5_page := fun w h => List.mem_cons_of_mem _ (List.mem_append_left _ (List.mem_append_left _ (List.mem_append_right _ h)))
  have i_X2 : ∀ w ∈ wsX20, w ∈ wsX5_page := fun w h => List.mem_cons_of_mem _ (List.mem_append_left _ (List.mem_append_right _ h))
  have i_X3 : ∀ w ∈ wsX30, w ∈ wsX5_page := fun w h => List.mem_cons_of_mem _ (List.mem_append_right _ h)
  have hent : entryFrame m args 5 = F0 m 0 ((lg_sl ([.ref (aF 0), .int p1, .int p2]) ++ List.replicate (5 - (lg_sl ([.ref (aF 0), .int p1, .int p2])).length) Slot.unset).toArray) [] := by rw [hargs]; exact lg_entry_eq _ _ _
  rw [hent]
  have hl := lv_entry ([.ref (aF 0), .int p1, .int p2]) (n := 5) (Nat.le_of_ble_eq_true rfl)
  generalize (lg_sl ([.ref (aF 0), .int p1, .int p2]) ++ List.replicate (5 - (lg_sl ([.ref (aF 0), .int p1, .int p2])).length) Slot.unset).toArray = ls at hl ⊢
  have hl : lv_has ls 5 [(0, .ref (aF 0)), (1, .int p1), (2, .int p2)] := hl
  generalize hQ0 : MQ below _ _ _ _ _ _ = Q0
  unfold fX5_page at hf
  refine lv_aload_n hx hb dX5_page_0 rfl (lv_at hl 0 rfl) ?_
  refine va_get (D := g.1) (ci := 5) (v := .ref (aW 0)) (C := RX5) (T := TX5) (N := 6) hx hb hts i_X5 hown hK hP 0 rfl rfl 0 (by decide) (hts (.fieldLink RX5 10 "WordFlasher" "words" "LWordFlasher$Words;") (List.mem_of_getElem? (i := 1) rfl)) (fun _ h9 => h9) rfl dX5_page_1 ?_
  refine va_get (D := g.1) (ci := 4) (v := .ref (aQ 0)) (C := RX4) (T := TX4) (N := 9) hx hb hts i_X4 hown hK hP 9 rfl rfl 7 (by decide) (hts (.fieldLink RX5 104 "WordFlasher$Words" "pages" "LWordFlasher$Spans;") (List.mem_of_getElem? (i := 2) rfl)) (fun _ h9 => h9) rfl dX5_page_4 ?_
  refine lv_iload_n hx hb dX5_page_7 rfl (lv_at hl 1 rfl) ?_
  obtain ⟨r1, h2, hf⟩ := bnd_el hf
  refine rdV (As := [.int p1]) (rest := []) ⟨hx, hb, hml, hown, hts⟩ (c_X2_has l g aQ _ _ _ h2) (cwV 1 hts gX5_page_X2_has rfl rfl rfl (by decide +kernel) ⟨Nat.le_of_ble_eq_true rfl, Nat.le_of_ble_eq_true rfl⟩) hKW hP [20, 21, 22, 23] rfl (va_recv hK hP (ci := 2) (q0 := 20) rfl rfl) rfl hl.1 rfl (lv_room (Nat.le_of_ble_eq_true rfl)) dX5_page_8 ⟨Nat.zero_le _, Nat.zero_le _⟩ (fun r3 q4 => ?_)
  obtain ⟨q4, nb5⟩ := q4
  refine lv_as q4.symm ?_
  rw [q4] at nb5
  refine lv_if_eq (tgt := 23) hx hb dX5_page_11 (by decide) (fun c6 => ?_) (fun c6 => ?_)
  · have hf := ite_t hf c6
    refine lv_iconst (v := (-1)) hx hb dX5_page_23 (by decide) ?_
    have er0 := Option.some.inj hf
    rw [← hQ0]; exact W.iret (v := (-1)) hx hb hr (fun t ht hW => ⟨(-1), rfl, ⟨er0, trivial⟩, ht⟩) (fun q h => by cases h) dX5_page_24
  · have hf := ite_f hf c6
    refine lv_iload_n hx hb dX5_page_14 rfl (lv_at hl 2 rfl) ?_
    refine lv_if_lt (tgt := 23) hx hb dX5_page_15 (by decide) (fun c7 => ?_) (fun c7 => ?_)
    · have hf := ite_t hf c7
      refine lv_iconst (v := (-1)) hx hb dX5_page_23 (by decide) ?_
      have er0 := Option.some.inj hf
      rw [← hQ0]; exact W.iret (v := (-1)) hx hb hr (fun t ht hW => ⟨(-1), rfl, ⟨er0, trivial⟩, ht⟩) (fun q h => by cases h) dX5_page_24
    · have hf := ite_f hf c7
      refine lv_iload_n hx hb dX5_page_18 rfl (lv_at hl 2 rfl) ?_
      refine lv_iconst (v := 4) hx hb dX5_page_19 (by decide) ?_
      refine lv_icmp_lt (tgt := 25) hx hb dX5_page_20 (by decide) (fun c8 => ?_) (fun c8 => ?_)
      · have hf := ite_t hf c8
        refine lv_aload_n hx hb dX5_page_25 rfl (lv_at hl 0 rfl) ?_
        refine va_get (D := g.1) (ci := 5) (v := .ref (aW 0)) (C := RX5) (T := TX5) (N := 6) hx hb hts i_X5 hown hK hP 0 rfl rfl 0 (by decide) (hts (.fieldLink RX5 10 "WordFlasher" "words" "LWordFlasher$Words;") (List.mem_of_getElem? (i := 1) rfl)) (fun _ h9 => h9) rfl dX5_page_26 ?_
        refine va_get (D := g.1) (ci := 4) (v := .ref (aQ 0)) (C := RX4) (T := TX4) (N := 9) hx hb hts i_X4 hown hK hP 9 rfl rfl 7 (by decide) (hts (.fieldLink RX5 104 "WordFlasher$Words" "pages" "LWordFlasher$Spans;") (List.mem_of_getElem? (i := 2) rfl)) (fun _ h9 => h9) rfl dX5_page_29 ?_
        refine va_get (D := g.1) (ci := 2) (v := .ref (aQ 1)) (C := RX2) (T := TX2) (N := 4) hx hb hts i_X2 hown hK hP 20 rfl rfl 0 (by decide) (hts (.fieldLink RX5 120 "WordFlasher$Spans" "firsts" "[I") (List.mem_of_getElem? (i := 3) rfl)) (fun _ h9 => h9) rfl dX5_page_32 ?_
        refine lv_iload_n hx hb dX5_page_35 rfl (lv_at hl 1 rfl) ?_
        obtain ⟨r9, h10, hf⟩ := bnd_el hf
        refine rdS (As := [.ref (aQ 1), .int p1]) (rest := []) ⟨hx, hb, hml, hown, hts⟩ (c_X5_at l g (aQ 1) 150 _ _ _ h10) (va_cwS 2 hts gX5_page_X5_at rfl rfl rfl (by decide +kernel) ⟨Nat.le_of_ble_eq_true rfl, Nat.le_of_ble_eq_true rfl⟩) hKW hP [21] rfl rfl hl.1 rfl (lv_room (Nat.le_of_ble_eq_true rfl)) dX5_page_36 ⟨Nat.zero_le _, Nat.zero_le _⟩ (fun r11 q12 => ?_)
        obtain ⟨q12, nb13⟩ := q12
        refine lv_as q12.symm ?_
        refine lv_istore_n (lv' := [(3, .int r9), (0, .ref (aF 0)), (1, .int p1), (2, .int p2)]) hx hb dX5_page_39 rfl hl (by decide) rfl (fun ls hl => ?_)
        refine lv_aload_n hx hb dX5_page_40 rfl (lv_at hl 1 rfl) ?_
        refine va_get (D := g.1) (ci := 5) (v := .ref (aW 0)) (C := RX5) (T := TX5) (N := 6) hx hb hts i_X5 hown hK hP 0 rfl rfl 0 (by decide) (hts (.fieldLink RX5 10 "WordFlasher" "words" "LWordFlasher$Words;") (List.mem_of_getElem? (i := 1) rfl)) (fun _ h9 => h9) rfl dX5_page_41 ?_
        refine va_get (D := g.1) (ci := 4) (v := .ref (aQ 0)) (C := RX4) (T := TX4) (N := 9) hx hb hts i_X4 hown hK hP 9 rfl rfl 7 (by decide) (hts (.fieldLink RX5 104 "WordFlasher$Words" "pages" "LWordFlasher$Spans;") (List.mem_of_getElem? (i := 2) rfl)) (fun _ h9 => h9) rfl dX5_page_44 ?_
        refine va_get (D := g.1) (ci := 2) (v := .ref (aQ 2)) (C := RX2) (T := TX2) (N := 4) hx hb hts i_X2 hown hK hP 20 rfl rfl 1 (by decide) (hts (.fieldLink RX5 123 "WordFlasher$Spans" "lasts" "[I") (List.mem_of_getElem? (i := 4) rfl)) (fun _ h9 => h9) rfl dX5_page_47 ?_
        refine lv_iload_n hx hb dX5_page_50 rfl (lv_at hl 2 rfl) ?_
        obtain ⟨r14, h15, hf⟩ := bnd_el hf
        refine rdS (As := [.ref (aQ 2), .int p1]) (rest := []) ⟨hx, hb, hml, hown, hts⟩ (c_X5_at l g (aQ 2) 150 _ _ _ h15) (va_cwS 2 hts gX5_page_X5_at rfl rfl rfl (by decide +kernel) ⟨Nat.le_of_ble_eq_true rfl, Nat.le_of_ble_eq_true rfl⟩) hKW hP [22] rfl rfl hl.1 rfl (lv_room (Nat.le_of_ble_eq_true rfl)) dX5_page_51 ⟨Nat.zero_le _, Nat.zero_le _⟩ (fun r16 q17 => ?_)
        obtain ⟨q17, nb18⟩ := q17
        refine lv_as q17.symm ?_
        refine lv_istore (lv' := [(4, .int r14), (3, .int r9), (0, .ref (aF 0)), (1, .int p1), (2, .int p2)]) hx hb dX5_page_54 hl (by decide) rfl (fun ls hl => ?_)
        refine lv_iload_n hx hb dX5_page_56 rfl (lv_at hl 4 rfl) ?_
        refine lv_iconst (v := 3) hx hb dX5_page_57 (by decide) ?_
        refine lv_icmp_ne (tgt := 74) hx hb dX5_page_58 (by decide) (fun c19 => ?_) (fun c19 => ?_)
        · have hf := ite_f hf c19
          refine lv_aload_n hx hb dX5_page_74 rfl (lv_at hl 2 rfl) ?_
          refine lv_iload_n hx hb dX5_page_75 rfl (lv_at hl 1 rfl) ?_
          refine lv_iload hx hb dX5_page_76 (lv_at hl 0 rfl) ?_
          refine lv_iload_n hx hb dX5_page_78 rfl (lv_at hl 4 rfl) ?_
          obtain ⟨r20, h21, hf⟩ := bnd_el hf
          refine rdV (As := [.int r9, .int r14, .int p2]) (rest := []) ⟨hx, hb, hml, hown, hts⟩ (c_X5_spanProperty l g aF aN aA aW aP aQ aO aH aB _ _ _ _ _ _ _ _ h21) (cwV 3 hts gX5_page_X5_spanProperty rfl rfl rfl (by decide +kernel) ⟨Nat.le_of_ble_eq_true rfl, Nat.le_of_ble_eq_true rfl⟩) hKW hP [0, 1, 2, 3, 4, 5, 6, 7, 8, 9, 10, 11, 12, 13, 14, 15] rfl (va_recv hK hP (ci := 5) (q0 := 0) rfl rfl) rfl hl.1 rfl (lv_room (Nat.le_of_ble_eq_true rfl)) dX5_page_79 ⟨Nat.zero_le _, Nat.zero_le _⟩ (fun r22 q23 => ?_)
          obtain ⟨q23, nb24⟩ := q23
          refine lv_as q23.symm ?_
          have er0 := Option.some.inj hf
          rw [← hQ0]; exact W.iret (v := r20) hx hb hr (fun t ht hW => ⟨r20, rfl, ⟨er0, trivial⟩, ht⟩) (fun q h => by cases h) dX5_page_82
        · have hf := ite_t hf c19
          refine lv_aload_n hx hb dX5_page_61 rfl (lv_at hl 2 rfl) ?_
          refine va_get (D := g.1) (ci := 5) (v := .ref (aW 0)) (C := RX5) (T := TX5) (N := 6) hx hb hts i_X5 hown hK hP 0 rfl rfl 0 (by decide) (hts (.fieldLink RX5 10 "WordFlasher" "words" "LWordFlasher$Words;") (List.mem_of_getElem? (i := 1) rfl)) (fun _ h9 => h9) rfl dX5_page_62 ?_
          refine lv_iload_n hx hb dX5_page_65 rfl (lv_at hl 1 rfl) ?_
          refine lv_iload hx hb dX5_page_66 (lv_at hl 0 rfl) ?_
          obtain ⟨r25, h26, hf⟩ := bnd_el hf
          refine rdV (As := [.int r9, .int r14]) (rest := []) ⟨hx, hb, hml, hown, hts⟩ (c_X4_sentencesAmong l g aW aP aQ _ _ _ _ _ h26) (cwV 2 hts gX5_page_X4_sentencesAmong rfl rfl rfl (by decide +kernel) ⟨Nat.le_of_ble_eq_true rfl, Nat.le_of_ble_eq_true rfl⟩) hKW hP [9, 10, 11, 12, 13, 14, 15, 16, 17, 18, 19] rfl (va_recv hK hP (ci := 4) (q0 := 9) rfl rfl) rfl hl.1 rfl (lv_room (Nat.le_of_ble_eq_true rfl)) dX5_page_68 ⟨Nat.zero_le _, Nat.zero_le _⟩ (fun r27 q28 => ?_)
          obtain ⟨q28, nb29⟩ := q28
          refine lv_as q28.symm ?_
          refine lv_goto (tgt := 82) hx hb dX5_page_71 (by decide) ?_
          have er0 := Option.some.inj hf
          rw [← hQ0]; exact W.iret (v := r25) hx hb hr (fun t ht hW => ⟨r25, rfl, ⟨er0, trivial⟩, ht⟩) (fun q h => by cases h) dX5_page_82
      · have hf := ite_f hf c8
        refine lv_iconst (v := (-1)) hx hb dX5_page_23 (by decide) ?_
        have er0 := Option.some.inj hf
        rw [← hQ0]; exact W.iret (v := (-1)) hx hb hr (fun t ht hW => ⟨(-1), rfl, ⟨er0, trivial⟩, ht⟩) (fun q h => by cases h) dX5_page_24
abbrev rmX5_rankOf : Room := { frames := 1, cells := 0, slots := 0, locals := 21 }
set_option maxHeartbeats 8000000 in
set_option maxRecDepth 100000 in
theorem c_X5_rankOf (l : Launch) (g : GG) (aF : Nat → Nat) (aN : Nat → Nat) (aA : Nat → Nat) (aW : Nat → Nat) (aP : Nat → Nat) (aQ : Nat → Nat) (aO : Nat → Nat) (aH : Nat → Nat) (aB : Nat → Nat → Nat) (n : Nat) (XF : DM) (XW : DM) (p1 : Int32) (r : Int32) (hf : fX5_rankOf n XF XW p1 = some r) : Met l yX5_rankOf wsX5_rankOf rmX5_rankOf (va_Pc [.ref (aF 0), .int p1] (fun U => va_P g.1 vwCl (pF g aF (aW 0) (aN 0) (aA 0) (aH 0) (aO 0) XF ++ (pW g aW (aP 0) (aQ 0) XW)) U.heap ∧ KW g U)) (vp_Si (fun r' => r' = r ∧ True)) 0 0 (fun _ => False) := by
  refine Met.ofW (cc := cX5_rankOf) (maxL := 6) (ret := (some .int)) (by decide) rfl ?_
  intro p e s m args below meth c s₁ B hml hv
  obtain ⟨hargs, hP, hKW⟩ := hv
  have hK := hKW.1
  have hx := B.exec
  have hb := B.bytes
  have hr := B.returns
  have hts := atoms_spec (ws := wsX5_rankOf) B.pre
  have hown : s.vm.findClass RX5 = some m.cls := findClass_of_methodNamed B.named
  have hlocks := B.notSynchronized
  have i_X5 : ∀ w ∈ wsX50, w ∈ wsX5_rankOf := fun w h => List.mem_cons_of_mem _ (List.mem_append_left _ (List.mem_append_right _ h))
  have i_X4 : ∀ w ∈ wsX40, w ∈ wsX5_rankOf := fun w h => List.mem_cons_of_mem _ (List.mem_append_right _ h)
  have hent : entryFrame m args 6 = F0 m 0 ((lg_sl ([.ref (aF 0), .int p1]) ++ List.replicate (6 - (lg_sl ([.ref (aF 0), .int p1])).length) Slot.unset).toArray) [] := by rw [hargs]; exact lg_entry_eq _ _ _
  rw [hent]
  have hl := lv_entry ([.ref (aF 0), .int p1]) (n := 6) (Nat.le_of_ble_eq_true rfl)
  generalize (lg_sl ([.ref (aF 0), .int p1]) ++ List.replicate (6 - (lg_sl ([.ref (aF 0), .int p1])).length) Slot.unset).toArray = ls at hl ⊢
  have hl : lv_has ls 6 [(0, .ref (aF 0)), (1, .int p1)] := hl
  generalize hQ0 : MQ below _ _ _ _ _ _ = Q0
  unfold fX5_rankOf at hf
  refine lv_aload_n hx hb dX5_rankOf_0 rfl (lv_at hl 0 rfl) ?_
  refine va_get (D := g.1) (ci := 5) (v := .ref (aF 1)) (C := RX5) (T := TX5) (N := 6) hx hb hts i_X5 hown hK hP 0 rfl rfl 5 (by decide) (hts (.fieldLink RX5 42 "WordFlasher" "times" "[I") (List.mem_of_getElem? (i := 1) rfl)) (fun _ h9 => h9) rfl dX5_rankOf_1 ?_
  refine lv_iload_n hx hb dX5_rankOf_4 rfl (lv_at hl 1 rfl) ?_
  obtain ⟨r1, h2, hf⟩ := bnd_el hf
  refine rdS (As := [.ref (aF 1), .int p1]) (rest := []) ⟨hx, hb, hml, hown, hts⟩ (c_X5_at l g (aF 1) 150 _ _ _ h2) (va_cwS 2 hts gX5_rankOf_X5_at rfl rfl rfl (by decide +kernel) ⟨Nat.le_of_ble_eq_true rfl, Nat.le_of_ble_eq_true rfl⟩) hKW hP [1] rfl rfl hl.1 rfl (lv_room (Nat.le_of_ble_eq_true rfl)) dX5_rankOf_5 ⟨Nat.zero_le _, Nat.zero_le _⟩ (fun r3 q4 => ?_)
  obtain ⟨q4, nb5⟩ := q4
  refine lv_as q4.symm ?_
  refine lv_istore_n (lv' := [(2, .int r1), (0, .ref (aF 0)), (1, .int p1)]) hx hb dX5_rankOf_8 rfl hl (by decide) rfl (fun ls hl => ?_)
  refine lv_iconst (v := 0) hx hb dX5_rankOf_9 (by decide) ?_
  refine lv_istore_n (lv' := [(3, .int 0), (2, .int r1), (0, .ref (aF 0)), (1, .int p1)]) hx hb dX5_rankOf_10 rfl hl (by decide) rfl (fun ls hl => ?_)
  refine lv_iconst (v := 0) hx hb dX5_rankOf_11 (by decide) ?_
  refine lv_istore (lv' := [(4, .int 0), (3, .int 0), (2, .int r1), (0, .ref (aF 0)), (1, .int p1)]) hx hb dX5_rankOf_12 hl (by decide) rfl (fun ls hl => ?_)
  have L_14 : ∀ fu : Nat, ∀ (x1 x2 x3 x4 : Int32) (ls : Array Slot), lv_has ls 6 [(0, .ref (aF 0)), (1, .int x1), (2, .int x2), (3, .int x3), (4, .int x4)] → fX5_rankOf_L14 n XF XW fu x1 x2 x3 x4 = some r → W p l e (headSpec wsX5_rankOf rmX5_rankOf).room s m args below meth c s.heap [] 0 0 Q0 (F0 m 14 ls []) := by
    intro fu
    induction fu with
    | zero => intros; rename_i hf; rw [fX5_rankOf_L14] at hf; cases hf
    | succ fu ih =>
      intro x1 x2 x3 x4 ls hl hf
      rw [fX5_rankOf_L14] at hf
      refine lv_iload hx hb dX5_rankOf_14 (lv_at hl 4 rfl) ?_
      refine lv_aload_n hx hb dX5_rankOf_16 rfl (lv_at hl 0 rfl) ?_
      refine va_get (D := g.1) (ci := 5) (v := .ref (aW 0)) (C := RX5) (T := TX5) (N := 6) hx hb hts i_X5 hown hK hP 0 rfl rfl 0 (by decide) (hts (.fieldLink RX5 10 "WordFlasher" "words" "LWordFlasher$Words;") (List.mem_of_getElem? (i := 2) rfl)) (fun _ h9 => h9) rfl dX5_rankOf_17 ?_
      refine va_get (D := g.1) (ci := 4) (v := .int (XW 8 0)) (C := RX4) (T := TX4) (N := 9) hx hb hts i_X4 hown hK hP 2 rfl rfl 8 (by decide) (hts (.fieldLink RX5 69 "WordFlasher$Words" "many" "I") (List.mem_of_getElem? (i := 3) rfl)) (fun _ h9 => h9) rfl dX5_rankOf_20 ?_
      refine lv_icmp_ge (tgt := 64) hx hb dX5_rankOf_23 (by decide) (fun c6 => ?_) (fun c6 => ?_)
      · have hf := ite_t hf c6
        refine lv_iload_n hx hb dX5_rankOf_64 rfl (lv_at hl 3 rfl) ?_
        have er0 := Option.some.inj hf
        rw [← hQ0]; exact W.iret (v := x3) hx hb hr (fun t ht hW => ⟨x3, rfl, ⟨er0, trivial⟩, ht⟩) (fun q h => by cases h) dX5_rankOf_65
      · have hf := ite_f hf c6
        refine lv_aload_n hx hb dX5_rankOf_26 rfl (lv_at hl 0 rfl) ?_
        refine va_get (D := g.1) (ci := 5) (v := .ref (aF 1)) (C := RX5) (T := TX5) (N := 6) hx hb hts i_X5 hown hK hP 0 rfl rfl 5 (by decide) (hts (.fieldLink RX5 42 "WordFlasher" "times" "[I") (List.mem_of_getElem? (i := 1) rfl)) (fun _ h9 => h9) rfl dX5_rankOf_27 ?_
        refine lv_iload hx hb dX5_rankOf_30 (lv_at hl 4 rfl) ?_
        obtain ⟨r7, h8, hf⟩ := bnd_el hf
        refine rdS (As := [.ref (aF 1), .int x4]) (rest := []) ⟨hx, hb, hml, hown, hts⟩ (c_X5_at l g (aF 1) 150 _ _ _ h8) (va_cwS 2 hts gX5_rankOf_X5_at rfl rfl rfl (by decide +kernel) ⟨Nat.le_of_ble_eq_true rfl, Nat.le_of_ble_eq_true rfl⟩) hKW hP [1] rfl rfl hl.1 rfl (lv_room (Nat.le_of_ble_eq_true rfl)) dX5_rankOf_32 ⟨Nat.zero_le _, Nat.zero_le _⟩ (fun r9 q10 => ?_)
        obtain ⟨q10, nb11⟩ := q10
        refine lv_as q10.symm ?_
        refine lv_istore (lv' := [(5, .int r7), (0, .ref (aF 0)), (1, .int x1), (2, .int x2), (3, .int x3), (4, .int x4)]) hx hb dX5_rankOf_35 hl (by decide) rfl (fun ls hl => ?_)
        refine lv_iload hx hb dX5_rankOf_37 (lv_at hl 0 rfl) ?_
        refine lv_iload_n hx hb dX5_rankOf_39 rfl (lv_at hl 3 rfl) ?_
        obtain ⟨j58, ej58, hf⟩ := sl_el hf
        have J_58 : ∀ (x1 x2 x3 x4 : Int32) (ls : Array Slot), lv_has ls 6 [(0, .ref (aF 0)), (1, .int x1), (2, .int x2), (3, .int x3), (4, .int x4)] → j58 x1 x2 x3 x4 = some r → W p l e (headSpec wsX5_rankOf rmX5_rankOf).room s m args below meth c s.heap [] 0 0 Q0 (F0 m 58 ls []) := by
          intro x1 x2 x3 x4 ls hl hf
          rw [ej58] at hf
          obtain ⟨v12, e13, hf⟩ := sl_el hf
          refine lv_iinc (v := v12) (lv' := [(4, .int v12), (0, .ref (aF 0)), (1, .int x1), (2, .int x2), (3, .int x3)]) hx hb dX5_rankOf_58 hl (k := 4) rfl (by rw [e13]; rfl) (by decide) rfl (fun ls hl => ?_)
          refine lv_goto (tgt := 14) hx hb dX5_rankOf_61 (by decide) ?_
          exact ih x1 x2 x3 v12 ls (lv_sub hl [1, 2, 3, 4, 0] rfl) hf
        obtain ⟨j55, ej55, hf⟩ := sl_el hf
        have J_55 : ∀ (x1 x2 x3 x4 : Int32) (ls : Array Slot), lv_has ls 6 [(0, .ref (aF 0)), (1, .int x1), (2, .int x2), (3, .int x3), (4, .int x4)] → j55 x1 x2 x3 x4 = some r → W p l e (headSpec wsX5_rankOf rmX5_rankOf).room s m args below meth c s.heap [] 0 0 Q0 (F0 m 55 ls []) := by
          intro x1 x2 x3 x4 ls hl hf
          rw [ej55] at hf
          obtain ⟨v14, e15, hf⟩ := sl_el hf
          refine lv_iinc (v := v14) (lv' := [(3, .int v14), (0, .ref (aF 0)), (1, .int x1), (2, .int x2), (4, .int x4)]) hx hb dX5_rankOf_55 hl (k := 3) rfl (by rw [e15]; rfl) (by decide) rfl (fun ls hl => ?_)
          exact J_58 x1 x2 v14 x4 ls (lv_sub hl [1, 2, 3, 0, 4] rfl) hf
        refine lv_icmp_gt (tgt := 55) hx hb dX5_rankOf_40 (by decide) (fun c16 => ?_) (fun c16 => ?_)
        · have hf := ite_t hf c16
          exact J_55 x1 x2 x3 x4 ls (lv_sub hl [1, 2, 3, 4, 5] rfl) hf
        · have hf := ite_f hf c16
          refine lv_iload hx hb dX5_rankOf_43 (lv_at hl 0 rfl) ?_
          refine lv_iload_n hx hb dX5_rankOf_45 rfl (lv_at hl 3 rfl) ?_
          refine lv_icmp_ne (tgt := 58) hx hb dX5_rankOf_46 (by decide) (fun c17 => ?_) (fun c17 => ?_)
          · have hf := ite_f hf c17
            exact J_58 x1 x2 x3 x4 ls (lv_sub hl [1, 2, 3, 4, 5] rfl) hf
          · have hf := ite_t hf c17
            refine lv_iload hx hb dX5_rankOf_49 (lv_at hl 5 rfl) ?_
            refine lv_iload_n hx hb dX5_rankOf_51 rfl (lv_at hl 2 rfl) ?_
            refine lv_icmp_ge (tgt := 58) hx hb dX5_rankOf_52 (by decide) (fun c18 => ?_) (fun c18 => ?_)
            · have hf := ite_t hf c18
              exact J_58 x1 x2 x3 x4 ls (lv_sub hl [1, 2, 3, 4, 5] rfl) hf
            · have hf := ite_f hf c18
              exact J_55 x1 x2 x3 x4 ls (lv_sub hl [1, 2, 3, 4, 5] rfl) hf
  exact L_14 n p1 r1 0 0 ls (lv_sub hl [3, 4, 2, 1, 0] rfl) hf
abbrev rmX5_longest : Room := { frames := 4, cells := 0, slots := 0, locals := 88 }
set_option maxHeartbeats 8000000 in
set_option maxRecDepth 100000 in
theorem c_X5_longest (l : Launch) (g : GG) (aF : Nat → Nat) (aN : Nat → Nat) (aA : Nat → Nat) (aW : Nat → Nat) (aP : Nat → Nat) (aQ : Nat → Nat) (aO : Nat → Nat) (aH : Nat → Nat) (aB : Nat → Nat → Nat) (sz : Nat) (n : Nat) (XF : DM) (XN : DM) (XW : DM) (p1 : Int32) (r : Int32) (XFz : DM) (hf : fX5_longest n XF XN XW p1 = some (r, XFz)) : Met l yX5_longest wsX5_longest rmX5_longest (va_Pc [.ref (aF 0), .int p1] (fun U => U.heap.size = sz ∧ va_P g.1 vwCl (pF g aF (aW 0) (aN 0) (aA 0) (aH 0) (aO 0) XF ++ (pS g aN (aW 0) XN ++ (pW g aW (aP 0) (aQ 0) XW))) U.heap ∧ KW g U ∧ va_D (fun _ => True) (pF g aF (aW 0) (aN 0) (aA 0) (aH 0) (aO 0) XF ++ (pS g aN (aW 0) XN ++ (pW g aW (aP 0) (aQ 0) XW))))) (va_Qi (fun r' (_ : Unit) => r' = r ∧ True) (fun (_ : Unit) t => va_P g.1 vwCl (pF g aF (aW 0) (aN 0) (aA 0) (aH 0) (aO 0) XFz ++ (pS g aN (aW 0) XN ++ (pW g aW (aP 0) (aQ 0) XW))) t.heap) (va_A (pF g aF (aW 0) (aN 0) (aA 0) (aH 0) (aO 0) XF ++ (pS g aN (aW 0) XN ++ (pW g aW (aP 0) (aQ 0) XW))) sz)) 0 0 (va_A (pF g aF (aW 0) (aN 0) (aA 0) (aH 0) (aO 0) XF ++ (pS g aN (aW 0) XN ++ (pW g aW (aP 0) (aQ 0) XW))) sz) := by
  refine Met.ofW (cc := cX5_longest) (maxL := 3) (ret := (some .int)) (by decide) rfl ?_
  intro p e s m args below meth c s₁ B hml hv
  obtain ⟨hargs, hsz, hP, hKW, hD0⟩ := hv
  have hK := hKW.1
  have hx := B.exec
  have hb := B.bytes
  have hr := B.returns
  have hts := atoms_spec (ws := wsX5_longest) B.pre
  have hown : s.vm.findClass RX5 = some m.cls := findClass_of_methodNamed B.named
  have hlocks := B.notSynchronized
  subst hsz
  have hD := hD0.self (sz := s.heap.size)
  generalize hAe : va_A (pF g aF (aW 0) (aN 0) (aA 0) (aH 0) (aO 0) XF ++ (pS g aN (aW 0) XN ++ (pW g aW (aP 0) (aQ 0) XW))) s.heap.size = A at hD ⊢
  have hA : ∀ q : Nat, s.heap.size ≤ q → A q := fun q h => by rw [← hAe]; exact Or.inr h
  have hS : va_S A s.heap s.heap [] := va_S.rf
  have i_X5 : ∀ w ∈ wsX50, w ∈ wsX5_longest := fun w h => List.mem_cons_of_mem _ (List.mem_append_left _ (List.mem_append_left _ (List.mem_append_right _ h)))
  have i_X4 : ∀ w ∈ wsX40, w ∈ wsX5_longest := fun w h => List.mem_cons_of_mem _ (List.mem_append_left _ (List.mem_append_right _ h))
  have i_X3 : ∀ w ∈ wsX30, w ∈ wsX5_longest := fun w h => List.mem_cons_of_mem _ (List.mem_append_right _ h)
  have hent : entryFrame m args 3 = F0 m 0 ((lg_sl ([.ref (aF 0), .int p1]) ++ List.replicate (3 - (lg_sl ([.ref (aF 0), .int p1])).length) Slot.unset).toArray) [] := by rw [hargs]; exact lg_entry_eq _ _ _
  rw [hent]
  have hl := lv_entry ([.ref (aF 0), .int p1]) (n := 3) (Nat.le_of_ble_eq_true rfl)
  generalize (lg_sl ([.ref (aF 0), .int p1]) ++ List.replicate (3 - (lg_sl ([.ref (aF 0), .int p1])).length) Slot.unset).toArray = ls at hl ⊢
  have hl : lv_has ls 3 [(0, .ref (aF 0)), (1, .int p1)] := hl
  generalize hQ0 : MQ below _ _ _ _ _ _ = Q0
  unfold fX5_longest at hf
  refine lv_iload_n hx hb dX5_longest_0 rfl (lv_at hl 1 rfl) ?_
  refine lv_if_ge (tgt := 6) hx hb dX5_longest_1 (by decide) (fun c1 => ?_) (fun c1 => ?_)
  · have hf := ite_t hf c1
    refine lv_iconst (v := 0) hx hb dX5_longest_6 (by decide) ?_
    refine lv_istore_n (lv' := [(2, .int 0), (0, .ref (aF 0)), (1, .int p1)]) hx hb dX5_longest_7 rfl hl (by decide) rfl (fun ls hl => ?_)
    obtain ⟨j41, ej41, hf⟩ := sl_el hf
    have J_41 : ∀ (x1 : Int32) (XF : DM) (H : Heap) (locs : List Loc) (ls : Array Slot), va_P g.1 vwCl (pF g aF (aW 0) (aN 0) (aA 0) (aH 0) (aO 0) XF ++ (pS g aN (aW 0) XN ++ (pW g aW (aP 0) (aQ 0) XW))) H → va_D A (pF g aF (aW 0) (aN 0) (aA 0) (aH 0) (aO 0) XF ++ (pS g aN (aW 0) XN ++ (pW g aW (aP 0) (aQ 0) XW))) → va_S A s.heap H locs → lv_has ls 3 [(0, .ref (aF 0)), (1, .int x1)] → j41 x1 XF = some (r, XFz) → W p l e (headSpec wsX5_longest rmX5_longest).room s m args below meth c H locs 0 0 Q0 (F0 m 41 ls []) := by
      intro x1 XF H locs ls hP hD hS hl hf
      rw [ej41] at hf
      refine lv_iconst (v := 0) hx hb dX5_longest_41 (by decide) ?_
      refine lv_istore_n (lv' := [(2, .int 0), (0, .ref (aF 0)), (1, .int x1)]) hx hb dX5_longest_42 rfl hl (by decide) rfl (fun ls hl => ?_)
      have L_43 : ∀ fu : Nat, ∀ (x1 x2 : Int32) (XF : DM) (H : Heap) (locs : List Loc) (ls : Array Slot), va_P g.1 vwCl (pF g aF (aW 0) (aN 0) (aA 0) (aH 0) (aO 0) XF ++ (pS g aN (aW 0) XN ++ (pW g aW (aP 0) (aQ 0) XW))) H → va_D A (pF g aF (aW 0) (aN 0) (aA 0) (aH 0) (aO 0) XF ++ (pS g aN (aW 0) XN ++ (pW g aW (aP 0) (aQ 0) XW))) → va_S A s.heap H locs → lv_has ls 3 [(0, .ref (aF 0)), (1, .int x1), (2, .int x2)] → fX5_longest_L43 n XN XW fu x1 x2 XF = some (r, XFz) → W p l e (headSpec wsX5_longest rmX5_longest).room s m args below meth c H locs 0 0 Q0 (F0 m 43 ls []) := by
        intro fu
        induction fu with
        | zero => intros; rename_i hf; rw [fX5_longest_L43] at hf; cases hf
        | succ fu ih =>
          intro x1 x2 XF H locs ls hP hD hS hl hf
          rw [fX5_longest_L43] at hf
          refine lv_iload_n hx hb dX5_longest_43 rfl (lv_at hl 2 rfl) ?_
          refine lv_aload_n hx hb dX5_longest_44 rfl (lv_at hl 0 rfl) ?_
          refine va_get (D := g.1) (ci := 5) (v := .ref (aW 0)) (C := RX5) (T := TX5) (N := 6) hx hb hts i_X5 hown hK hP 0 rfl rfl 0 (by decide) (hts (.fieldLink RX5 10 "WordFlasher" "words" "LWordFlasher$Words;") (List.mem_of_getElem? (i := 1) rfl)) (fun _ h9 => h9) rfl dX5_longest_45 ?_
          refine va_get (D := g.1) (ci := 4) (v := .int (XW 8 0)) (C := RX4) (T := TX4) (N := 9) hx hb hts i_X4 hown hK hP 9 rfl rfl 8 (by decide) (hts (.fieldLink RX5 69 "WordFlasher$Words" "many" "I") (List.mem_of_getElem? (i := 2) rfl)) (fun _ h9 => h9) rfl dX5_longest_48 ?_
          refine lv_icmp_ge (tgt := 82) hx hb dX5_longest_51 (by decide) (fun c2 => ?_) (fun c2 => ?_)
          · have hf := ite_t hf c2
            refine lv_bipush (v := (-4)) hx hb dX5_longest_82 (by decide) ?_
            have er0 := Option.some.inj hf
            obtain ⟨er0, er1⟩ := Prod.mk.inj er0
            rw [← hQ0]; exact W.iret (v := (-4)) hx hb hr (fun t ht hW => ⟨⟨(-4), (), rfl, ⟨er0, trivial⟩, by dsimp only; rw [ht, ← er1]; exact hP⟩, hS.F ht⟩) hS.2.2 dX5_longest_84
          · have hf := ite_f hf c2
            refine lv_aload_n hx hb dX5_longest_54 rfl (lv_at hl 0 rfl) ?_
            refine va_get (D := g.1) (ci := 5) (v := .ref (aW 0)) (C := RX5) (T := TX5) (N := 6) hx hb hts i_X5 hown hK hP 0 rfl rfl 0 (by decide) (hts (.fieldLink RX5 10 "WordFlasher" "words" "LWordFlasher$Words;") (List.mem_of_getElem? (i := 1) rfl)) (fun _ h9 => h9) rfl dX5_longest_55 ?_
            refine lv_iload_n hx hb dX5_longest_58 rfl (lv_at hl 2 rfl) ?_
            obtain ⟨r3, h4, hf⟩ := bnd_el hf
            refine rdV (As := [.int x2]) (rest := []) ⟨hx, hb, hml, hown, hts⟩ (c_X4_isMark l g aW aP aQ _ _ _ h4) (cwV 1 hts gX5_longest_X4_isMark rfl rfl rfl (by decide +kernel) ⟨Nat.le_of_ble_eq_true rfl, Nat.le_of_ble_eq_true rfl⟩) hKW hP [9, 10, 11, 12, 13, 14, 15] rfl (va_recv hK hP (ci := 4) (q0 := 9) rfl rfl) rfl hl.1 rfl (lv_room (Nat.le_of_ble_eq_true rfl)) dX5_longest_59 ⟨Nat.zero_le _, Nat.zero_le _⟩ (fun r5 q6 => ?_)
            obtain ⟨q6, nb7⟩ := q6
            refine lv_as q6.symm ?_
            rw [q6] at nb7
            obtain ⟨j76, ej76, hf⟩ := sl_el hf
            have J_76 : ∀ (x1 x2 : Int32) (XF : DM) (H : Heap) (locs : List Loc) (ls : Array Slot), va_P g.1 vwCl (pF g aF (aW 0) (aN 0) (aA 0) (aH 0) (aO 0) XF ++ (pS g aN (aW 0) XN ++ (pW g aW (aP 0) (aQ 0) XW))) H → va_D A (pF g aF (aW 0) (aN 0) (aA 0) (aH 0) (aO 0) XF ++ (pS g aN (aW 0) XN ++ (pW g aW (aP 0) (aQ 0) XW))) → va_S A s.heap H locs → lv_has ls 3 [(0, .ref (aF 0)), (1, .int x1), (2, .int x2)] → j76 x1 x2 XF = some (r, XFz) → W p l e (headSpec wsX5_longest rmX5_longest).room s m args below meth c H locs 0 0 Q0 (F0 m 76 ls []) := by
              intro x1 x2 XF H locs ls hP hD hS hl hf
              rw [ej76] at hf
              obtain ⟨v8, e9, hf⟩ := sl_el hf
              refine lv_iinc (v := v8) (lv' := [(2, .int v8), (0, .ref (aF 0)), (1, .int x1)]) hx hb dX5_longest_76 hl (k := 2) rfl (by rw [e9]; rfl) (by decide) rfl (fun ls hl => ?_)
              refine lv_goto (tgt := 43) hx hb dX5_longest_79 (by decide) ?_
              exact ih x1 v8 XF _ _ ls hP hD hS (lv_sub hl [1, 2, 0] rfl) hf
            refine lv_if_ne (tgt := 76) hx hb dX5_longest_62 (by decide) (fun c10 => ?_) (fun c10 => ?_)
            · have hf := ite_f hf c10
              exact J_76 x1 x2 XF _ _ ls hP hD hS (lv_sub hl [0, 1, 2] rfl) hf
            · have hf := ite_t hf c10
              refine lv_aload_n hx hb dX5_longest_65 rfl (lv_at hl 0 rfl) ?_
              refine lv_iload_n hx hb dX5_longest_66 rfl (lv_at hl 2 rfl) ?_
              obtain ⟨r11, h12, hf⟩ := bnd_el hf
              refine rdV (As := [.int x2]) (rest := []) ⟨hx, hb, hml, hown, hts⟩ (c_X5_rankOf l g aF aN aA aW aP aQ aO aH aB _ _ _ _ _ h12) (cwV 1 hts gX5_longest_X5_rankOf rfl rfl rfl (by decide +kernel) ⟨Nat.le_of_ble_eq_true rfl, Nat.le_of_ble_eq_true rfl⟩) hKW hP [0, 1, 9, 10, 11, 12, 13, 14, 15] rfl (va_recv hK hP (ci := 5) (q0 := 0) rfl rfl) rfl hl.1 rfl (lv_room (Nat.le_of_ble_eq_true rfl)) dX5_longest_67 ⟨Nat.zero_le _, Nat.zero_le _⟩ (fun r13 q14 => ?_)
              obtain ⟨q14, nb15⟩ := q14
              refine lv_as q14.symm ?_
              refine lv_iload_n hx hb dX5_longest_70 rfl (lv_at hl 1 rfl) ?_
              refine lv_icmp_ne (tgt := 76) hx hb dX5_longest_71 (by decide) (fun c16 => ?_) (fun c16 => ?_)
              · have hf := ite_f hf c16
                exact J_76 x1 x2 XF _ _ ls hP hD hS (lv_sub hl [0, 1, 2] rfl) hf
              · have hf := ite_t hf c16
                refine lv_iload_n hx hb dX5_longest_74 rfl (lv_at hl 2 rfl) ?_
                have er0 := Option.some.inj hf
                obtain ⟨er0, er1⟩ := Prod.mk.inj er0
                rw [← hQ0]; exact W.iret (v := x2) hx hb hr (fun t ht hW => ⟨⟨x2, (), rfl, ⟨er0, trivial⟩, by dsimp only; rw [ht, ← er1]; exact hP⟩, hS.F ht⟩) hS.2.2 dX5_longest_75
      exact L_43 n x1 0 XF _ _ ls hP hD hS (lv_sub hl [1, 2, 0] rfl) hf
    have L_8 : ∀ fu : Nat, ∀ (x1 x2 : Int32) (XF : DM) (H : Heap) (locs : List Loc) (ls : Array Slot), va_P g.1 vwCl (pF g aF (aW 0) (aN 0) (aA 0) (aH 0) (aO 0) XF ++ (pS g aN (aW 0) XN ++ (pW g aW (aP 0) (aQ 0) XW))) H → va_D A (pF g aF (aW 0) (aN 0) (aA 0) (aH 0) (aO 0) XF ++ (pS g aN (aW 0) XN ++ (pW g aW (aP 0) (aQ 0) XW))) → va_S A s.heap H locs → lv_has ls 3 [(0, .ref (aF 0)), (1, .int x1), (2, .int x2)] → fX5_longest_L8 n XN XW j41 fu x1 x2 XF = some (r, XFz) → W p l e (headSpec wsX5_longest rmX5_longest).room s m args below meth c H locs 0 0 Q0 (F0 m 8 ls []) := by
      intro fu
      induction fu with
      | zero => intros; rename_i hf; rw [fX5_longest_L8] at hf; cases hf
      | succ fu ih =>
        intro x1 x2 XF H locs ls hP hD hS hl hf
        rw [fX5_longest_L8] at hf
        refine lv_iload_n hx hb dX5_longest_8 rfl (lv_at hl 2 rfl) ?_
        refine lv_aload_n hx hb dX5_longest_9 rfl (lv_at hl 0 rfl) ?_
        refine va_get (D := g.1) (ci := 5) (v := .ref (aW 0)) (C := RX5) (T := TX5) (N := 6) hx hb hts i_X5 hown hK hP 0 rfl rfl 0 (by decide) (hts (.fieldLink RX5 10 "WordFlasher" "words" "LWordFlasher$Words;") (List.mem_of_getElem? (i := 1) rfl)) (fun _ h9 => h9) rfl dX5_longest_10 ?_
        refine va_get (D := g.1) (ci := 4) (v := .int (XW 8 0)) (C := RX4) (T := TX4) (N := 9) hx hb hts i_X4 hown hK hP 9 rfl rfl 8 (by decide) (hts (.fieldLink RX5 69 "WordFlasher$Words" "many" "I") (List.mem_of_getElem? (i := 2) rfl)) (fun _ h9 => h9) rfl dX5_longest_13 ?_
        refine lv_icmp_ge (tgt := 41) hx hb dX5_longest_16 (by decide) (fun c17 => ?_) (fun c17 => ?_)
        · have hf := ite_t hf c17
          exact J_41 x1 XF _ _ ls hP hD hS (lv_sub hl [0, 1] rfl) hf
        · have hf := ite_f hf c17
          refine lv_aload_n hx hb dX5_longest_19 rfl (lv_at hl 0 rfl) ?_
          refine va_get (D := g.1) (ci := 5) (v := .ref (aF 1)) (C := RX5) (T := TX5) (N := 6) hx hb hts i_X5 hown hK hP 0 rfl rfl 5 (by decide) (hts (.fieldLink RX5 42 "WordFlasher" "times" "[I") (List.mem_of_getElem? (i := 3) rfl)) (fun _ h9 => h9) rfl dX5_longest_20 ?_
          refine lv_iload_n hx hb dX5_longest_23 rfl (lv_at hl 2 rfl) ?_
          refine lv_aload_n hx hb dX5_longest_24 rfl (lv_at hl 0 rfl) ?_
          refine va_get (D := g.1) (ci := 5) (v := .ref (aN 0)) (C := RX5) (T := TX5) (N := 6) hx hb hts i_X5 hown hK hP 0 rfl rfl 1 (by decide) (hts (.fieldLink RX5 21 "WordFlasher" "now" "LWordFlasher$State;") (List.mem_of_getElem? (i := 4) rfl)) (fun _ h9 => h9) rfl dX5_longest_25 ?_
          refine lv_iload_n hx hb dX5_longest_28 rfl (lv_at hl 2 rfl) ?_
          obtain ⟨r18, h19, hf⟩ := bnd_el hf
          refine rdV (As := [.int x2]) (rest := [.int x2, .ref (aF 1)]) ⟨hx, hb, hml, hown, hts⟩ (c_X3_timeOf l g aN aW aP aQ _ _ _ _ h19) (cwV 1 hts gX5_longest_X3_timeOf rfl rfl rfl (by decide +kernel) ⟨Nat.le_of_ble_eq_true rfl, Nat.le_of_ble_eq_true rfl⟩) hKW hP [2, 3, 4, 5, 6, 7, 8, 9, 10, 11, 12, 13, 14, 15] rfl (va_recv hK hP (ci := 3) (q0 := 2) rfl rfl) rfl hl.1 rfl (lv_room (Nat.le_of_ble_eq_true rfl)) dX5_longest_29 ⟨Nat.zero_le _, Nat.zero_le _⟩ (fun r20 q21 => ?_)
          obtain ⟨q21, nb22⟩ := q21
          refine lv_as q21.symm ?_
          obtain ⟨f23, h24, hf⟩ := bnd_el hf
          obtain ⟨X25, e26, hf⟩ := sl_el hf
          refine wr_v (rest := []) (wc := (pR g (aF 1) 150 (XF 5))) (wc' := (pR g (aF 1) 150 f23)) (ws2 := (pF g aF (aW 0) (aN 0) (aA 0) (aH 0) (aO 0) X25 ++ (pS g aN (aW 0) XN ++ (pW g aW (aP 0) (aQ 0) XW)))) hP hD hS hA [1] rfl rfl (by subst e26; rfl) (rnS (As := [.ref (aF 1), .int x2, .int r18]) ⟨hx, hb, hml, hown, hts⟩ (c_X5_put l g (aF 1) 150 _ _ _ _ _ h24) (va_cwS 3 hts gX5_longest_X5_put rfl rfl rfl (by decide +kernel) ⟨Nat.le_of_ble_eq_true rfl, Nat.le_of_ble_eq_true rfl⟩) hKW hP hD [1] (by decide) rfl rfl hl.1 rfl (lv_room (Nat.le_of_ble_eq_true rfl)) dX5_longest_32 ⟨Nat.zero_le _, Nat.zero_le _⟩) (fun H locs hP hD hS => ?_)
          obtain ⟨v27, e28, hf⟩ := sl_el hf
          refine lv_iinc (v := v27) (lv' := [(2, .int v27), (0, .ref (aF 0)), (1, .int x1)]) hx hb dX5_longest_35 hl (k := 2) rfl (by rw [e28]; rfl) (by decide) rfl (fun ls hl => ?_)
          refine lv_goto (tgt := 8) hx hb dX5_longest_38 (by decide) ?_
          exact ih x1 v27 X25 _ _ ls hP hD hS (lv_sub hl [1, 2, 0] rfl) hf
    exact L_8 n p1 0 XF _ _ ls hP hD hS (lv_sub hl [1, 2, 0] rfl) hf
  · have hf := ite_f hf c1
    refine lv_iconst (v := (-1)) hx hb dX5_longest_4 (by decide) ?_
    have er0 := Option.some.inj hf
    obtain ⟨er0, er1⟩ := Prod.mk.inj er0
    rw [← hQ0]; exact W.iret (v := (-1)) hx hb hr (fun t ht hW => ⟨⟨(-1), (), rfl, ⟨er0, trivial⟩, by dsimp only; rw [ht, ← er1]; exact hP⟩, hS.F ht⟩) hS.2.2 dX5_longest_5
