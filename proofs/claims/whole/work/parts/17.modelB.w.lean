abbrev rmX6_word : Room := { frames := 4, cells := 0, slots := 0, locals := 85 }
set_option maxHeartbeats 8000000 in
set_option maxRecDepth 100000 in
theorem c_X6_word (l : Launch) (g : GG) (aM : Nat → Nat) (n : Nat) (XM : DM) (p1 p2 : Int32) (r : Int32) (hf : fX6_word n XM p1 p2 = some r) : Met l yX6_word wsX6_word rmX6_word (va_Pc [.ref (aM 0), .int p1, .int p2] (fun U => va_P g.1 vwCl (pM g aM XM) U.heap ∧ KW g U)) (vp_Si (fun r' => r' = r ∧ True)) 0 0 (fun _ => False) := by
  refine Met.ofW (cc := cX6_word) (maxL := 4) (ret := (some .int)) (by decide) rfl ?_
  intro p e s m args below meth c s₁ B hml hv
  obtain ⟨hargs, hP, hKW⟩ := hv
  have hK := hKW.1
  have hx := B.exec
  have hb := B.bytes
  have hr := B.returns
  have hts := atoms_spec (ws := wsX6_word) B.pre
  have hown : s.vm.findClass RX6 = some m.cls := findClass_of_methodNamed B.named
  have hlocks := B.notSynchronized
  have i_X6 : ∀ w ∈ wsX60, w ∈ wsX6_word := fun w h => List.mem_cons_of_mem _ (List.mem_append_right _ h)
  have hent : entryFrame m args 4 = F0 m 0 ((lg_sl ([.ref (aM 0), .int p1, .int p2]) ++ List.replicate (4 - (lg_sl ([.ref (aM 0), .int p1, .int p2])).length) Slot.unset).toArray) [] := by rw [hargs]; exact lg_entry_eq _ _ _
  rw [hent]
  have hl := lv_entry ([.ref (aM 0), .int p1, .int p2]) (n := 4) (Nat.le_of_ble_eq_true rfl)
  generalize (lg_sl ([.ref (aM 0), .int p1, .int p2]) ++ List.replicate (4 - (lg_sl ([.ref (aM 0), .int p1, .int p2])).length) Slot.unset).toArray = ls at hl ⊢
  have hl : lv_has ls 4 [(0, .ref (aM 0)), (1, .int p1), (2, .int p2)] := hl
  generalize hQ0 : MQ below _ _ _ _ _ _ = Q0
  unfold fX6_word at hf
  refine lv_aload_n hx hb dX6_word_0 rfl (lv_at hl 0 rfl) ?_
  refine lv_iload_n hx hb dX6_word_1 rfl (lv_at hl 1 rfl) ?_
  obtain ⟨r1, h2, hf⟩ := bnd_el hf
  refine rdV (As := [.int p1]) (rest := []) ⟨hx, hb, hml, hown, hts⟩ (c_X6_isWord l g aM _ _ _ h2) (cwV 1 hts gX6_word_X6_isWord rfl rfl rfl (by decide +kernel) ⟨Nat.le_of_ble_eq_true rfl, Nat.le_of_ble_eq_true rfl⟩) hKW hP [0, 1, 2, 3, 4, 5, 6, 7, 8, 9, 10, 11] rfl (va_recv hK hP (ci := 6) (q0 := 0) rfl rfl) rfl hl.1 rfl (lv_room (Nat.le_of_ble_eq_true rfl)) dX6_word_2 ⟨Nat.zero_le _, Nat.zero_le _⟩ (fun r3 q4 => ?_)
  obtain ⟨q4, nb5⟩ := q4
  refine lv_as q4.symm ?_
  rw [q4] at nb5
  refine lv_if_eq (tgt := 18) hx hb dX6_word_5 (by decide) (fun c6 => ?_) (fun c6 => ?_)
  · have hf := ite_t hf c6
    refine lv_iconst (v := (-1)) hx hb dX6_word_18 (by decide) ?_
    have er0 := Option.some.inj hf
    rw [← hQ0]; exact W.iret (v := (-1)) hx hb hr (fun t ht hW => ⟨(-1), rfl, ⟨er0, trivial⟩, ht⟩) (fun q h => by cases h) dX6_word_19
  · have hf := ite_f hf c6
    refine lv_iload_n hx hb dX6_word_8 rfl (lv_at hl 2 rfl) ?_
    refine lv_iconst (v := 0) hx hb dX6_word_9 (by decide) ?_
    refine lv_bipush (v := 10) hx hb dX6_word_10 (by decide) ?_
    obtain ⟨r7, h8, hf⟩ := bnd_el hf
    refine rdS (As := [.int p2, .int 0, .int 10]) (rest := []) ⟨hx, hb, hml, hown, hts⟩ (c_X6_in l g _ _ _ _ h8) (va_cwS 3 hts gX6_word_X6_in rfl rfl rfl (by decide +kernel) ⟨Nat.le_of_ble_eq_true rfl, Nat.le_of_ble_eq_true rfl⟩) hKW hP [] rfl rfl hl.1 rfl (lv_room (Nat.le_of_ble_eq_true rfl)) dX6_word_12 ⟨Nat.zero_le _, Nat.zero_le _⟩ (fun r9 q10 => ?_)
    obtain ⟨q10, nb11⟩ := q10
    refine lv_as q10.symm ?_
    rw [q10] at nb11
    refine lv_if_ne (tgt := 20) hx hb dX6_word_15 (by decide) (fun c12 => ?_) (fun c12 => ?_)
    · have hf := ite_f hf c12
      refine lv_aload_n hx hb dX6_word_20 rfl (lv_at hl 0 rfl) ?_
      refine lv_iload_n hx hb dX6_word_21 rfl (lv_at hl 1 rfl) ?_
      obtain ⟨r13, h14, hf⟩ := bnd_el hf
      refine rdV (As := [.int p1]) (rest := []) ⟨hx, hb, hml, hown, hts⟩ (c_X6_noteOf l g aM _ _ _ _ h14) (cwV 1 hts gX6_word_X6_noteOf rfl rfl rfl (by decide +kernel) ⟨Nat.le_of_ble_eq_true rfl, Nat.le_of_ble_eq_true rfl⟩) hKW hP [0, 1, 2, 3, 4, 5, 6, 7, 8, 9, 10, 11] rfl (va_recv hK hP (ci := 6) (q0 := 0) rfl rfl) rfl hl.1 rfl (lv_room (Nat.le_of_ble_eq_true rfl)) dX6_word_22 ⟨Nat.zero_le _, Nat.zero_le _⟩ (fun r15 q16 => ?_)
      obtain ⟨q16, nb17⟩ := q16
      refine lv_as q16.symm ?_
      refine lv_istore_n (lv' := [(3, .int r13), (0, .ref (aM 0)), (1, .int p1), (2, .int p2)]) hx hb dX6_word_25 rfl hl (by decide) rfl (fun ls hl => ?_)
      refine lv_iload_n hx hb dX6_word_26 rfl (lv_at hl 3 rfl) ?_
      by_cases c18 : p2 = 0
      · have hf := ite_t hf c18
        refine lv_tableIn (tgt := 80) (off := 53) hx hb dX6_word_27 (by rw [c18]; decide) (by rw [c18]; decide) (by rw [c18]; rfl) (by decide) ?_
        refine lv_aload_n hx hb dX6_word_80 rfl (lv_at hl 1 rfl) ?_
        refine va_get (D := g.1) (ci := 6) (v := .ref (aM 5)) (C := RX6) (T := TX6) (N := 19) hx hb hts i_X6 hown hK hP 0 rfl rfl 12 (by decide) (hts (.fieldLink RX6 23 "WordFlasherModel" "begin" "[I") (List.mem_of_getElem? (i := 1) rfl)) (fun _ h9 => h9) rfl dX6_word_81 ?_
        refine lv_iload_n hx hb dX6_word_84 rfl (lv_at hl 2 rfl) ?_
        obtain ⟨h21, v19, e20, hf⟩ := rdA_el hf
        refine va_iald hx hb hK hP 5 0 rfl rfl h21 dX6_word_85 ?_
        refine lv_as e20 ?_
        have er0 := Option.some.inj hf
        rw [← hQ0]; exact W.iret (v := v19) hx hb hr (fun t ht hW => ⟨v19, rfl, ⟨er0, trivial⟩, ht⟩) (fun q h => by cases h) dX6_word_86
      have hf := ite_f hf c18
      have q22 := i32_nk (z := 0) (by decide) c18
      by_cases c23 : p2 = 1
      · have hf := ite_t hf c23
        refine lv_tableIn (tgt := 87) (off := 60) hx hb dX6_word_27 (by rw [c23]; decide) (by rw [c23]; decide) (by rw [c23]; rfl) (by decide) ?_
        refine lv_aload_n hx hb dX6_word_87 rfl (lv_at hl 1 rfl) ?_
        refine va_get (D := g.1) (ci := 6) (v := .ref (aM 6)) (C := RX6) (T := TX6) (N := 19) hx hb hts i_X6 hown hK hP 0 rfl rfl 13 (by decide) (hts (.fieldLink RX6 26 "WordFlasherModel" "many" "[I") (List.mem_of_getElem? (i := 2) rfl)) (fun _ h9 => h9) rfl dX6_word_88 ?_
        refine lv_iload_n hx hb dX6_word_91 rfl (lv_at hl 2 rfl) ?_
        obtain ⟨h26, v24, e25, hf⟩ := rdA_el hf
        refine va_iald hx hb hK hP 6 0 rfl rfl h26 dX6_word_92 ?_
        refine lv_as e25 ?_
        have er0 := Option.some.inj hf
        rw [← hQ0]; exact W.iret (v := v24) hx hb hr (fun t ht hW => ⟨v24, rfl, ⟨er0, trivial⟩, ht⟩) (fun q h => by cases h) dX6_word_93
      have hf := ite_f hf c23
      have q27 := i32_nk (z := 1) (by decide) c23
      by_cases c28 : p2 = 2
      · have hf := ite_t hf c28
        refine lv_tableIn (tgt := 94) (off := 67) hx hb dX6_word_27 (by rw [c28]; decide) (by rw [c28]; decide) (by rw [c28]; rfl) (by decide) ?_
        refine lv_aload_n hx hb dX6_word_94 rfl (lv_at hl 1 rfl) ?_
        refine va_get (D := g.1) (ci := 6) (v := .ref (aM 7)) (C := RX6) (T := TX6) (N := 19) hx hb hts i_X6 hown hK hP 0 rfl rfl 14 (by decide) (hts (.fieldLink RX6 29 "WordFlasherModel" "letters" "[I") (List.mem_of_getElem? (i := 3) rfl)) (fun _ h9 => h9) rfl dX6_word_95 ?_
        refine lv_iload_n hx hb dX6_word_98 rfl (lv_at hl 2 rfl) ?_
        obtain ⟨h31, v29, e30, hf⟩ := rdA_el hf
        refine va_iald hx hb hK hP 7 0 rfl rfl h31 dX6_word_99 ?_
        refine lv_as e30 ?_
        have er0 := Option.some.inj hf
        rw [← hQ0]; exact W.iret (v := v29) hx hb hr (fun t ht hW => ⟨v29, rfl, ⟨er0, trivial⟩, ht⟩) (fun q h => by cases h) dX6_word_100
      have hf := ite_f hf c28
      have q32 := i32_nk (z := 2) (by decide) c28
      by_cases c33 : p2 = 3
      · have hf := ite_t hf c33
        refine lv_tableIn (tgt := 101) (off := 74) hx hb dX6_word_27 (by rw [c33]; decide) (by rw [c33]; decide) (by rw [c33]; rfl) (by decide) ?_
        refine lv_aload_n hx hb dX6_word_101 rfl (lv_at hl 1 rfl) ?_
        refine lv_iload_n hx hb dX6_word_102 rfl (lv_at hl 2 rfl) ?_
        obtain ⟨r34, h35, hf⟩ := bnd_el hf
        refine rdV (As := [.int p1]) (rest := []) ⟨hx, hb, hml, hown, hts⟩ (c_X6_classOf l g aM _ _ _ h35) (cwV 1 hts gX6_word_X6_classOf rfl rfl rfl (by decide +kernel) ⟨Nat.le_of_ble_eq_true rfl, Nat.le_of_ble_eq_true rfl⟩) hKW hP [0, 1, 2, 3, 4, 5, 6, 7, 8, 9, 10, 11] rfl (va_recv hK hP (ci := 6) (q0 := 0) rfl rfl) rfl hl.1 rfl (lv_room (Nat.le_of_ble_eq_true rfl)) dX6_word_103 ⟨Nat.zero_le _, Nat.zero_le _⟩ (fun r36 q37 => ?_)
        obtain ⟨q37, nb38⟩ := q37
        refine lv_as q37.symm ?_
        have er0 := Option.some.inj hf
        rw [← hQ0]; exact W.iret (v := r34) hx hb hr (fun t ht hW => ⟨r34, rfl, ⟨er0, trivial⟩, ht⟩) (fun q h => by cases h) dX6_word_106
      have hf := ite_f hf c33
      have q39 := i32_nk (z := 3) (by decide) c33
      by_cases c40 : p2 = 4
      · have hf := ite_t hf c40
        refine lv_tableIn (tgt := 107) (off := 80) hx hb dX6_word_27 (by rw [c40]; decide) (by rw [c40]; decide) (by rw [c40]; rfl) (by decide) ?_
        refine lv_aload_n hx hb dX6_word_107 rfl (lv_at hl 1 rfl) ?_
        refine va_get (D := g.1) (ci := 6) (v := .ref (aM 8)) (C := RX6) (T := TX6) (N := 19) hx hb hts i_X6 hown hK hP 0 rfl rfl 15 (by decide) (hts (.fieldLink RX6 32 "WordFlasherModel" "kind" "[I") (List.mem_of_getElem? (i := 4) rfl)) (fun _ h9 => h9) rfl dX6_word_108 ?_
        refine lv_iload_n hx hb dX6_word_111 rfl (lv_at hl 2 rfl) ?_
        obtain ⟨h43, v41, e42, hf⟩ := rdA_el hf
        refine va_iald hx hb hK hP 8 0 rfl rfl h43 dX6_word_112 ?_
        refine lv_as e42 ?_
        have er0 := Option.some.inj hf
        rw [← hQ0]; exact W.iret (v := v41) hx hb hr (fun t ht hW => ⟨v41, rfl, ⟨er0, trivial⟩, ht⟩) (fun q h => by cases h) dX6_word_113
      have hf := ite_f hf c40
      have q44 := i32_nk (z := 4) (by decide) c40
      by_cases c45 : p2 = 5
      · have hf := ite_t hf c45
        refine lv_tableIn (tgt := 114) (off := 87) hx hb dX6_word_27 (by rw [c45]; decide) (by rw [c45]; decide) (by rw [c45]; rfl) (by decide) ?_
        refine lv_aload_n hx hb dX6_word_114 rfl (lv_at hl 1 rfl) ?_
        refine va_get (D := g.1) (ci := 6) (v := .ref (aM 10)) (C := RX6) (T := TX6) (N := 19) hx hb hts i_X6 hown hK hP 0 rfl rfl 17 (by decide) (hts (.fieldLink RX6 39 "WordFlasherModel" "sentenceOf" "[I") (List.mem_of_getElem? (i := 5) rfl)) (fun _ h9 => h9) rfl dX6_word_115 ?_
        refine lv_iload_n hx hb dX6_word_118 rfl (lv_at hl 2 rfl) ?_
        obtain ⟨h48, v46, e47, hf⟩ := rdA_el hf
        refine va_iald hx hb hK hP 10 0 rfl rfl h48 dX6_word_119 ?_
        refine lv_as e47 ?_
        have er0 := Option.some.inj hf
        rw [← hQ0]; exact W.iret (v := v46) hx hb hr (fun t ht hW => ⟨v46, rfl, ⟨er0, trivial⟩, ht⟩) (fun q h => by cases h) dX6_word_120
      have hf := ite_f hf c45
      have q49 := i32_nk (z := 5) (by decide) c45
      by_cases c50 : p2 = 6
      · have hf := ite_t hf c50
        refine lv_tableIn (tgt := 121) (off := 94) hx hb dX6_word_27 (by rw [c50]; decide) (by rw [c50]; decide) (by rw [c50]; rfl) (by decide) ?_
        refine lv_aload_n hx hb dX6_word_121 rfl (lv_at hl 1 rfl) ?_
        refine va_get (D := g.1) (ci := 6) (v := .ref (aM 11)) (C := RX6) (T := TX6) (N := 19) hx hb hts i_X6 hown hK hP 0 rfl rfl 18 (by decide) (hts (.fieldLink RX6 42 "WordFlasherModel" "pageOf" "[I") (List.mem_of_getElem? (i := 6) rfl)) (fun _ h9 => h9) rfl dX6_word_122 ?_
        refine lv_iload_n hx hb dX6_word_125 rfl (lv_at hl 2 rfl) ?_
        obtain ⟨h53, v51, e52, hf⟩ := rdA_el hf
        refine va_iald hx hb hK hP 11 0 rfl rfl h53 dX6_word_126 ?_
        refine lv_as e52 ?_
        have er0 := Option.some.inj hf
        rw [← hQ0]; exact W.iret (v := v51) hx hb hr (fun t ht hW => ⟨v51, rfl, ⟨er0, trivial⟩, ht⟩) (fun q h => by cases h) dX6_word_127
      have hf := ite_f hf c50
      have q54 := i32_nk (z := 6) (by decide) c50
      by_cases c55 : p2 = 7
      · have hf := ite_t hf c55
        refine lv_tableIn (tgt := 128) (off := 101) hx hb dX6_word_27 (by rw [c55]; decide) (by rw [c55]; decide) (by rw [c55]; rfl) (by decide) ?_
        refine lv_aload_n hx hb dX6_word_128 rfl (lv_at hl 1 rfl) ?_
        refine lv_iload_n hx hb dX6_word_129 rfl (lv_at hl 2 rfl) ?_
        obtain ⟨r56, h57, hf⟩ := bnd_el hf
        refine rdV (As := [.int p1]) (rest := []) ⟨hx, hb, hml, hown, hts⟩ (c_X6_measureOf l g aM _ _ _ h57) (cwV 1 hts gX6_word_X6_measureOf rfl rfl rfl (by decide +kernel) ⟨Nat.le_of_ble_eq_true rfl, Nat.le_of_ble_eq_true rfl⟩) hKW hP [0, 1, 2, 3, 4, 5, 6, 7, 8, 9, 10, 11] rfl (va_recv hK hP (ci := 6) (q0 := 0) rfl rfl) rfl hl.1 rfl (lv_room (Nat.le_of_ble_eq_true rfl)) dX6_word_130 ⟨Nat.zero_le _, Nat.zero_le _⟩ (fun r58 q59 => ?_)
        obtain ⟨q59, nb60⟩ := q59
        refine lv_as q59.symm ?_
        have er0 := Option.some.inj hf
        rw [← hQ0]; exact W.iret (v := r56) hx hb hr (fun t ht hW => ⟨r56, rfl, ⟨er0, trivial⟩, ht⟩) (fun q h => by cases h) dX6_word_133
      have hf := ite_f hf c55
      have q61 := i32_nk (z := 7) (by decide) c55
      by_cases c62 : p2 = 8
      · have hf := ite_t hf c62
        refine lv_tableIn (tgt := 134) (off := 107) hx hb dX6_word_27 (by rw [c62]; decide) (by rw [c62]; decide) (by rw [c62]; rfl) (by decide) ?_
        refine lv_aload_n hx hb dX6_word_134 rfl (lv_at hl 1 rfl) ?_
        refine lv_iload_n hx hb dX6_word_135 rfl (lv_at hl 2 rfl) ?_
        obtain ⟨r63, h64, hf⟩ := bnd_el hf
        refine rdV (As := [.int p1]) (rest := []) ⟨hx, hb, hml, hown, hts⟩ (c_X6_timeOf l g aM _ _ _ h64) (cwV 1 hts gX6_word_X6_timeOf rfl rfl rfl (by decide +kernel) ⟨Nat.le_of_ble_eq_true rfl, Nat.le_of_ble_eq_true rfl⟩) hKW hP [0, 1, 2, 3, 4, 5, 6, 7, 8, 9, 10, 11] rfl (va_recv hK hP (ci := 6) (q0 := 0) rfl rfl) rfl hl.1 rfl (lv_room (Nat.le_of_ble_eq_true rfl)) dX6_word_136 ⟨Nat.zero_le _, Nat.zero_le _⟩ (fun r65 q66 => ?_)
        obtain ⟨q66, nb67⟩ := q66
        refine lv_as q66.symm ?_
        have er0 := Option.some.inj hf
        rw [← hQ0]; exact W.iret (v := r63) hx hb hr (fun t ht hW => ⟨r63, rfl, ⟨er0, trivial⟩, ht⟩) (fun q h => by cases h) dX6_word_139
      have hf := ite_f hf c62
      have q68 := i32_nk (z := 8) (by decide) c62
      by_cases c69 : p2 = 9
      · have hf := ite_t hf c69
        refine lv_tableIn (tgt := 140) (off := 113) hx hb dX6_word_27 (by rw [c69]; decide) (by rw [c69]; decide) (by rw [c69]; rfl) (by decide) ?_
        refine lv_iload_n hx hb dX6_word_140 rfl (lv_at hl 0 rfl) ?_
        refine lv_iconst (v := (-1)) hx hb dX6_word_141 (by decide) ?_
        refine lv_icmp_ne (tgt := 149) hx hb dX6_word_142 (by decide) (fun c70 => ?_) (fun c70 => ?_)
        · have hf := ite_f hf c70
          refine lv_aload_n hx hb dX6_word_149 rfl (lv_at hl 1 rfl) ?_
          refine va_get (D := g.1) (ci := 6) (v := .ref (aM 1)) (C := RX6) (T := TX6) (N := 19) hx hb hts i_X6 hown hK hP 0 rfl rfl 0 (by decide) (hts (.fieldLink RX6 7 "WordFlasherModel" "d" "[I") (List.mem_of_getElem? (i := 7) rfl)) (fun _ h9 => h9) rfl dX6_word_150 ?_
          refine lv_sipush (v := 320) hx hb dX6_word_153 (by decide) ?_
          refine lv_iload_n hx hb dX6_word_156 rfl (lv_at hl 0 rfl) ?_
          refine lv_iadd hx hb dX6_word_157 ?_
          obtain ⟨h73, v71, e72, hf⟩ := rdA_el hf
          refine va_iald hx hb hK hP 1 0 rfl rfl h73 dX6_word_158 ?_
          refine lv_as e72 ?_
          have er0 := Option.some.inj hf
          rw [← hQ0]; exact W.iret (v := v71) hx hb hr (fun t ht hW => ⟨v71, rfl, ⟨er0, trivial⟩, ht⟩) (fun q h => by cases h) dX6_word_159
        · have hf := ite_t hf c70
          refine lv_iconst (v := 0) hx hb dX6_word_145 (by decide) ?_
          refine lv_goto (tgt := 159) hx hb dX6_word_146 (by decide) ?_
          have er0 := Option.some.inj hf
          rw [← hQ0]; exact W.iret (v := 0) hx hb hr (fun t ht hW => ⟨0, rfl, ⟨er0, trivial⟩, ht⟩) (fun q h => by cases h) dX6_word_159
      have hf := ite_f hf c69
      have q74 := i32_nk (z := 9) (by decide) c69
      refine lv_tableOut (tgt := 160) hx hb dX6_word_27 (by omega) (by decide) ?_
      refine lv_aload_n hx hb dX6_word_160 rfl (lv_at hl 1 rfl) ?_
      refine lv_iload_n hx hb dX6_word_161 rfl (lv_at hl 2 rfl) ?_
      obtain ⟨r75, h76, hf⟩ := bnd_el hf
      refine rdV (As := [.int p1]) (rest := []) ⟨hx, hb, hml, hown, hts⟩ (c_X6_spotOf l g aM _ _ _ _ h76) (cwV 1 hts gX6_word_X6_spotOf rfl rfl rfl (by decide +kernel) ⟨Nat.le_of_ble_eq_true rfl, Nat.le_of_ble_eq_true rfl⟩) hKW hP [0, 1, 2, 3, 4, 5, 6, 7, 8, 9, 10, 11] rfl (va_recv hK hP (ci := 6) (q0 := 0) rfl rfl) rfl hl.1 rfl (lv_room (Nat.le_of_ble_eq_true rfl)) dX6_word_162 ⟨Nat.zero_le _, Nat.zero_le _⟩ (fun r77 q78 => ?_)
      obtain ⟨q78, nb79⟩ := q78
      refine lv_as q78.symm ?_
      have er0 := Option.some.inj hf
      rw [← hQ0]; exact W.iret (v := r75) hx hb hr (fun t ht hW => ⟨r75, rfl, ⟨er0, trivial⟩, ht⟩) (fun q h => by cases h) dX6_word_165
    · have hf := ite_t hf c12
      refine lv_iconst (v := (-1)) hx hb dX6_word_18 (by decide) ?_
      have er0 := Option.some.inj hf
      rw [← hQ0]; exact W.iret (v := (-1)) hx hb hr (fun t ht hW => ⟨(-1), rfl, ⟨er0, trivial⟩, ht⟩) (fun q h => by cases h) dX6_word_19
abbrev rmX6_sentence : Room := { frames := 3, cells := 0, slots := 0, locals := 67 }
set_option maxHeartbeats 8000000 in
set_option maxRecDepth 100000 in
theorem c_X6_sentence (l : Launch) (g : GG) (aM : Nat → Nat) (n : Nat) (XM : DM) (p1 p2 : Int32) (r : Int32) (hf : fX6_sentence n XM p1 p2 = some r) : Met l yX6_sentence wsX6_sentence rmX6_sentence (va_Pc [.ref (aM 0), .int p1, .int p2] (fun U => va_P g.1 vwCl (pM g aM XM) U.heap ∧ KW g U)) (vp_Si (fun r' => r' = r ∧ True)) 0 0 (fun _ => False) := by
  refine Met.ofW (cc := cX6_sentence) (maxL := 8) (ret := (some .int)) (by decide) rfl ?_
  intro p e s m args below meth c s₁ B hml hv
  obtain ⟨hargs, hP, hKW⟩ := hv
  have hK := hKW.1
  have hx := B.exec
  have hb := B.bytes
  have hr := B.returns
  have hts := atoms_spec (ws := wsX6_sentence) B.pre
  have hown : s.vm.findClass RX6 = some m.cls := findClass_of_methodNamed B.named
  have hlocks := B.notSynchronized
  have i_X6 : ∀ w ∈ wsX60, w ∈ wsX6_sentence := fun w h => List.mem_cons_of_mem _ (List.mem_append_right _ h)
  have hent : entryFrame m args 8 = F0 m 0 ((lg_sl ([.ref (aM 0), .int p1, .int p2]) ++ List.replicate (8 - (lg_sl ([.ref (aM 0), .int p1, .int p2])).length) Slot.unset).toArray) [] := by rw [hargs]; exact lg_entry_eq _ _ _
  rw [hent]
  have hl := lv_entry ([.ref (aM 0), .int p1, .int p2]) (n := 8) (Nat.le_of_ble_eq_true rfl)
  generalize (lg_sl ([.ref (aM 0), .int p1, .int p2]) ++ List.replicate (8 - (lg_sl ([.ref (aM 0), .int p1, .int p2])).length) Slot.unset).toArray = ls at hl ⊢
  have hl : lv_has ls 8 [(0, .ref (aM 0)), (1, .int p1), (2, .int p2)] := hl
  generalize hQ0 : MQ below _ _ _ _ _ _ = Q0
  unfold fX6_sentence at hf
  refine lv_aload_n hx hb dX6_sentence_0 rfl (lv_at hl 0 rfl) ?_
  refine lv_iload_n hx hb dX6_sentence_1 rfl (lv_at hl 1 rfl) ?_
  obtain ⟨r1, h2, hf⟩ := bnd_el hf
  refine rdV (As := [.int p1]) (rest := []) ⟨hx, hb, hml, hown, hts⟩ (c_X6_isSentence l g aM _ _ _ h2) (cwV 1 hts gX6_sentence_X6_isSentence rfl rfl rfl (by decide +kernel) ⟨Nat.le_of_ble_eq_true rfl, Nat.le_of_ble_eq_true rfl⟩) hKW hP [0, 1, 2, 3, 4, 5, 6, 7, 8, 9, 10, 11] rfl (va_recv hK hP (ci := 6) (q0 := 0) rfl rfl) rfl hl.1 rfl (lv_room (Nat.le_of_ble_eq_true rfl)) dX6_sentence_2 ⟨Nat.zero_le _, Nat.zero_le _⟩ (fun r3 q4 => ?_)
  obtain ⟨q4, nb5⟩ := q4
  refine lv_as q4.symm ?_
  rw [q4] at nb5
  refine lv_if_eq (tgt := 17) hx hb dX6_sentence_5 (by decide) (fun c6 => ?_) (fun c6 => ?_)
  · have hf := ite_t hf c6
    refine lv_iconst (v := (-1)) hx hb dX6_sentence_17 (by decide) ?_
    have er0 := Option.some.inj hf
    rw [← hQ0]; exact W.iret (v := (-1)) hx hb hr (fun t ht hW => ⟨(-1), rfl, ⟨er0, trivial⟩, ht⟩) (fun q h => by cases h) dX6_sentence_18
  · have hf := ite_f hf c6
    refine lv_iload_n hx hb dX6_sentence_8 rfl (lv_at hl 2 rfl) ?_
    refine lv_iconst (v := 0) hx hb dX6_sentence_9 (by decide) ?_
    refine lv_iconst (v := 3) hx hb dX6_sentence_10 (by decide) ?_
    obtain ⟨r7, h8, hf⟩ := bnd_el hf
    refine rdS (As := [.int p2, .int 0, .int 3]) (rest := []) ⟨hx, hb, hml, hown, hts⟩ (c_X6_in l g _ _ _ _ h8) (va_cwS 3 hts gX6_sentence_X6_in rfl rfl rfl (by decide +kernel) ⟨Nat.le_of_ble_eq_true rfl, Nat.le_of_ble_eq_true rfl⟩) hKW hP [] rfl rfl hl.1 rfl (lv_room (Nat.le_of_ble_eq_true rfl)) dX6_sentence_11 ⟨Nat.zero_le _, Nat.zero_le _⟩ (fun r9 q10 => ?_)
    obtain ⟨q10, nb11⟩ := q10
    refine lv_as q10.symm ?_
    rw [q10] at nb11
    refine lv_if_ne (tgt := 19) hx hb dX6_sentence_14 (by decide) (fun c12 => ?_) (fun c12 => ?_)
    · have hf := ite_f hf c12
      refine lv_iconst (v := (-1)) hx hb dX6_sentence_19 (by decide) ?_
      refine lv_istore_n (lv' := [(3, .int (-1)), (0, .ref (aM 0)), (1, .int p1), (2, .int p2)]) hx hb dX6_sentence_20 rfl hl (by decide) rfl (fun ls hl => ?_)
      refine lv_iconst (v := 0) hx hb dX6_sentence_21 (by decide) ?_
      refine lv_istore (lv' := [(4, .int 0), (3, .int (-1)), (0, .ref (aM 0)), (1, .int p1), (2, .int p2)]) hx hb dX6_sentence_22 hl (by decide) rfl (fun ls hl => ?_)
      refine lv_iconst (v := 0) hx hb dX6_sentence_24 (by decide) ?_
      refine lv_istore (lv' := [(5, .int 0), (4, .int 0), (3, .int (-1)), (0, .ref (aM 0)), (1, .int p1), (2, .int p2)]) hx hb dX6_sentence_25 hl (by decide) rfl (fun ls hl => ?_)
      refine lv_iconst (v := 0) hx hb dX6_sentence_27 (by decide) ?_
      refine lv_istore (lv' := [(6, .int 0), (5, .int 0), (4, .int 0), (3, .int (-1)), (0, .ref (aM 0)), (1, .int p1), (2, .int p2)]) hx hb dX6_sentence_28 hl (by decide) rfl (fun ls hl => ?_)
      refine lv_iconst (v := 0) hx hb dX6_sentence_30 (by decide) ?_
      refine lv_istore (lv' := [(7, .int 0), (6, .int 0), (5, .int 0), (4, .int 0), (3, .int (-1)), (0, .ref (aM 0)), (1, .int p1), (2, .int p2)]) hx hb dX6_sentence_31 hl (by decide) rfl (fun ls hl => ?_)
      obtain ⟨j105, ej105, hf⟩ := sl_el hf
      have J_105 : ∀ (x2 x3 x4 x5 x6 : Int32) (ls : Array Slot), lv_has ls 8 [(2, .int x2), (3, .int x3), (4, .int x4), (5, .int x5), (6, .int x6)] → j105 x2 x3 x4 x5 x6 = some r → W p l e (headSpec wsX6_sentence rmX6_sentence).room s m args below meth c s.heap [] 0 0 Q0 (F0 m 105 ls []) := by
        intro x2 x3 x4 x5 x6 ls hl hf
        rw [ej105] at hf
        refine lv_iload_n hx hb dX6_sentence_105 rfl (lv_at hl 0 rfl) ?_
        refine lv_if_ne (tgt := 113) hx hb dX6_sentence_106 (by decide) (fun c13 => ?_) (fun c13 => ?_)
        · have hf := ite_f hf c13
          refine lv_iload_n hx hb dX6_sentence_113 rfl (lv_at hl 0 rfl) ?_
          refine lv_iconst (v := 1) hx hb dX6_sentence_114 (by decide) ?_
          refine lv_icmp_ne (tgt := 123) hx hb dX6_sentence_115 (by decide) (fun c14 => ?_) (fun c14 => ?_)
          · have hf := ite_f hf c14
            refine lv_iload_n hx hb dX6_sentence_123 rfl (lv_at hl 0 rfl) ?_
            refine lv_iconst (v := 2) hx hb dX6_sentence_124 (by decide) ?_
            refine lv_icmp_ne (tgt := 133) hx hb dX6_sentence_125 (by decide) (fun c15 => ?_) (fun c15 => ?_)
            · have hf := ite_f hf c15
              refine lv_iload hx hb dX6_sentence_133 (lv_at hl 4 rfl) ?_
              have er0 := Option.some.inj hf
              rw [← hQ0]; exact W.iret (v := x6) hx hb hr (fun t ht hW => ⟨x6, rfl, ⟨er0, trivial⟩, ht⟩) (fun q h => by cases h) dX6_sentence_135
            · have hf := ite_t hf c15
              refine lv_iload hx hb dX6_sentence_128 (lv_at hl 3 rfl) ?_
              refine lv_goto (tgt := 135) hx hb dX6_sentence_130 (by decide) ?_
              have er0 := Option.some.inj hf
              rw [← hQ0]; exact W.iret (v := x5) hx hb hr (fun t ht hW => ⟨x5, rfl, ⟨er0, trivial⟩, ht⟩) (fun q h => by cases h) dX6_sentence_135
          · have hf := ite_t hf c14
            refine lv_iload hx hb dX6_sentence_118 (lv_at hl 2 rfl) ?_
            refine lv_goto (tgt := 135) hx hb dX6_sentence_120 (by decide) ?_
            have er0 := Option.some.inj hf
            rw [← hQ0]; exact W.iret (v := x4) hx hb hr (fun t ht hW => ⟨x4, rfl, ⟨er0, trivial⟩, ht⟩) (fun q h => by cases h) dX6_sentence_135
        · have hf := ite_t hf c13
          refine lv_iload_n hx hb dX6_sentence_109 rfl (lv_at hl 1 rfl) ?_
          refine lv_goto (tgt := 135) hx hb dX6_sentence_110 (by decide) ?_
          have er0 := Option.some.inj hf
          rw [← hQ0]; exact W.iret (v := x3) hx hb hr (fun t ht hW => ⟨x3, rfl, ⟨er0, trivial⟩, ht⟩) (fun q h => by cases h) dX6_sentence_135
      have L_33 : ∀ fu : Nat, ∀ (x1 x2 x3 x4 x5 x6 x7 : Int32) (ls : Array Slot), lv_has ls 8 [(0, .ref (aM 0)), (1, .int x1), (2, .int x2), (3, .int x3), (4, .int x4), (5, .int x5), (6, .int x6), (7, .int x7)] → fX6_sentence_L33 n XM j105 fu x1 x2 x3 x4 x5 x6 x7 = some r → W p l e (headSpec wsX6_sentence rmX6_sentence).room s m args below meth c s.heap [] 0 0 Q0 (F0 m 33 ls []) := by
        intro fu
        induction fu with
        | zero => intros; rename_i hf; rw [fX6_sentence_L33] at hf; cases hf
        | succ fu ih =>
          intro x1 x2 x3 x4 x5 x6 x7 ls hl hf
          rw [fX6_sentence_L33] at hf
          refine lv_iload hx hb dX6_sentence_33 (lv_at hl 7 rfl) ?_
          refine lv_aload_n hx hb dX6_sentence_35 rfl (lv_at hl 0 rfl) ?_
          refine va_get (D := g.1) (ci := 6) (v := .int (XM 9 0)) (C := RX6) (T := TX6) (N := 19) hx hb hts i_X6 hown hK hP 0 rfl rfl 9 (by decide) (hts (.fieldLink RX6 45 "WordFlasherModel" "words" "I") (List.mem_of_getElem? (i := 1) rfl)) (fun _ h9 => h9) rfl dX6_sentence_36 ?_
          refine lv_icmp_ge (tgt := 105) hx hb dX6_sentence_39 (by decide) (fun c16 => ?_) (fun c16 => ?_)
          · have hf := ite_t hf c16
            exact J_105 x2 x3 x4 x5 x6 ls (lv_sub hl [2, 3, 4, 5, 6] rfl) hf
          · have hf := ite_f hf c16
            refine lv_aload_n hx hb dX6_sentence_42 rfl (lv_at hl 0 rfl) ?_
            refine va_get (D := g.1) (ci := 6) (v := .ref (aM 10)) (C := RX6) (T := TX6) (N := 19) hx hb hts i_X6 hown hK hP 0 rfl rfl 17 (by decide) (hts (.fieldLink RX6 39 "WordFlasherModel" "sentenceOf" "[I") (List.mem_of_getElem? (i := 2) rfl)) (fun _ h9 => h9) rfl dX6_sentence_43 ?_
            refine lv_iload hx hb dX6_sentence_46 (lv_at hl 7 rfl) ?_
            obtain ⟨h19, v17, e18, hf⟩ := rdA_el hf
            refine va_iald hx hb hK hP 10 0 rfl rfl h19 dX6_sentence_48 ?_
            refine lv_as e18 ?_
            refine lv_iload_n hx hb dX6_sentence_49 rfl (lv_at hl 1 rfl) ?_
            obtain ⟨j99, ej99, hf⟩ := sl_el hf
            have J_99 : ∀ (x1 x2 x3 x4 x5 x6 x7 : Int32) (ls : Array Slot), lv_has ls 8 [(0, .ref (aM 0)), (1, .int x1), (2, .int x2), (3, .int x3), (4, .int x4), (5, .int x5), (6, .int x6), (7, .int x7)] → j99 x1 x2 x3 x4 x5 x6 x7 = some r → W p l e (headSpec wsX6_sentence rmX6_sentence).room s m args below meth c s.heap [] 0 0 Q0 (F0 m 99 ls []) := by
              intro x1 x2 x3 x4 x5 x6 x7 ls hl hf
              rw [ej99] at hf
              obtain ⟨v20, e21, hf⟩ := sl_el hf
              refine lv_iinc (v := v20) (lv' := [(7, .int v20), (0, .ref (aM 0)), (1, .int x1), (2, .int x2), (3, .int x3), (4, .int x4), (5, .int x5), (6, .int x6)]) hx hb dX6_sentence_99 hl (k := 7) rfl (by rw [e21]; rfl) (by decide) rfl (fun ls hl => ?_)
              refine lv_goto (tgt := 33) hx hb dX6_sentence_102 (by decide) ?_
              exact ih x1 x2 x3 x4 x5 x6 v20 ls (lv_sub hl [1, 2, 3, 4, 5, 6, 7, 0] rfl) hf
            refine lv_icmp_ne (tgt := 99) hx hb dX6_sentence_50 (by decide) (fun c22 => ?_) (fun c22 => ?_)
            · have hf := ite_f hf c22
              exact J_99 x1 x2 x3 x4 x5 x6 x7 ls (lv_sub hl [0, 1, 2, 3, 4, 5, 6, 7] rfl) hf
            · have hf := ite_t hf c22
              refine lv_iload_n hx hb dX6_sentence_53 rfl (lv_at hl 3 rfl) ?_
              refine lv_iconst (v := (-1)) hx hb dX6_sentence_54 (by decide) ?_
              obtain ⟨j64, ej64, hf⟩ := sl_el hf
              have J_64 : ∀ (x1 x2 x5 x6 x7 k0 : Int32) (ls : Array Slot), lv_has ls 8 [(0, .ref (aM 0)), (1, .int x1), (2, .int x2), (5, .int x5), (6, .int x6), (7, .int x7)] → j64 x1 x2 x5 x6 x7 k0 = some r → W p l e (headSpec wsX6_sentence rmX6_sentence).room s m args below meth c s.heap [] 0 0 Q0 (F0 m 64 ls [.int k0]) := by
                intro x1 x2 x5 x6 x7 k0 ls hl hf
                rw [ej64] at hf
                refine lv_istore_n (lv' := [(3, .int k0), (0, .ref (aM 0)), (1, .int x1), (2, .int x2), (5, .int x5), (6, .int x6), (7, .int x7)]) hx hb dX6_sentence_64 rfl hl (by decide) rfl (fun ls hl => ?_)
                refine lv_iload hx hb dX6_sentence_65 (lv_at hl 6 rfl) ?_
                refine lv_istore (lv' := [(4, .int x7), (3, .int k0), (0, .ref (aM 0)), (1, .int x1), (2, .int x2), (5, .int x5), (6, .int x6), (7, .int x7)]) hx hb dX6_sentence_67 hl (by decide) rfl (fun ls hl => ?_)
                refine lv_iload hx hb dX6_sentence_69 (lv_at hl 5 rfl) ?_
                refine lv_aload_n hx hb dX6_sentence_71 rfl (lv_at hl 2 rfl) ?_
                refine lv_iload hx hb dX6_sentence_72 (lv_at hl 7 rfl) ?_
                obtain ⟨r23, h24, hf⟩ := bnd_el hf
                refine rdV (As := [.int x7]) (rest := [.int x5]) ⟨hx, hb, hml, hown, hts⟩ (c_X6_timeOf l g aM _ _ _ h24) (cwV 1 hts gX6_sentence_X6_timeOf rfl rfl rfl (by decide +kernel) ⟨Nat.le_of_ble_eq_true rfl, Nat.le_of_ble_eq_true rfl⟩) hKW hP [0, 1, 2, 3, 4, 5, 6, 7, 8, 9, 10, 11] rfl (va_recv hK hP (ci := 6) (q0 := 0) rfl rfl) rfl hl.1 rfl (lv_room (Nat.le_of_ble_eq_true rfl)) dX6_sentence_74 ⟨Nat.zero_le _, Nat.zero_le _⟩ (fun r25 q26 => ?_)
                obtain ⟨q26, nb27⟩ := q26
                refine lv_as q26.symm ?_
                refine lv_iadd hx hb dX6_sentence_77 ?_
                obtain ⟨v28, e29, hf⟩ := sl_el hf
                refine lv_as e29 ?_
                refine lv_istore (lv' := [(5, .int v28), (4, .int x7), (3, .int k0), (0, .ref (aM 0)), (1, .int x1), (2, .int x2), (6, .int x6), (7, .int x7)]) hx hb dX6_sentence_78 hl (by decide) rfl (fun ls hl => ?_)
                refine lv_iload hx hb dX6_sentence_80 (lv_at hl 6 rfl) ?_
                refine lv_aload_n hx hb dX6_sentence_82 rfl (lv_at hl 3 rfl) ?_
                refine lv_iload hx hb dX6_sentence_83 (lv_at hl 7 rfl) ?_
                obtain ⟨r30, h31, hf⟩ := bnd_el hf
                refine rdV (As := [.int x7]) (rest := [.int x6]) ⟨hx, hb, hml, hown, hts⟩ (c_X6_isShown l g aM _ _ _ h31) (cwV 1 hts gX6_sentence_X6_isShown rfl rfl rfl (by decide +kernel) ⟨Nat.le_of_ble_eq_true rfl, Nat.le_of_ble_eq_true rfl⟩) hKW hP [0, 1, 2, 3, 4, 5, 6, 7, 8, 9, 10, 11] rfl (va_recv hK hP (ci := 6) (q0 := 0) rfl rfl) rfl hl.1 rfl (lv_room (Nat.le_of_ble_eq_true rfl)) dX6_sentence_85 ⟨Nat.zero_le _, Nat.zero_le _⟩ (fun r32 q33 => ?_)
                obtain ⟨q33, nb34⟩ := q33
                refine lv_as q33.symm ?_
                rw [q33] at nb34
                obtain ⟨j96, ej96, hf⟩ := sl_el hf
                have J_96 : ∀ (x1 x2 x3 x4 x5 x7 k0 k1 : Int32) (ls : Array Slot), lv_has ls 8 [(0, .ref (aM 0)), (1, .int x1), (2, .int x2), (3, .int x3), (4, .int x4), (5, .int x5), (7, .int x7)] → j96 x1 x2 x3 x4 x5 x7 k0 k1 = some r → W p l e (headSpec wsX6_sentence rmX6_sentence).room s m args below meth c s.heap [] 0 0 Q0 (F0 m 96 ls [.int k1, .int k0]) := by
                  intro x1 x2 x3 x4 x5 x7 k0 k1 ls hl hf
                  rw [ej96] at hf
                  refine lv_iadd hx hb dX6_sentence_96 ?_
                  obtain ⟨v35, e36, hf⟩ := sl_el hf
                  refine lv_as e36 ?_
                  refine lv_istore (lv' := [(6, .int v35), (0, .ref (aM 0)), (1, .int x1), (2, .int x2), (3, .int x3), (4, .int x4), (5, .int x5), (7, .int x7)]) hx hb dX6_sentence_97 hl (by decide) rfl (fun ls hl => ?_)
                  exact J_99 x1 x2 x3 x4 x5 v35 x7 ls (lv_sub hl [1, 2, 3, 4, 5, 6, 0, 7] rfl) hf
                refine lv_if_eq (tgt := 95) hx hb dX6_sentence_88 (by decide) (fun c37 => ?_) (fun c37 => ?_)
                · have hf := ite_t hf c37
                  refine lv_iconst (v := 0) hx hb dX6_sentence_95 (by decide) ?_
                  exact J_96 x1 x2 k0 x7 v28 x7 x6 0 ls (lv_sub hl [3, 4, 5, 2, 1, 0, 7] rfl) hf
                · have hf := ite_f hf c37
                  refine lv_iconst (v := 1) hx hb dX6_sentence_91 (by decide) ?_
                  refine lv_goto (tgt := 96) hx hb dX6_sentence_92 (by decide) ?_
                  exact J_96 x1 x2 k0 x7 v28 x7 x6 1 ls (lv_sub hl [3, 4, 5, 2, 1, 0, 7] rfl) hf
              refine lv_icmp_ne (tgt := 63) hx hb dX6_sentence_55 (by decide) (fun c38 => ?_) (fun c38 => ?_)
              · have hf := ite_f hf c38
                refine lv_iload_n hx hb dX6_sentence_63 rfl (lv_at hl 3 rfl) ?_
                exact J_64 x1 x2 x5 x6 x7 x3 ls (lv_sub hl [0, 1, 2, 5, 6, 7] rfl) hf
              · have hf := ite_t hf c38
                refine lv_iload hx hb dX6_sentence_58 (lv_at hl 7 rfl) ?_
                refine lv_goto (tgt := 64) hx hb dX6_sentence_60 (by decide) ?_
                exact J_64 x1 x2 x5 x6 x7 x7 ls (lv_sub hl [0, 1, 2, 5, 6, 7] rfl) hf
      exact L_33 n p1 p2 (-1) 0 0 0 0 ls (lv_sub hl [5, 6, 7, 4, 3, 2, 1, 0] rfl) hf
    · have hf := ite_t hf c12
      refine lv_iconst (v := (-1)) hx hb dX6_sentence_17 (by decide) ?_
      have er0 := Option.some.inj hf
      rw [← hQ0]; exact W.iret (v := (-1)) hx hb hr (fun t ht hW => ⟨(-1), rfl, ⟨er0, trivial⟩, ht⟩) (fun q h => by cases h) dX6_sentence_18
abbrev rmX6_page : Room := { frames := 3, cells := 0, slots := 0, locals := 67 }
set_option maxHeartbeats 8000000 in
set_option maxRecDepth 100000 in
theorem c_X6_page (l : Launch) (g : GG) (aM : Nat → Nat) (n : Nat) (XM : DM) (p1 p2 : Int32) (r : Int32) (hf : fX6_page n XM p1 p2 = some r) : Met l yX6_page wsX6_page rmX6_page (va_Pc [.ref (aM 0), .int p1, .int p2] (fun U => va_P g.1 vwCl (pM g aM XM) U.heap ∧ KW g U)) (vp_Si (fun r' => r' = r ∧ True)) 0 0 (fun _ => False) := by
  refine Met.ofW (cc := cX6_page) (maxL := 7) (ret := (some .int)) (by decide) rfl ?_
  intro p e s m args below meth c s₁ B hml hv
  obtain ⟨hargs, hP, hKW⟩ := hv
  have hK := hKW.1
  have hx := B.exec
  have hb := B.bytes
  have hr := B.returns
  have hts := atoms_spec (ws := wsX6_page) B.pre
  have hown : s.vm.findClass RX6 = some m.cls := findClass_of_methodNamed B.named
  have hlocks := B.notSynchronized
  have i_X6 : ∀ w ∈ wsX60, w ∈ wsX6_page := fun w h => List.mem_cons_of_mem _ (List.mem_append_right _ h)
  have hent : entryFrame m args 7 = F0 m 0 ((lg_sl ([.ref (aM 0), .int p1, .int p2]) ++ List.replicate (7 - (lg_sl ([.ref (aM 0), .int p1, .int p2])).length) Slot.unset).toArray) [] := by rw [hargs]; exact lg_entry_eq _ _ _
  rw [hent]
  have hl := lv_entry ([.ref (aM 0), .int p1, .int p2]) (n := 7) (Nat.le_of_ble_eq_true rfl)
  generalize (lg_sl ([.ref (aM 0), .int p1, .int p2]) ++ List.replicate (7 - (lg_sl ([.ref (aM 0), .int p1, .int p2])).length) Slot.unset).toArray = ls at hl ⊢
  have hl : lv_has ls 7 [(0, .ref (aM 0)), (1, .int p1), (2, .int p2)] := hl
  generalize hQ0 : MQ below _ _ _ _ _ _ = Q0
  unfold fX6_page at hf
  refine lv_aload_n hx hb dX6_page_0 rfl (lv_at hl 0 rfl) ?_
  refine lv_iload_n hx hb dX6_page_1 rfl (lv_at hl 1 rfl) ?_
  obtain ⟨r1, h2, hf⟩ := bnd_el hf
  refine rdV (As := [.int p1]) (rest := []) ⟨hx, hb, hml, hown, hts⟩ (c_X6_isPage l g aM _ _ _ h2) (cwV 1 hts gX6_page_X6_isPage rfl rfl rfl (by decide +kernel) ⟨Nat.le_of_ble_eq_true rfl, Nat.le_of_ble_eq_true rfl⟩) hKW hP [0, 1, 2, 3, 4, 5, 6, 7, 8, 9, 10, 11] rfl (va_recv hK hP (ci := 6) (q0 := 0) rfl rfl) rfl hl.1 rfl (lv_room (Nat.le_of_ble_eq_true rfl)) dX6_page_2 ⟨Nat.zero_le _, Nat.zero_le _⟩ (fun r3 q4 => ?_)
  obtain ⟨q4, nb5⟩ := q4
  refine lv_as q4.symm ?_
  rw [q4] at nb5
  refine lv_if_eq (tgt := 17) hx hb dX6_page_5 (by decide) (fun c6 => ?_) (fun c6 => ?_)
  · have hf := ite_t hf c6
    refine lv_iconst (v := (-1)) hx hb dX6_page_17 (by decide) ?_
    have er0 := Option.some.inj hf
    rw [← hQ0]; exact W.iret (v := (-1)) hx hb hr (fun t ht hW => ⟨(-1), rfl, ⟨er0, trivial⟩, ht⟩) (fun q h => by cases h) dX6_page_18
  · have hf := ite_f hf c6
    refine lv_iload_n hx hb dX6_page_8 rfl (lv_at hl 2 rfl) ?_
    refine lv_iconst (v := 0) hx hb dX6_page_9 (by decide) ?_
    refine lv_iconst (v := 3) hx hb dX6_page_10 (by decide) ?_
    obtain ⟨r7, h8, hf⟩ := bnd_el hf
    refine rdS (As := [.int p2, .int 0, .int 3]) (rest := []) ⟨hx, hb, hml, hown, hts⟩ (c_X6_in l g _ _ _ _ h8) (va_cwS 3 hts gX6_page_X6_in rfl rfl rfl (by decide +kernel) ⟨Nat.le_of_ble_eq_true rfl, Nat.le_of_ble_eq_true rfl⟩) hKW hP [] rfl rfl hl.1 rfl (lv_room (Nat.le_of_ble_eq_true rfl)) dX6_page_11 ⟨Nat.zero_le _, Nat.zero_le _⟩ (fun r9 q10 => ?_)
    obtain ⟨q10, nb11⟩ := q10
    refine lv_as q10.symm ?_
    rw [q10] at nb11
    refine lv_if_ne (tgt := 19) hx hb dX6_page_14 (by decide) (fun c12 => ?_) (fun c12 => ?_)
    · have hf := ite_f hf c12
      refine lv_iconst (v := (-1)) hx hb dX6_page_19 (by decide) ?_
      refine lv_istore_n (lv' := [(3, .int (-1)), (0, .ref (aM 0)), (1, .int p1), (2, .int p2)]) hx hb dX6_page_20 rfl hl (by decide) rfl (fun ls hl => ?_)
      refine lv_iconst (v := 0) hx hb dX6_page_21 (by decide) ?_
      refine lv_istore (lv' := [(4, .int 0), (3, .int (-1)), (0, .ref (aM 0)), (1, .int p1), (2, .int p2)]) hx hb dX6_page_22 hl (by decide) rfl (fun ls hl => ?_)
      refine lv_iconst (v := 0) hx hb dX6_page_24 (by decide) ?_
      refine lv_istore (lv' := [(5, .int 0), (4, .int 0), (3, .int (-1)), (0, .ref (aM 0)), (1, .int p1), (2, .int p2)]) hx hb dX6_page_25 hl (by decide) rfl (fun ls hl => ?_)
      refine lv_iconst (v := 0) hx hb dX6_page_27 (by decide) ?_
      refine lv_istore (lv' := [(6, .int 0), (5, .int 0), (4, .int 0), (3, .int (-1)), (0, .ref (aM 0)), (1, .int p1), (2, .int p2)]) hx hb dX6_page_28 hl (by decide) rfl (fun ls hl => ?_)
      obtain ⟨j83, ej83, hf⟩ := sl_el hf
      have J_83 : ∀ (x2 x3 x4 x5 : Int32) (ls : Array Slot), lv_has ls 7 [(0, .ref (aM 0)), (2, .int x2), (3, .int x3), (4, .int x4), (5, .int x5)] → j83 x2 x3 x4 x5 = some r → W p l e (headSpec wsX6_page rmX6_page).room s m args below meth c s.heap [] 0 0 Q0 (F0 m 83 ls []) := by
        intro x2 x3 x4 x5 ls hl hf
        rw [ej83] at hf
        refine lv_iload_n hx hb dX6_page_83 rfl (lv_at hl 1 rfl) ?_
        refine lv_if_ne (tgt := 91) hx hb dX6_page_84 (by decide) (fun c13 => ?_) (fun c13 => ?_)
        · have hf := ite_f hf c13
          refine lv_iload_n hx hb dX6_page_91 rfl (lv_at hl 1 rfl) ?_
          refine lv_iconst (v := 1) hx hb dX6_page_92 (by decide) ?_
          refine lv_icmp_ne (tgt := 101) hx hb dX6_page_93 (by decide) (fun c14 => ?_) (fun c14 => ?_)
          · have hf := ite_f hf c14
            refine lv_iload_n hx hb dX6_page_101 rfl (lv_at hl 1 rfl) ?_
            refine lv_iconst (v := 2) hx hb dX6_page_102 (by decide) ?_
            refine lv_icmp_ne (tgt := 111) hx hb dX6_page_103 (by decide) (fun c15 => ?_) (fun c15 => ?_)
            · have hf := ite_f hf c15
              refine lv_aload_n hx hb dX6_page_111 rfl (lv_at hl 0 rfl) ?_
              refine va_get (D := g.1) (ci := 6) (v := .ref (aM 10)) (C := RX6) (T := TX6) (N := 19) hx hb hts i_X6 hown hK hP 0 rfl rfl 17 (by decide) (hts (.fieldLink RX6 39 "WordFlasherModel" "sentenceOf" "[I") (List.mem_of_getElem? (i := 3) rfl)) (fun _ h9 => h9) rfl dX6_page_112 ?_
              refine lv_iload hx hb dX6_page_115 (lv_at hl 3 rfl) ?_
              obtain ⟨h18, v16, e17, hf⟩ := rdA_el hf
              refine va_iald hx hb hK hP 10 0 rfl rfl h18 dX6_page_117 ?_
              refine lv_as e17 ?_
              refine lv_aload_n hx hb dX6_page_118 rfl (lv_at hl 0 rfl) ?_
              refine va_get (D := g.1) (ci := 6) (v := .ref (aM 10)) (C := RX6) (T := TX6) (N := 19) hx hb hts i_X6 hown hK hP 0 rfl rfl 17 (by decide) (hts (.fieldLink RX6 39 "WordFlasherModel" "sentenceOf" "[I") (List.mem_of_getElem? (i := 3) rfl)) (fun _ h9 => h9) rfl dX6_page_119 ?_
              refine lv_iload_n hx hb dX6_page_122 rfl (lv_at hl 2 rfl) ?_
              obtain ⟨h21, v19, e20, hf⟩ := rdA_el hf
              refine va_iald hx hb hK hP 10 0 rfl rfl h21 dX6_page_123 ?_
              refine lv_as e20 ?_
              refine lv_isub hx hb dX6_page_124 ?_
              refine lv_iconst (v := 1) hx hb dX6_page_125 (by decide) ?_
              refine lv_iadd hx hb dX6_page_126 ?_
              have er0 := Option.some.inj hf
              rw [← hQ0]; exact W.iret (v := ((v16 - v19) + 1)) hx hb hr (fun t ht hW => ⟨((v16 - v19) + 1), rfl, ⟨er0, trivial⟩, ht⟩) (fun q h => by cases h) dX6_page_127
            · have hf := ite_t hf c15
              refine lv_iload hx hb dX6_page_106 (lv_at hl 4 rfl) ?_
              refine lv_goto (tgt := 127) hx hb dX6_page_108 (by decide) ?_
              have er0 := Option.some.inj hf
              rw [← hQ0]; exact W.iret (v := x5) hx hb hr (fun t ht hW => ⟨x5, rfl, ⟨er0, trivial⟩, ht⟩) (fun q h => by cases h) dX6_page_127
          · have hf := ite_t hf c14
            refine lv_iload hx hb dX6_page_96 (lv_at hl 3 rfl) ?_
            refine lv_goto (tgt := 127) hx hb dX6_page_98 (by decide) ?_
            have er0 := Option.some.inj hf
            rw [← hQ0]; exact W.iret (v := x4) hx hb hr (fun t ht hW => ⟨x4, rfl, ⟨er0, trivial⟩, ht⟩) (fun q h => by cases h) dX6_page_127
        · have hf := ite_t hf c13
          refine lv_iload_n hx hb dX6_page_87 rfl (lv_at hl 2 rfl) ?_
          refine lv_goto (tgt := 127) hx hb dX6_page_88 (by decide) ?_
          have er0 := Option.some.inj hf
          rw [← hQ0]; exact W.iret (v := x3) hx hb hr (fun t ht hW => ⟨x3, rfl, ⟨er0, trivial⟩, ht⟩) (fun q h => by cases h) dX6_page_127
      have L_30 : ∀ fu : Nat, ∀ (x1 x2 x3 x4 x5 x6 : Int32) (ls : Array Slot), lv_has ls 7 [(0, .ref (aM 0)), (1, .int x1), (2, .int x2), (3, .int x3), (4, .int x4), (5, .int x5), (6, .int x6)] → fX6_page_L30 n XM j83 fu x1 x2 x3 x4 x5 x6 = some r → W p l e (headSpec wsX6_page rmX6_page).room s m args below meth c s.heap [] 0 0 Q0 (F0 m 30 ls []) := by
        intro fu
        induction fu with
        | zero => intros; rename_i hf; rw [fX6_page_L30] at hf; cases hf
        | succ fu ih =>
          intro x1 x2 x3 x4 x5 x6 ls hl hf
          rw [fX6_page_L30] at hf
          refine lv_iload hx hb dX6_page_30 (lv_at hl 6 rfl) ?_
          refine lv_aload_n hx hb dX6_page_32 rfl (lv_at hl 0 rfl) ?_
          refine va_get (D := g.1) (ci := 6) (v := .int (XM 9 0)) (C := RX6) (T := TX6) (N := 19) hx hb hts i_X6 hown hK hP 0 rfl rfl 9 (by decide) (hts (.fieldLink RX6 45 "WordFlasherModel" "words" "I") (List.mem_of_getElem? (i := 1) rfl)) (fun _ h9 => h9) rfl dX6_page_33 ?_
          refine lv_icmp_ge (tgt := 83) hx hb dX6_page_36 (by decide) (fun c22 => ?_) (fun c22 => ?_)
          · have hf := ite_t hf c22
            exact J_83 x2 x3 x4 x5 ls (lv_sub hl [0, 2, 3, 4, 5] rfl) hf
          · have hf := ite_f hf c22
            refine lv_aload_n hx hb dX6_page_39 rfl (lv_at hl 0 rfl) ?_
            refine va_get (D := g.1) (ci := 6) (v := .ref (aM 11)) (C := RX6) (T := TX6) (N := 19) hx hb hts i_X6 hown hK hP 0 rfl rfl 18 (by decide) (hts (.fieldLink RX6 42 "WordFlasherModel" "pageOf" "[I") (List.mem_of_getElem? (i := 2) rfl)) (fun _ h9 => h9) rfl dX6_page_40 ?_
            refine lv_iload hx hb dX6_page_43 (lv_at hl 6 rfl) ?_
            obtain ⟨h25, v23, e24, hf⟩ := rdA_el hf
            refine va_iald hx hb hK hP 11 0 rfl rfl h25 dX6_page_45 ?_
            refine lv_as e24 ?_
            refine lv_iload_n hx hb dX6_page_46 rfl (lv_at hl 1 rfl) ?_
            obtain ⟨j77, ej77, hf⟩ := sl_el hf
            have J_77 : ∀ (x1 x2 x3 x4 x5 x6 : Int32) (ls : Array Slot), lv_has ls 7 [(0, .ref (aM 0)), (1, .int x1), (2, .int x2), (3, .int x3), (4, .int x4), (5, .int x5), (6, .int x6)] → j77 x1 x2 x3 x4 x5 x6 = some r → W p l e (headSpec wsX6_page rmX6_page).room s m args below meth c s.heap [] 0 0 Q0 (F0 m 77 ls []) := by
              intro x1 x2 x3 x4 x5 x6 ls hl hf
              rw [ej77] at hf
              obtain ⟨v26, e27, hf⟩ := sl_el hf
              refine lv_iinc (v := v26) (lv' := [(6, .int v26), (0, .ref (aM 0)), (1, .int x1), (2, .int x2), (3, .int x3), (4, .int x4), (5, .int x5)]) hx hb dX6_page_77 hl (k := 6) rfl (by rw [e27]; rfl) (by decide) rfl (fun ls hl => ?_)
              refine lv_goto (tgt := 30) hx hb dX6_page_80 (by decide) ?_
              exact ih x1 x2 x3 x4 x5 v26 ls (lv_sub hl [1, 2, 3, 4, 5, 6, 0] rfl) hf
            refine lv_icmp_ne (tgt := 77) hx hb dX6_page_47 (by decide) (fun c28 => ?_) (fun c28 => ?_)
            · have hf := ite_f hf c28
              exact J_77 x1 x2 x3 x4 x5 x6 ls (lv_sub hl [0, 1, 2, 3, 4, 5, 6] rfl) hf
            · have hf := ite_t hf c28
              refine lv_iload_n hx hb dX6_page_50 rfl (lv_at hl 3 rfl) ?_
              refine lv_iconst (v := (-1)) hx hb dX6_page_51 (by decide) ?_
              obtain ⟨j61, ej61, hf⟩ := sl_el hf
              have J_61 : ∀ (x1 x2 x5 x6 k0 : Int32) (ls : Array Slot), lv_has ls 7 [(0, .ref (aM 0)), (1, .int x1), (2, .int x2), (5, .int x5), (6, .int x6)] → j61 x1 x2 x5 x6 k0 = some r → W p l e (headSpec wsX6_page rmX6_page).room s m args below meth c s.heap [] 0 0 Q0 (F0 m 61 ls [.int k0]) := by
                intro x1 x2 x5 x6 k0 ls hl hf
                rw [ej61] at hf
                refine lv_istore_n (lv' := [(3, .int k0), (0, .ref (aM 0)), (1, .int x1), (2, .int x2), (5, .int x5), (6, .int x6)]) hx hb dX6_page_61 rfl hl (by decide) rfl (fun ls hl => ?_)
                refine lv_iload hx hb dX6_page_62 (lv_at hl 5 rfl) ?_
                refine lv_istore (lv' := [(4, .int x6), (3, .int k0), (0, .ref (aM 0)), (1, .int x1), (2, .int x2), (5, .int x5), (6, .int x6)]) hx hb dX6_page_64 hl (by decide) rfl (fun ls hl => ?_)
                refine lv_iload hx hb dX6_page_66 (lv_at hl 5 rfl) ?_
                refine lv_aload_n hx hb dX6_page_68 rfl (lv_at hl 2 rfl) ?_
                refine lv_iload hx hb dX6_page_69 (lv_at hl 6 rfl) ?_
                obtain ⟨r29, h30, hf⟩ := bnd_el hf
                refine rdV (As := [.int x6]) (rest := [.int x5]) ⟨hx, hb, hml, hown, hts⟩ (c_X6_timeOf l g aM _ _ _ h30) (cwV 1 hts gX6_page_X6_timeOf rfl rfl rfl (by decide +kernel) ⟨Nat.le_of_ble_eq_true rfl, Nat.le_of_ble_eq_true rfl⟩) hKW hP [0, 1, 2, 3, 4, 5, 6, 7, 8, 9, 10, 11] rfl (va_recv hK hP (ci := 6) (q0 := 0) rfl rfl) rfl hl.1 rfl (lv_room (Nat.le_of_ble_eq_true rfl)) dX6_page_71 ⟨Nat.zero_le _, Nat.zero_le _⟩ (fun r31 q32 => ?_)
                obtain ⟨q32, nb33⟩ := q32
                refine lv_as q32.symm ?_
                refine lv_iadd hx hb dX6_page_74 ?_
                obtain ⟨v34, e35, hf⟩ := sl_el hf
                refine lv_as e35 ?_
                refine lv_istore (lv' := [(5, .int v34), (4, .int x6), (3, .int k0), (0, .ref (aM 0)), (1, .int x1), (2, .int x2), (6, .int x6)]) hx hb dX6_page_75 hl (by decide) rfl (fun ls hl => ?_)
                exact J_77 x1 x2 k0 x6 v34 x6 ls (lv_sub hl [3, 4, 5, 2, 1, 0, 6] rfl) hf
              refine lv_icmp_ne (tgt := 60) hx hb dX6_page_52 (by decide) (fun c36 => ?_) (fun c36 => ?_)
              · have hf := ite_f hf c36
                refine lv_iload_n hx hb dX6_page_60 rfl (lv_at hl 3 rfl) ?_
                exact J_61 x1 x2 x5 x6 x3 ls (lv_sub hl [0, 1, 2, 5, 6] rfl) hf
              · have hf := ite_t hf c36
                refine lv_iload hx hb dX6_page_55 (lv_at hl 6 rfl) ?_
                refine lv_goto (tgt := 61) hx hb dX6_page_57 (by decide) ?_
                exact J_61 x1 x2 x5 x6 x6 ls (lv_sub hl [0, 1, 2, 5, 6] rfl) hf
      exact L_30 n p1 p2 (-1) 0 0 0 ls (lv_sub hl [4, 5, 6, 3, 2, 1, 0] rfl) hf
    · have hf := ite_t hf c12
      refine lv_iconst (v := (-1)) hx hb dX6_page_17 (by decide) ?_
      have er0 := Option.some.inj hf
      rw [← hQ0]; exact W.iret (v := (-1)) hx hb hr (fun t ht hW => ⟨(-1), rfl, ⟨er0, trivial⟩, ht⟩) (fun q h => by cases h) dX6_page_18
abbrev rmX6_count : Room := { frames := 3, cells := 0, slots := 0, locals := 67 }
set_option maxHeartbeats 8000000 in
set_option maxRecDepth 100000 in
theorem c_X6_count (l : Launch) (g : GG) (aM : Nat → Nat) (n : Nat) (XM : DM) (p1 : Int32) (r : Int32) (hf : fX6_count n XM p1 = some r) : Met l yX6_count wsX6_count rmX6_count (va_Pc [.ref (aM 0), .int p1] (fun U => va_P g.1 vwCl (pM g aM XM) U.heap ∧ KW g U)) (vp_Si (fun r' => r' = r ∧ True)) 0 0 (fun _ => False) := by
  refine Met.ofW (cc := cX6_count) (maxL := 4) (ret := (some .int)) (by decide) rfl ?_
  intro p e s m args below meth c s₁ B hml hv
  obtain ⟨hargs, hP, hKW⟩ := hv
  have hK := hKW.1
  have hx := B.exec
  have hb := B.bytes
  have hr := B.returns
  have hts := atoms_spec (ws := wsX6_count) B.pre
  have hown : s.vm.findClass RX6 = some m.cls := findClass_of_methodNamed B.named
  have hlocks := B.notSynchronized
  have i_X6 : ∀ w ∈ wsX60, w ∈ wsX6_count := fun w h => List.mem_cons_of_mem _ (List.mem_append_right _ h)
  have hent : entryFrame m args 4 = F0 m 0 ((lg_sl ([.ref (aM 0), .int p1]) ++ List.replicate (4 - (lg_sl ([.ref (aM 0), .int p1])).length) Slot.unset).toArray) [] := by rw [hargs]; exact lg_entry_eq _ _ _
  rw [hent]
  have hl := lv_entry ([.ref (aM 0), .int p1]) (n := 4) (Nat.le_of_ble_eq_true rfl)
  generalize (lg_sl ([.ref (aM 0), .int p1]) ++ List.replicate (4 - (lg_sl ([.ref (aM 0), .int p1])).length) Slot.unset).toArray = ls at hl ⊢
  have hl : lv_has ls 4 [(0, .ref (aM 0)), (1, .int p1)] := hl
  generalize hQ0 : MQ below _ _ _ _ _ _ = Q0
  unfold fX6_count at hf
  refine lv_iload_n hx hb dX6_count_0 rfl (lv_at hl 1 rfl) ?_
  refine lv_bipush (v := 20) hx hb dX6_count_1 (by decide) ?_
  refine lv_bipush (v := 26) hx hb dX6_count_3 (by decide) ?_
  obtain ⟨r1, h2, hf⟩ := bnd_el hf
  refine rdS (As := [.int p1, .int 20, .int 26]) (rest := []) ⟨hx, hb, hml, hown, hts⟩ (c_X6_in l g _ _ _ _ h2) (va_cwS 3 hts gX6_count_X6_in rfl rfl rfl (by decide +kernel) ⟨Nat.le_of_ble_eq_true rfl, Nat.le_of_ble_eq_true rfl⟩) hKW hP [] rfl rfl hl.1 rfl (lv_room (Nat.le_of_ble_eq_true rfl)) dX6_count_5 ⟨Nat.zero_le _, Nat.zero_le _⟩ (fun r3 q4 => ?_)
  obtain ⟨q4, nb5⟩ := q4
  refine lv_as q4.symm ?_
  rw [q4] at nb5
  refine lv_if_eq (tgt := 25) hx hb dX6_count_8 (by decide) (fun c6 => ?_) (fun c6 => ?_)
  · have hf := ite_t hf c6
    refine lv_iload_n hx hb dX6_count_25 rfl (lv_at hl 1 rfl) ?_
    refine lv_bipush (v := 30) hx hb dX6_count_26 (by decide) ?_
    refine lv_bipush (v := 32) hx hb dX6_count_28 (by decide) ?_
    obtain ⟨r7, h8, hf⟩ := bnd_el hf
    refine rdS (As := [.int p1, .int 30, .int 32]) (rest := []) ⟨hx, hb, hml, hown, hts⟩ (c_X6_in l g _ _ _ _ h8) (va_cwS 3 hts gX6_count_X6_in rfl rfl rfl (by decide +kernel) ⟨Nat.le_of_ble_eq_true rfl, Nat.le_of_ble_eq_true rfl⟩) hKW hP [] rfl rfl hl.1 rfl (lv_room (Nat.le_of_ble_eq_true rfl)) dX6_count_30 ⟨Nat.zero_le _, Nat.zero_le _⟩ (fun r9 q10 => ?_)
    obtain ⟨q10, nb11⟩ := q10
    refine lv_as q10.symm ?_
    rw [q10] at nb11
    refine lv_if_eq (tgt := 50) hx hb dX6_count_33 (by decide) (fun c12 => ?_) (fun c12 => ?_)
    · have hf := ite_t hf c12
      refine lv_iconst (v := 0) hx hb dX6_count_50 (by decide) ?_
      refine lv_istore_n (lv' := [(2, .int 0), (0, .ref (aM 0)), (1, .int p1)]) hx hb dX6_count_51 rfl hl (by decide) rfl (fun ls hl => ?_)
      refine lv_iconst (v := 0) hx hb dX6_count_52 (by decide) ?_
      refine lv_istore_n (lv' := [(3, .int 0), (2, .int 0), (0, .ref (aM 0)), (1, .int p1)]) hx hb dX6_count_53 rfl hl (by decide) rfl (fun ls hl => ?_)
      obtain ⟨j76, ej76, hf⟩ := sl_el hf
      have J_76 : ∀ (x1 x2 : Int32) (ls : Array Slot), lv_has ls 4 [(0, .ref (aM 0)), (1, .int x1), (2, .int x2)] → j76 x1 x2 = some r → W p l e (headSpec wsX6_count rmX6_count).room s m args below meth c s.heap [] 0 0 Q0 (F0 m 76 ls []) := by
        intro x1 x2 ls hl hf
        rw [ej76] at hf
        refine lv_iload_n hx hb dX6_count_76 rfl (lv_at hl 1 rfl) ?_
        by_cases c13 : x1 = 0
        · have hf := ite_t hf c13
          refine lv_tableIn (tgt := 148) (off := 71) hx hb dX6_count_77 (by rw [c13]; decide) (by rw [c13]; decide) (by rw [c13]; rfl) (by decide) ?_
          refine lv_aload_n hx hb dX6_count_148 rfl (lv_at hl 0 rfl) ?_
          refine va_get (D := g.1) (ci := 6) (v := .ref (aM 1)) (C := RX6) (T := TX6) (N := 19) hx hb hts i_X6 hown hK hP 0 rfl rfl 0 (by decide) (hts (.fieldLink RX6 7 "WordFlasherModel" "d" "[I") (List.mem_of_getElem? (i := 1) rfl)) (fun _ h9 => h9) rfl dX6_count_149 ?_
          refine lv_iconst (v := 0) hx hb dX6_count_152 (by decide) ?_
          obtain ⟨h16, v14, e15, hf⟩ := rdA_el hf
          refine va_iald hx hb hK hP 1 0 rfl rfl h16 dX6_count_153 ?_
          refine lv_as e15 ?_
          have er0 := Option.some.inj hf
          rw [← hQ0]; exact W.iret (v := v14) hx hb hr (fun t ht hW => ⟨v14, rfl, ⟨er0, trivial⟩, ht⟩) (fun q h => by cases h) dX6_count_154
        have hf := ite_f hf c13
        have q17 := i32_nk (z := 0) (by decide) c13
        by_cases c18 : x1 = 1
        · have hf := ite_t hf c18
          refine lv_tableIn (tgt := 155) (off := 78) hx hb dX6_count_77 (by rw [c18]; decide) (by rw [c18]; decide) (by rw [c18]; rfl) (by decide) ?_
          refine lv_aload_n hx hb dX6_count_155 rfl (lv_at hl 0 rfl) ?_
          refine va_get (D := g.1) (ci := 6) (v := .int (XM 9 0)) (C := RX6) (T := TX6) (N := 19) hx hb hts i_X6 hown hK hP 0 rfl rfl 9 (by decide) (hts (.fieldLink RX6 45 "WordFlasherModel" "words" "I") (List.mem_of_getElem? (i := 2) rfl)) (fun _ h9 => h9) rfl dX6_count_156 ?_
          have er0 := Option.some.inj hf
          rw [← hQ0]; exact W.iret (v := (XM 9 0)) hx hb hr (fun t ht hW => ⟨(XM 9 0), rfl, ⟨er0, trivial⟩, ht⟩) (fun q h => by cases h) dX6_count_159
        have hf := ite_f hf c18
        have q19 := i32_nk (z := 1) (by decide) c18
        by_cases c20 : x1 = 2
        · have hf := ite_t hf c20
          refine lv_tableIn (tgt := 160) (off := 83) hx hb dX6_count_77 (by rw [c20]; decide) (by rw [c20]; decide) (by rw [c20]; rfl) (by decide) ?_
          refine lv_aload_n hx hb dX6_count_160 rfl (lv_at hl 0 rfl) ?_
          refine va_get (D := g.1) (ci := 6) (v := .int (XM 10 0)) (C := RX6) (T := TX6) (N := 19) hx hb hts i_X6 hown hK hP 0 rfl rfl 10 (by decide) (hts (.fieldLink RX6 53 "WordFlasherModel" "sentences" "I") (List.mem_of_getElem? (i := 3) rfl)) (fun _ h9 => h9) rfl dX6_count_161 ?_
          have er0 := Option.some.inj hf
          rw [← hQ0]; exact W.iret (v := (XM 10 0)) hx hb hr (fun t ht hW => ⟨(XM 10 0), rfl, ⟨er0, trivial⟩, ht⟩) (fun q h => by cases h) dX6_count_164
        have hf := ite_f hf c20
        have q21 := i32_nk (z := 2) (by decide) c20
        by_cases c22 : x1 = 3
        · have hf := ite_t hf c22
          refine lv_tableIn (tgt := 165) (off := 88) hx hb dX6_count_77 (by rw [c22]; decide) (by rw [c22]; decide) (by rw [c22]; rfl) (by decide) ?_
          refine lv_aload_n hx hb dX6_count_165 rfl (lv_at hl 0 rfl) ?_
          refine va_get (D := g.1) (ci := 6) (v := .int (XM 11 0)) (C := RX6) (T := TX6) (N := 19) hx hb hts i_X6 hown hK hP 0 rfl rfl 11 (by decide) (hts (.fieldLink RX6 56 "WordFlasherModel" "pages" "I") (List.mem_of_getElem? (i := 4) rfl)) (fun _ h9 => h9) rfl dX6_count_166 ?_
          have er0 := Option.some.inj hf
          rw [← hQ0]; exact W.iret (v := (XM 11 0)) hx hb hr (fun t ht hW => ⟨(XM 11 0), rfl, ⟨er0, trivial⟩, ht⟩) (fun q h => by cases h) dX6_count_169
        have hf := ite_f hf c22
        have q23 := i32_nk (z := 3) (by decide) c22
        by_cases c24 : x1 = 4
        · have hf := ite_t hf c24
          refine lv_tableIn (tgt := 170) (off := 93) hx hb dX6_count_77 (by rw [c24]; decide) (by rw [c24]; decide) (by rw [c24]; rfl) (by decide) ?_
          refine lv_aload_n hx hb dX6_count_170 rfl (lv_at hl 0 rfl) ?_
          refine va_get (D := g.1) (ci := 6) (v := .ref (aM 1)) (C := RX6) (T := TX6) (N := 19) hx hb hts i_X6 hown hK hP 0 rfl rfl 0 (by decide) (hts (.fieldLink RX6 7 "WordFlasherModel" "d" "[I") (List.mem_of_getElem? (i := 1) rfl)) (fun _ h9 => h9) rfl dX6_count_171 ?_
          refine lv_sipush (v := 301) hx hb dX6_count_174 (by decide) ?_
          obtain ⟨h27, v25, e26, hf⟩ := rdA_el hf
          refine va_iald hx hb hK hP 1 0 rfl rfl h27 dX6_count_177 ?_
          refine lv_as e26 ?_
          refine lv_iconst (v := (-1)) hx hb dX6_count_178 (by decide) ?_
          refine lv_icmp_ne (tgt := 187) hx hb dX6_count_179 (by decide) (fun c28 => ?_) (fun c28 => ?_)
          · have hf := ite_f hf c28
            refine lv_aload_n hx hb dX6_count_187 rfl (lv_at hl 0 rfl) ?_
            refine va_get (D := g.1) (ci := 6) (v := .ref (aM 1)) (C := RX6) (T := TX6) (N := 19) hx hb hts i_X6 hown hK hP 0 rfl rfl 0 (by decide) (hts (.fieldLink RX6 7 "WordFlasherModel" "d" "[I") (List.mem_of_getElem? (i := 1) rfl)) (fun _ h9 => h9) rfl dX6_count_188 ?_
            refine lv_sipush (v := 301) hx hb dX6_count_191 (by decide) ?_
            obtain ⟨h31, v29, e30, hf⟩ := rdA_el hf
            refine va_iald hx hb hK hP 1 0 rfl rfl h31 dX6_count_194 ?_
            refine lv_as e30 ?_
            have er0 := Option.some.inj hf
            rw [← hQ0]; exact W.iret (v := v29) hx hb hr (fun t ht hW => ⟨v29, rfl, ⟨er0, trivial⟩, ht⟩) (fun q h => by cases h) dX6_count_195
          · have hf := ite_t hf c28
            refine lv_bipush (v := (-4)) hx hb dX6_count_182 (by decide) ?_
            refine lv_goto (tgt := 195) hx hb dX6_count_184 (by decide) ?_
            have er0 := Option.some.inj hf
            rw [← hQ0]; exact W.iret (v := (-4)) hx hb hr (fun t ht hW => ⟨(-4), rfl, ⟨er0, trivial⟩, ht⟩) (fun q h => by cases h) dX6_count_195
        have hf := ite_f hf c24
        have q32 := i32_nk (z := 4) (by decide) c24
        by_cases c33 : x1 = 5
        · have hf := ite_t hf c33
          refine lv_tableIn (tgt := 196) (off := 119) hx hb dX6_count_77 (by rw [c33]; decide) (by rw [c33]; decide) (by rw [c33]; rfl) (by decide) ?_
          refine lv_aload_n hx hb dX6_count_196 rfl (lv_at hl 0 rfl) ?_
          refine va_get (D := g.1) (ci := 6) (v := .ref (aM 1)) (C := RX6) (T := TX6) (N := 19) hx hb hts i_X6 hown hK hP 0 rfl rfl 0 (by decide) (hts (.fieldLink RX6 7 "WordFlasherModel" "d" "[I") (List.mem_of_getElem? (i := 1) rfl)) (fun _ h9 => h9) rfl dX6_count_197 ?_
          refine lv_sipush (v := 301) hx hb dX6_count_200 (by decide) ?_
          obtain ⟨h36, v34, e35, hf⟩ := rdA_el hf
          refine va_iald hx hb hK hP 1 0 rfl rfl h36 dX6_count_203 ?_
          refine lv_as e35 ?_
          refine lv_iconst (v := (-1)) hx hb dX6_count_204 (by decide) ?_
          refine lv_icmp_ne (tgt := 213) hx hb dX6_count_205 (by decide) (fun c37 => ?_) (fun c37 => ?_)
          · have hf := ite_f hf c37
            refine lv_aload_n hx hb dX6_count_213 rfl (lv_at hl 0 rfl) ?_
            refine va_get (D := g.1) (ci := 6) (v := .ref (aM 1)) (C := RX6) (T := TX6) (N := 19) hx hb hts i_X6 hown hK hP 0 rfl rfl 0 (by decide) (hts (.fieldLink RX6 7 "WordFlasherModel" "d" "[I") (List.mem_of_getElem? (i := 1) rfl)) (fun _ h9 => h9) rfl dX6_count_214 ?_
            refine lv_sipush (v := 302) hx hb dX6_count_217 (by decide) ?_
            obtain ⟨h40, v38, e39, hf⟩ := rdA_el hf
            refine va_iald hx hb hK hP 1 0 rfl rfl h40 dX6_count_220 ?_
            refine lv_as e39 ?_
            have er0 := Option.some.inj hf
            rw [← hQ0]; exact W.iret (v := v38) hx hb hr (fun t ht hW => ⟨v38, rfl, ⟨er0, trivial⟩, ht⟩) (fun q h => by cases h) dX6_count_221
          · have hf := ite_t hf c37
            refine lv_bipush (v := (-4)) hx hb dX6_count_208 (by decide) ?_
            refine lv_goto (tgt := 221) hx hb dX6_count_210 (by decide) ?_
            have er0 := Option.some.inj hf
            rw [← hQ0]; exact W.iret (v := (-4)) hx hb hr (fun t ht hW => ⟨(-4), rfl, ⟨er0, trivial⟩, ht⟩) (fun q h => by cases h) dX6_count_221
        have hf := ite_f hf c33
        have q41 := i32_nk (z := 5) (by decide) c33
        by_cases c42 : x1 = 6
        · have hf := ite_t hf c42
          refine lv_tableIn (tgt := 222) (off := 145) hx hb dX6_count_77 (by rw [c42]; decide) (by rw [c42]; decide) (by rw [c42]; rfl) (by decide) ?_
          refine lv_aload_n hx hb dX6_count_222 rfl (lv_at hl 0 rfl) ?_
          refine va_get (D := g.1) (ci := 6) (v := .ref (aM 1)) (C := RX6) (T := TX6) (N := 19) hx hb hts i_X6 hown hK hP 0 rfl rfl 0 (by decide) (hts (.fieldLink RX6 7 "WordFlasherModel" "d" "[I") (List.mem_of_getElem? (i := 1) rfl)) (fun _ h9 => h9) rfl dX6_count_223 ?_
          refine lv_sipush (v := 303) hx hb dX6_count_226 (by decide) ?_
          obtain ⟨h45, v43, e44, hf⟩ := rdA_el hf
          refine va_iald hx hb hK hP 1 0 rfl rfl h45 dX6_count_229 ?_
          refine lv_as e44 ?_
          have er0 := Option.some.inj hf
          rw [← hQ0]; exact W.iret (v := v43) hx hb hr (fun t ht hW => ⟨v43, rfl, ⟨er0, trivial⟩, ht⟩) (fun q h => by cases h) dX6_count_230
        have hf := ite_f hf c42
        have q46 := i32_nk (z := 6) (by decide) c42
        by_cases c47 : x1 = 7
        · have hf := ite_t hf c47
          refine lv_tableIn (tgt := 231) (off := 154) hx hb dX6_count_77 (by rw [c47]; decide) (by rw [c47]; decide) (by rw [c47]; rfl) (by decide) ?_
          refine lv_aload_n hx hb dX6_count_231 rfl (lv_at hl 0 rfl) ?_
          refine va_get (D := g.1) (ci := 6) (v := .ref (aM 1)) (C := RX6) (T := TX6) (N := 19) hx hb hts i_X6 hown hK hP 0 rfl rfl 0 (by decide) (hts (.fieldLink RX6 7 "WordFlasherModel" "d" "[I") (List.mem_of_getElem? (i := 1) rfl)) (fun _ h9 => h9) rfl dX6_count_232 ?_
          refine lv_sipush (v := 309) hx hb dX6_count_235 (by decide) ?_
          obtain ⟨h50, v48, e49, hf⟩ := rdA_el hf
          refine va_iald hx hb hK hP 1 0 rfl rfl h50 dX6_count_238 ?_
          refine lv_as e49 ?_
          have er0 := Option.some.inj hf
          rw [← hQ0]; exact W.iret (v := v48) hx hb hr (fun t ht hW => ⟨v48, rfl, ⟨er0, trivial⟩, ht⟩) (fun q h => by cases h) dX6_count_239
        have hf := ite_f hf c47
        have q51 := i32_nk (z := 7) (by decide) c47
        by_cases c52 : x1 = 8
        · have hf := ite_t hf c52
          refine lv_tableIn (tgt := 240) (off := 163) hx hb dX6_count_77 (by rw [c52]; decide) (by rw [c52]; decide) (by rw [c52]; rfl) (by decide) ?_
          refine lv_aload_n hx hb dX6_count_240 rfl (lv_at hl 0 rfl) ?_
          refine va_get (D := g.1) (ci := 6) (v := .ref (aM 1)) (C := RX6) (T := TX6) (N := 19) hx hb hts i_X6 hown hK hP 0 rfl rfl 0 (by decide) (hts (.fieldLink RX6 7 "WordFlasherModel" "d" "[I") (List.mem_of_getElem? (i := 1) rfl)) (fun _ h9 => h9) rfl dX6_count_241 ?_
          refine lv_sipush (v := 345) hx hb dX6_count_244 (by decide) ?_
          obtain ⟨h55, v53, e54, hf⟩ := rdA_el hf
          refine va_iald hx hb hK hP 1 0 rfl rfl h55 dX6_count_247 ?_
          refine lv_as e54 ?_
          have er0 := Option.some.inj hf
          rw [← hQ0]; exact W.iret (v := v53) hx hb hr (fun t ht hW => ⟨v53, rfl, ⟨er0, trivial⟩, ht⟩) (fun q h => by cases h) dX6_count_248
        have hf := ite_f hf c52
        have q56 := i32_nk (z := 8) (by decide) c52
        by_cases c57 : x1 = 9
        · have hf := ite_t hf c57
          refine lv_tableIn (tgt := 249) (off := 172) hx hb dX6_count_77 (by rw [c57]; decide) (by rw [c57]; decide) (by rw [c57]; rfl) (by decide) ?_
          refine lv_aload_n hx hb dX6_count_249 rfl (lv_at hl 0 rfl) ?_
          refine va_get (D := g.1) (ci := 6) (v := .ref (aM 1)) (C := RX6) (T := TX6) (N := 19) hx hb hts i_X6 hown hK hP 0 rfl rfl 0 (by decide) (hts (.fieldLink RX6 7 "WordFlasherModel" "d" "[I") (List.mem_of_getElem? (i := 1) rfl)) (fun _ h9 => h9) rfl dX6_count_250 ?_
          refine lv_sipush (v := 346) hx hb dX6_count_253 (by decide) ?_
          obtain ⟨h60, v58, e59, hf⟩ := rdA_el hf
          refine va_iald hx hb hK hP 1 0 rfl rfl h60 dX6_count_256 ?_
          refine lv_as e59 ?_
          have er0 := Option.some.inj hf
          rw [← hQ0]; exact W.iret (v := v58) hx hb hr (fun t ht hW => ⟨v58, rfl, ⟨er0, trivial⟩, ht⟩) (fun q h => by cases h) dX6_count_257
        have hf := ite_f hf c57
        have q61 := i32_nk (z := 9) (by decide) c57
        by_cases c62 : x1 = 10
        · have hf := ite_t hf c62
          refine lv_tableIn (tgt := 258) (off := 181) hx hb dX6_count_77 (by rw [c62]; decide) (by rw [c62]; decide) (by rw [c62]; rfl) (by decide) ?_
          refine lv_aload_n hx hb dX6_count_258 rfl (lv_at hl 0 rfl) ?_
          refine va_get (D := g.1) (ci := 6) (v := .ref (aM 1)) (C := RX6) (T := TX6) (N := 19) hx hb hts i_X6 hown hK hP 0 rfl rfl 0 (by decide) (hts (.fieldLink RX6 7 "WordFlasherModel" "d" "[I") (List.mem_of_getElem? (i := 1) rfl)) (fun _ h9 => h9) rfl dX6_count_259 ?_
          refine lv_sipush (v := 347) hx hb dX6_count_262 (by decide) ?_
          obtain ⟨h65, v63, e64, hf⟩ := rdA_el hf
          refine va_iald hx hb hK hP 1 0 rfl rfl h65 dX6_count_265 ?_
          refine lv_as e64 ?_
          have er0 := Option.some.inj hf
          rw [← hQ0]; exact W.iret (v := v63) hx hb hr (fun t ht hW => ⟨v63, rfl, ⟨er0, trivial⟩, ht⟩) (fun q h => by cases h) dX6_count_266
        have hf := ite_f hf c62
        have q66 := i32_nk (z := 10) (by decide) c62
        by_cases c67 : x1 = 11
        · have hf := ite_t hf c67
          refine lv_tableIn (tgt := 267) (off := 190) hx hb dX6_count_77 (by rw [c67]; decide) (by rw [c67]; decide) (by rw [c67]; rfl) (by decide) ?_
          refine lv_aload_n hx hb dX6_count_267 rfl (lv_at hl 0 rfl) ?_
          refine va_get (D := g.1) (ci := 6) (v := .int (XM 2 0)) (C := RX6) (T := TX6) (N := 19) hx hb hts i_X6 hown hK hP 0 rfl rfl 2 (by decide) (hts (.fieldLink RX6 59 "WordFlasherModel" "states" "I") (List.mem_of_getElem? (i := 5) rfl)) (fun _ h9 => h9) rfl dX6_count_268 ?_
          have er0 := Option.some.inj hf
          rw [← hQ0]; exact W.iret (v := (XM 2 0)) hx hb hr (fun t ht hW => ⟨(XM 2 0), rfl, ⟨er0, trivial⟩, ht⟩) (fun q h => by cases h) dX6_count_271
        have hf := ite_f hf c67
        have q68 := i32_nk (z := 11) (by decide) c67
        by_cases c69 : x1 = 12
        · have hf := ite_t hf c69
          refine lv_tableIn (tgt := 272) (off := 195) hx hb dX6_count_77 (by rw [c69]; decide) (by rw [c69]; decide) (by rw [c69]; rfl) (by decide) ?_
          refine lv_aload_n hx hb dX6_count_272 rfl (lv_at hl 0 rfl) ?_
          refine va_get (D := g.1) (ci := 6) (v := .int (XM 5 0)) (C := RX6) (T := TX6) (N := 19) hx hb hts i_X6 hown hK hP 0 rfl rfl 5 (by decide) (hts (.fieldLink RX6 131 "WordFlasherModel" "ordered" "I") (List.mem_of_getElem? (i := 6) rfl)) (fun _ h9 => h9) rfl dX6_count_273 ?_
          have er0 := Option.some.inj hf
          rw [← hQ0]; exact W.iret (v := (XM 5 0)) hx hb hr (fun t ht hW => ⟨(XM 5 0), rfl, ⟨er0, trivial⟩, ht⟩) (fun q h => by cases h) dX6_count_276
        have hf := ite_f hf c69
        have q70 := i32_nk (z := 12) (by decide) c69
        by_cases c71 : x1 = 13
        · have hf := ite_t hf c71
          refine lv_tableIn (tgt := 277) (off := 200) hx hb dX6_count_77 (by rw [c71]; decide) (by rw [c71]; decide) (by rw [c71]; rfl) (by decide) ?_
          refine lv_iload_n hx hb dX6_count_277 rfl (lv_at hl 2 rfl) ?_
          have er0 := Option.some.inj hf
          rw [← hQ0]; exact W.iret (v := x2) hx hb hr (fun t ht hW => ⟨x2, rfl, ⟨er0, trivial⟩, ht⟩) (fun q h => by cases h) dX6_count_278
        have hf := ite_f hf c71
        have q72 := i32_nk (z := 13) (by decide) c71
        refine lv_tableOut (tgt := 279) hx hb dX6_count_77 (by omega) (by decide) ?_
        refine lv_iconst (v := (-1)) hx hb dX6_count_279 (by decide) ?_
        have er0 := Option.some.inj hf
        rw [← hQ0]; exact W.iret (v := (-1)) hx hb hr (fun t ht hW => ⟨(-1), rfl, ⟨er0, trivial⟩, ht⟩) (fun q h => by cases h) dX6_count_280
      have L_54 : ∀ fu : Nat, ∀ (x1 x2 x3 : Int32) (ls : Array Slot), lv_has ls 4 [(0, .ref (aM 0)), (1, .int x1), (2, .int x2), (3, .int x3)] → fX6_count_L54 n XM j76 fu x1 x2 x3 = some r → W p l e (headSpec wsX6_count rmX6_count).room s m args below meth c s.heap [] 0 0 Q0 (F0 m 54 ls []) := by
        intro fu
        induction fu with
        | zero => intros; rename_i hf; rw [fX6_count_L54] at hf; cases hf
        | succ fu ih =>
          intro x1 x2 x3 ls hl hf
          rw [fX6_count_L54] at hf
          refine lv_iload_n hx hb dX6_count_54 rfl (lv_at hl 3 rfl) ?_
          refine lv_aload_n hx hb dX6_count_55 rfl (lv_at hl 0 rfl) ?_
          refine va_get (D := g.1) (ci := 6) (v := .int (XM 9 0)) (C := RX6) (T := TX6) (N := 19) hx hb hts i_X6 hown hK hP 0 rfl rfl 9 (by decide) (hts (.fieldLink RX6 45 "WordFlasherModel" "words" "I") (List.mem_of_getElem? (i := 2) rfl)) (fun _ h9 => h9) rfl dX6_count_56 ?_
          refine lv_icmp_ge (tgt := 76) hx hb dX6_count_59 (by decide) (fun c73 => ?_) (fun c73 => ?_)
          · have hf := ite_t hf c73
            exact J_76 x1 x2 ls (lv_sub hl [0, 1, 2] rfl) hf
          · have hf := ite_f hf c73
            refine lv_iload_n hx hb dX6_count_62 rfl (lv_at hl 2 rfl) ?_
            refine lv_aload_n hx hb dX6_count_63 rfl (lv_at hl 0 rfl) ?_
            refine lv_iload_n hx hb dX6_count_64 rfl (lv_at hl 3 rfl) ?_
            obtain ⟨r74, h75, hf⟩ := bnd_el hf
            refine rdV (As := [.int x3]) (rest := [.int x2]) ⟨hx, hb, hml, hown, hts⟩ (c_X6_timeOf l g aM _ _ _ h75) (cwV 1 hts gX6_count_X6_timeOf rfl rfl rfl (by decide +kernel) ⟨Nat.le_of_ble_eq_true rfl, Nat.le_of_ble_eq_true rfl⟩) hKW hP [0, 1, 2, 3, 4, 5, 6, 7, 8, 9, 10, 11] rfl (va_recv hK hP (ci := 6) (q0 := 0) rfl rfl) rfl hl.1 rfl (lv_room (Nat.le_of_ble_eq_true rfl)) dX6_count_65 ⟨Nat.zero_le _, Nat.zero_le _⟩ (fun r76 q77 => ?_)
            obtain ⟨q77, nb78⟩ := q77
            refine lv_as q77.symm ?_
            refine lv_iadd hx hb dX6_count_68 ?_
            obtain ⟨v79, e80, hf⟩ := sl_el hf
            refine lv_as e80 ?_
            refine lv_istore_n (lv' := [(2, .int v79), (0, .ref (aM 0)), (1, .int x1), (3, .int x3)]) hx hb dX6_count_69 rfl hl (by decide) rfl (fun ls hl => ?_)
            obtain ⟨v81, e82, hf⟩ := sl_el hf
            refine lv_iinc (v := v81) (lv' := [(3, .int v81), (2, .int v79), (0, .ref (aM 0)), (1, .int x1)]) hx hb dX6_count_70 hl (k := 3) rfl (by rw [e82]; rfl) (by decide) rfl (fun ls hl => ?_)
            refine lv_goto (tgt := 54) hx hb dX6_count_73 (by decide) ?_
            exact ih x1 v79 v81 ls (lv_sub hl [2, 3, 1, 0] rfl) hf
      exact L_54 n p1 0 0 ls (lv_sub hl [2, 3, 1, 0] rfl) hf
    · have hf := ite_f hf c12
      refine lv_aload_n hx hb dX6_count_36 rfl (lv_at hl 0 rfl) ?_
      refine va_get (D := g.1) (ci := 6) (v := .ref (aM 1)) (C := RX6) (T := TX6) (N := 19) hx hb hts i_X6 hown hK hP 0 rfl rfl 0 (by decide) (hts (.fieldLink RX6 7 "WordFlasherModel" "d" "[I") (List.mem_of_getElem? (i := 1) rfl)) (fun _ h9 => h9) rfl dX6_count_37 ?_
      refine lv_sipush (v := 330) hx hb dX6_count_40 (by decide) ?_
      refine lv_iload_n hx hb dX6_count_43 rfl (lv_at hl 1 rfl) ?_
      refine lv_iadd hx hb dX6_count_44 ?_
      refine lv_bipush (v := 30) hx hb dX6_count_45 (by decide) ?_
      refine lv_isub hx hb dX6_count_47 ?_
      obtain ⟨h85, v83, e84, hf⟩ := rdA_el hf
      refine va_iald hx hb hK hP 1 0 rfl rfl h85 dX6_count_48 ?_
      refine lv_as e84 ?_
      have er0 := Option.some.inj hf
      rw [← hQ0]; exact W.iret (v := v83) hx hb hr (fun t ht hW => ⟨v83, rfl, ⟨er0, trivial⟩, ht⟩) (fun q h => by cases h) dX6_count_49
  · have hf := ite_f hf c6
    refine lv_aload_n hx hb dX6_count_11 rfl (lv_at hl 0 rfl) ?_
    refine va_get (D := g.1) (ci := 6) (v := .ref (aM 1)) (C := RX6) (T := TX6) (N := 19) hx hb hts i_X6 hown hK hP 0 rfl rfl 0 (by decide) (hts (.fieldLink RX6 7 "WordFlasherModel" "d" "[I") (List.mem_of_getElem? (i := 1) rfl)) (fun _ h9 => h9) rfl dX6_count_12 ?_
    refine lv_sipush (v := 333) hx hb dX6_count_15 (by decide) ?_
    refine lv_iload_n hx hb dX6_count_18 rfl (lv_at hl 1 rfl) ?_
    refine lv_iadd hx hb dX6_count_19 ?_
    refine lv_bipush (v := 20) hx hb dX6_count_20 (by decide) ?_
    refine lv_isub hx hb dX6_count_22 ?_
    obtain ⟨h88, v86, e87, hf⟩ := rdA_el hf
    refine va_iald hx hb hK hP 1 0 rfl rfl h88 dX6_count_23 ?_
    refine lv_as e87 ?_
    have er0 := Option.some.inj hf
    rw [← hQ0]; exact W.iret (v := v86) hx hb hr (fun t ht hW => ⟨v86, rfl, ⟨er0, trivial⟩, ht⟩) (fun q h => by cases h) dX6_count_24
abbrev rmX6_isSetting : Room := { frames := 1, cells := 0, slots := 0, locals := 22 }
set_option maxHeartbeats 8000000 in
set_option maxRecDepth 100000 in
theorem c_X6_isSetting (l : Launch) (g : GG)  (p0 p1 : Int32) (r : Int32) (hf : fX6_isSetting p0 p1 = some r) : Met l yX6_isSetting wsX6_isSetting rmX6_isSetting (va_Pc [.int p0, .int p1] (fun U => va_P g.1 vwCl ([] : va_W) U.heap ∧ KW g U)) (vp_Si (fun r' => r' = r ∧ narrow .boolean (.int r') = .int r')) 0 0 (fun _ => False) := by
  refine Met.ofW (cc := cX6_isSetting) (maxL := 2) (ret := (some .boolean)) (by decide) rfl ?_
  intro p e s m args below meth c s₁ B hml hv
  obtain ⟨hargs, hP, hKW⟩ := hv
  have hK := hKW.1
  have hx := B.exec
  have hb := B.bytes
  have hr := B.returns
  have hts := atoms_spec (ws := wsX6_isSetting) B.pre
  have hown : s.vm.findClass RX6 = some m.cls := findClass_of_methodNamed B.named
  have hlocks := B.notSynchronized
  have hent : entryFrame m args 2 = F0 m 0 ((lg_sl ([.int p0, .int p1]) ++ List.replicate (2 - (lg_sl ([.int p0, .int p1])).length) Slot.unset).toArray) [] := by rw [hargs]; exact lg_entry_eq _ _ _
  rw [hent]
  have hl := lv_entry ([.int p0, .int p1]) (n := 2) (Nat.le_of_ble_eq_true rfl)
  generalize (lg_sl ([.int p0, .int p1]) ++ List.replicate (2 - (lg_sl ([.int p0, .int p1])).length) Slot.unset).toArray = ls at hl ⊢
  have hl : lv_has ls 2 [(0, .int p0), (1, .int p1)] := hl
  generalize hQ0 : MQ below _ _ _ _ _ _ = Q0
  unfold fX6_isSetting at hf
  refine lv_iload_n hx hb dX6_isSetting_0 rfl (lv_at hl 0 rfl) ?_
  obtain ⟨j60, ej60, hf⟩ := sl_el hf
  have J_60 : ∀ (x1 : Int32) (ls : Array Slot), lv_has ls 2 [(1, .int x1)] → j60 x1 = some r → W p l e (headSpec wsX6_isSetting rmX6_isSetting).room s m args below meth c s.heap [] 0 0 Q0 (F0 m 60 ls []) := by
    intro x1 ls hl hf
    rw [ej60] at hf
    refine lv_iload_n hx hb dX6_isSetting_60 rfl (lv_at hl 0 rfl) ?_
    refine lv_bipush (v := 100) hx hb dX6_isSetting_61 (by decide) ?_
    refine lv_sipush (v := 400) hx hb dX6_isSetting_63 (by decide) ?_
    obtain ⟨r1, h2, hf⟩ := bnd_el hf
    refine rdS (As := [.int x1, .int 100, .int 400]) (rest := []) ⟨hx, hb, hml, hown, hts⟩ (c_X6_in l g _ _ _ _ h2) (va_cwS 3 hts gX6_isSetting_X6_in rfl rfl rfl (by decide +kernel) ⟨Nat.le_of_ble_eq_true rfl, Nat.le_of_ble_eq_true rfl⟩) hKW hP [] rfl rfl hl.1 rfl (lv_room (Nat.le_of_ble_eq_true rfl)) dX6_isSetting_66 ⟨Nat.zero_le _, Nat.zero_le _⟩ (fun r3 q4 => ?_)
    obtain ⟨q4, nb5⟩ := q4
    refine lv_as q4.symm ?_
    rw [q4] at nb5
    have er0 := Option.some.inj hf
    rw [← hQ0]; exact W.zret (v := r1) hx hb hr nb5 (fun t ht hW => ⟨r1, rfl, ⟨er0, nb5⟩, ht⟩) (fun q h => by cases h) dX6_isSetting_69
  by_cases c6 : p0 = 0
  · have hf := ite_t hf c6
    refine lv_tableIn (tgt := 44) (off := 43) hx hb dX6_isSetting_1 (by rw [c6]; decide) (by rw [c6]; decide) (by rw [c6]; rfl) (by decide) ?_
    refine lv_iload_n hx hb dX6_isSetting_44 rfl (lv_at hl 1 rfl) ?_
    refine lv_iconst (v := 1) hx hb dX6_isSetting_45 (by decide) ?_
    refine lv_bipush (v := 50) hx hb dX6_isSetting_46 (by decide) ?_
    obtain ⟨r7, h8, hf⟩ := bnd_el hf
    refine rdS (As := [.int p1, .int 1, .int 50]) (rest := []) ⟨hx, hb, hml, hown, hts⟩ (c_X6_in l g _ _ _ _ h8) (va_cwS 3 hts gX6_isSetting_X6_in rfl rfl rfl (by decide +kernel) ⟨Nat.le_of_ble_eq_true rfl, Nat.le_of_ble_eq_true rfl⟩) hKW hP [] rfl rfl hl.1 rfl (lv_room (Nat.le_of_ble_eq_true rfl)) dX6_isSetting_48 ⟨Nat.zero_le _, Nat.zero_le _⟩ (fun r9 q10 => ?_)
    obtain ⟨q10, nb11⟩ := q10
    refine lv_as q10.symm ?_
    rw [q10] at nb11
    have er0 := Option.some.inj hf
    rw [← hQ0]; exact W.zret (v := r7) hx hb hr nb11 (fun t ht hW => ⟨r7, rfl, ⟨er0, nb11⟩, ht⟩) (fun q h => by cases h) dX6_isSetting_51
  have hf := ite_f hf c6
  have q12 := i32_nk (z := 0) (by decide) c6
  by_cases c13 : p0 = 1
  · have hf := ite_t hf c13
    refine lv_tableIn (tgt := 52) (off := 51) hx hb dX6_isSetting_1 (by rw [c13]; decide) (by rw [c13]; decide) (by rw [c13]; rfl) (by decide) ?_
    refine lv_iload_n hx hb dX6_isSetting_52 rfl (lv_at hl 1 rfl) ?_
    refine lv_iconst (v := 1) hx hb dX6_isSetting_53 (by decide) ?_
    refine lv_bipush (v := 10) hx hb dX6_isSetting_54 (by decide) ?_
    obtain ⟨r14, h15, hf⟩ := bnd_el hf
    refine rdS (As := [.int p1, .int 1, .int 10]) (rest := []) ⟨hx, hb, hml, hown, hts⟩ (c_X6_in l g _ _ _ _ h15) (va_cwS 3 hts gX6_isSetting_X6_in rfl rfl rfl (by decide +kernel) ⟨Nat.le_of_ble_eq_true rfl, Nat.le_of_ble_eq_true rfl⟩) hKW hP [] rfl rfl hl.1 rfl (lv_room (Nat.le_of_ble_eq_true rfl)) dX6_isSetting_56 ⟨Nat.zero_le _, Nat.zero_le _⟩ (fun r16 q17 => ?_)
    obtain ⟨q17, nb18⟩ := q17
    refine lv_as q17.symm ?_
    rw [q17] at nb18
    have er0 := Option.some.inj hf
    rw [← hQ0]; exact W.zret (v := r14) hx hb hr nb18 (fun t ht hW => ⟨r14, rfl, ⟨er0, nb18⟩, ht⟩) (fun q h => by cases h) dX6_isSetting_59
  have hf := ite_f hf c13
  have q19 := i32_nk (z := 1) (by decide) c13
  by_cases c20 : p0 = 2
  · have hf := ite_t hf c20
    refine lv_tableIn (tgt := 60) (off := 59) hx hb dX6_isSetting_1 (by rw [c20]; decide) (by rw [c20]; decide) (by rw [c20]; rfl) (by decide) ?_
    exact J_60 p1 ls (lv_sub hl [1] rfl) hf
  have hf := ite_f hf c20
  have q21 := i32_nk (z := 2) (by decide) c20
  by_cases c22 : p0 = 3
  · have hf := ite_t hf c22
    refine lv_tableIn (tgt := 60) (off := 59) hx hb dX6_isSetting_1 (by rw [c22]; decide) (by rw [c22]; decide) (by rw [c22]; rfl) (by decide) ?_
    exact J_60 p1 ls (lv_sub hl [1] rfl) hf
  have hf := ite_f hf c22
  have q23 := i32_nk (z := 3) (by decide) c22
  by_cases c24 : p0 = 4
  · have hf := ite_t hf c24
    refine lv_tableIn (tgt := 70) (off := 69) hx hb dX6_isSetting_1 (by rw [c24]; decide) (by rw [c24]; decide) (by rw [c24]; rfl) (by decide) ?_
    refine lv_iload_n hx hb dX6_isSetting_70 rfl (lv_at hl 1 rfl) ?_
    refine lv_bipush (v := 100) hx hb dX6_isSetting_71 (by decide) ?_
    refine lv_sipush (v := 300) hx hb dX6_isSetting_73 (by decide) ?_
    obtain ⟨r25, h26, hf⟩ := bnd_el hf
    refine rdS (As := [.int p1, .int 100, .int 300]) (rest := []) ⟨hx, hb, hml, hown, hts⟩ (c_X6_in l g _ _ _ _ h26) (va_cwS 3 hts gX6_isSetting_X6_in rfl rfl rfl (by decide +kernel) ⟨Nat.le_of_ble_eq_true rfl, Nat.le_of_ble_eq_true rfl⟩) hKW hP [] rfl rfl hl.1 rfl (lv_room (Nat.le_of_ble_eq_true rfl)) dX6_isSetting_76 ⟨Nat.zero_le _, Nat.zero_le _⟩ (fun r27 q28 => ?_)
    obtain ⟨q28, nb29⟩ := q28
    refine lv_as q28.symm ?_
    rw [q28] at nb29
    have er0 := Option.some.inj hf
    rw [← hQ0]; exact W.zret (v := r25) hx hb hr nb29 (fun t ht hW => ⟨r25, rfl, ⟨er0, nb29⟩, ht⟩) (fun q h => by cases h) dX6_isSetting_79
  have hf := ite_f hf c24
  have q30 := i32_nk (z := 4) (by decide) c24
  by_cases c31 : p0 = 5
  · have hf := ite_t hf c31
    refine lv_tableIn (tgt := 80) (off := 79) hx hb dX6_isSetting_1 (by rw [c31]; decide) (by rw [c31]; decide) (by rw [c31]; rfl) (by decide) ?_
    refine lv_iload_n hx hb dX6_isSetting_80 rfl (lv_at hl 1 rfl) ?_
    refine lv_iconst (v := 0) hx hb dX6_isSetting_81 (by decide) ?_
    refine lv_bipush (v := 50) hx hb dX6_isSetting_82 (by decide) ?_
    obtain ⟨r32, h33, hf⟩ := bnd_el hf
    refine rdS (As := [.int p1, .int 0, .int 50]) (rest := []) ⟨hx, hb, hml, hown, hts⟩ (c_X6_in l g _ _ _ _ h33) (va_cwS 3 hts gX6_isSetting_X6_in rfl rfl rfl (by decide +kernel) ⟨Nat.le_of_ble_eq_true rfl, Nat.le_of_ble_eq_true rfl⟩) hKW hP [] rfl rfl hl.1 rfl (lv_room (Nat.le_of_ble_eq_true rfl)) dX6_isSetting_84 ⟨Nat.zero_le _, Nat.zero_le _⟩ (fun r34 q35 => ?_)
    obtain ⟨q35, nb36⟩ := q35
    refine lv_as q35.symm ?_
    rw [q35] at nb36
    have er0 := Option.some.inj hf
    rw [← hQ0]; exact W.zret (v := r32) hx hb hr nb36 (fun t ht hW => ⟨r32, rfl, ⟨er0, nb36⟩, ht⟩) (fun q h => by cases h) dX6_isSetting_87
  have hf := ite_f hf c31
  have q37 := i32_nk (z := 5) (by decide) c31
  by_cases c38 : p0 = 6
  · have hf := ite_t hf c38
    refine lv_tableIn (tgt := 88) (off := 87) hx hb dX6_isSetting_1 (by rw [c38]; decide) (by rw [c38]; decide) (by rw [c38]; rfl) (by decide) ?_
    refine lv_iload_n hx hb dX6_isSetting_88 rfl (lv_at hl 1 rfl) ?_
    refine lv_iconst (v := 0) hx hb dX6_isSetting_89 (by decide) ?_
    refine lv_bipush (v := 20) hx hb dX6_isSetting_90 (by decide) ?_
    obtain ⟨r39, h40, hf⟩ := bnd_el hf
    refine rdS (As := [.int p1, .int 0, .int 20]) (rest := []) ⟨hx, hb, hml, hown, hts⟩ (c_X6_in l g _ _ _ _ h40) (va_cwS 3 hts gX6_isSetting_X6_in rfl rfl rfl (by decide +kernel) ⟨Nat.le_of_ble_eq_true rfl, Nat.le_of_ble_eq_true rfl⟩) hKW hP [] rfl rfl hl.1 rfl (lv_room (Nat.le_of_ble_eq_true rfl)) dX6_isSetting_92 ⟨Nat.zero_le _, Nat.zero_le _⟩ (fun r41 q42 => ?_)
    obtain ⟨q42, nb43⟩ := q42
    refine lv_as q42.symm ?_
    rw [q42] at nb43
    have er0 := Option.some.inj hf
    rw [← hQ0]; exact W.zret (v := r39) hx hb hr nb43 (fun t ht hW => ⟨r39, rfl, ⟨er0, nb43⟩, ht⟩) (fun q h => by cases h) dX6_isSetting_95
  have hf := ite_f hf c38
  have q44 := i32_nk (z := 6) (by decide) c38
  refine lv_tableOut (tgt := 96) hx hb dX6_isSetting_1 (by omega) (by decide) ?_
  refine lv_iconst (v := 0) hx hb dX6_isSetting_96 (by decide) ?_
  have er0 := Option.some.inj hf
  rw [← hQ0]; exact W.zret (v := 0) hx hb hr rfl (fun t ht hW => ⟨0, rfl, ⟨er0, rfl⟩, ht⟩) (fun q h => by cases h) dX6_isSetting_97
abbrev rmX6_set : Room := { frames := 2, cells := 0, slots := 0, locals := 43 }
set_option maxHeartbeats 8000000 in
set_option maxRecDepth 100000 in
theorem c_X6_set (l : Launch) (g : GG) (aM : Nat → Nat) (sz : Nat) (n : Nat) (XM : DM) (p1 p2 : Int32) (r : Int32) (XMz : DM) (hf : fX6_set n XM p1 p2 = some (r, XMz)) : Met l yX6_set wsX6_set rmX6_set (va_Pc [.ref (aM 0), .int p1, .int p2] (fun U => U.heap.size = sz ∧ va_P g.1 vwCl (pM g aM XM) U.heap ∧ KW g U ∧ va_D (fun _ => True) (pM g aM XM))) (va_Qi (fun r' (_ : Unit) => r' = r ∧ True) (fun (_ : Unit) t => va_P g.1 vwCl (pM g aM XMz) t.heap) (va_A (pM g aM XM) sz)) 0 0 (va_A (pM g aM XM) sz) := by
  refine Met.ofW (cc := cX6_set) (maxL := 4) (ret := (some .int)) (by decide) rfl ?_
  intro p e s m args below meth c s₁ B hml hv
  obtain ⟨hargs, hsz, hP, hKW, hD0⟩ := hv
  have hK := hKW.1
  have hx := B.exec
  have hb := B.bytes
  have hr := B.returns
  have hts := atoms_spec (ws := wsX6_set) B.pre
  have hown : s.vm.findClass RX6 = some m.cls := findClass_of_methodNamed B.named
  have hlocks := B.notSynchronized
  subst hsz
  have hD := hD0.self (sz := s.heap.size)
  generalize hAe : va_A (pM g aM XM) s.heap.size = A at hD ⊢
  have hA : ∀ q : Nat, s.heap.size ≤ q → A q := fun q h => by rw [← hAe]; exact Or.inr h
  have hS : va_S A s.heap s.heap [] := va_S.rf
  have i_X6 : ∀ w ∈ wsX60, w ∈ wsX6_set := fun w h => List.mem_cons_of_mem _ (List.mem_append_right _ h)
  have hent : entryFrame m args 4 = F0 m 0 ((lg_sl ([.ref (aM 0), .int p1, .int p2]) ++ List.replicate (4 - (lg_sl ([.ref (aM 0), .int p1, .int p2])).length) Slot.unset).toArray) [] := by rw [hargs]; exact lg_entry_eq _ _ _
  rw [hent]
  have hl := lv_entry ([.ref (aM 0), .int p1, .int p2]) (n := 4) (Nat.le_of_ble_eq_true rfl)
  generalize (lg_sl ([.ref (aM 0), .int p1, .int p2]) ++ List.replicate (4 - (lg_sl ([.ref (aM 0), .int p1, .int p2])).length) Slot.unset).toArray = ls at hl ⊢
  have hl : lv_has ls 4 [(0, .ref (aM 0)), (1, .int p1), (2, .int p2)] := hl
  generalize hQ0 : MQ below _ _ _ _ _ _ = Q0
  unfold fX6_set at hf
  refine lv_iload_n hx hb dX6_set_0 rfl (lv_at hl 1 rfl) ?_
  refine lv_iload_n hx hb dX6_set_1 rfl (lv_at hl 2 rfl) ?_
  obtain ⟨r1, h2, hf⟩ := bnd_el hf
  refine rdS (As := [.int p1, .int p2]) (rest := []) ⟨hx, hb, hml, hown, hts⟩ (c_X6_isSetting l g _ _ _ h2) (va_cwS 2 hts gX6_set_X6_isSetting rfl rfl rfl (by decide +kernel) ⟨Nat.le_of_ble_eq_true rfl, Nat.le_of_ble_eq_true rfl⟩) hKW hP [] rfl rfl hl.1 rfl (lv_room (Nat.le_of_ble_eq_true rfl)) dX6_set_2 ⟨Nat.zero_le _, Nat.zero_le _⟩ (fun r3 q4 => ?_)
  obtain ⟨q4, nb5⟩ := q4
  refine lv_as q4.symm ?_
  rw [q4] at nb5
  refine lv_if_ne (tgt := 10) hx hb dX6_set_5 (by decide) (fun c6 => ?_) (fun c6 => ?_)
  · have hf := ite_f hf c6
    refine lv_aload_n hx hb dX6_set_10 rfl (lv_at hl 0 rfl) ?_
    obtain ⟨X7, h8, hf⟩ := bnd_el hf
    refine wr_v (rest := []) (wc := (pM g aM XM)) (wc' := (pM g aM X7)) (ws2 := (pM g aM X7)) hP hD hS hA [0, 1, 2, 3, 4, 5, 6, 7, 8, 9, 10, 11] rfl rfl (by rfl) (rnV (As := []) ⟨hx, hb, hml, hown, hts⟩ (c_X6_records l g aM _ _ _ _ h8) (cwV 0 hts gX6_set_X6_records rfl rfl rfl (by decide +kernel) ⟨Nat.le_of_ble_eq_true rfl, Nat.le_of_ble_eq_true rfl⟩) hKW hP hD [0, 1, 2, 3, 4, 5, 6, 7, 8, 9, 10, 11] (by decide) rfl (va_recv hK hP (ci := 6) (q0 := 0) rfl rfl) rfl hl.1 rfl (lv_room (Nat.le_of_ble_eq_true rfl)) dX6_set_11 ⟨Nat.zero_le _, Nat.zero_le _⟩) (fun H locs hP hD hS => ?_)
    refine lv_aload_n hx hb dX6_set_14 rfl (lv_at hl 0 rfl) ?_
    refine va_get (D := g.1) (ci := 6) (v := .ref (aM 1)) (C := RX6) (T := TX6) (N := 19) hx hb hts i_X6 hown hK hP 0 rfl rfl 0 (by decide) (hts (.fieldLink RX6 7 "WordFlasherModel" "d" "[I") (List.mem_of_getElem? (i := 1) rfl)) (fun _ h9 => h9) rfl dX6_set_15 ?_
    refine lv_sipush (v := 333) hx hb dX6_set_18 (by decide) ?_
    refine lv_iload_n hx hb dX6_set_21 rfl (lv_at hl 1 rfl) ?_
    refine lv_iadd hx hb dX6_set_22 ?_
    obtain ⟨h11, v9, e10, hf⟩ := rdA_el hf
    refine va_iald hx hb hK hP 1 0 rfl rfl h11 dX6_set_23 ?_
    refine lv_as e10 ?_
    refine lv_istore_n (lv' := [(3, .int v9), (0, .ref (aM 0)), (1, .int p1), (2, .int p2)]) hx hb dX6_set_24 rfl hl (by decide) rfl (fun ls hl => ?_)
    refine lv_aload_n hx hb dX6_set_25 rfl (lv_at hl 1 rfl) ?_
    refine va_get (D := g.1) (ci := 6) (v := .ref (aM 1)) (C := RX6) (T := TX6) (N := 19) hx hb hts i_X6 hown hK hP 0 rfl rfl 0 (by decide) (hts (.fieldLink RX6 7 "WordFlasherModel" "d" "[I") (List.mem_of_getElem? (i := 1) rfl)) (fun _ h9 => h9) rfl dX6_set_26 ?_
    refine lv_sipush (v := 333) hx hb dX6_set_29 (by decide) ?_
    refine lv_iload_n hx hb dX6_set_32 rfl (lv_at hl 2 rfl) ?_
    refine lv_iadd hx hb dX6_set_33 ?_
    refine lv_iload_n hx hb dX6_set_34 rfl (lv_at hl 3 rfl) ?_
    obtain ⟨h14, f12, e13, hf⟩ := wrA_el hf
    obtain ⟨X15, e16, hf⟩ := sl_el hf
    refine va_iast hx hb hK hP hD hS 1 0 rfl rfl h14 dX6_set_35 (fun H locs hP hD hS => ?_)
    have hP : va_P g.1 vwCl (pM g aM X15) H := by subst e16; subst e13; exact hP
    have hD : va_D A (pM g aM X15) := by subst e16; subst e13; exact hD
    refine lv_iload_n hx hb dX6_set_36 rfl (lv_at hl 0 rfl) ?_
    have er0 := Option.some.inj hf
    obtain ⟨er0, er1⟩ := Prod.mk.inj er0
    rw [← hQ0]; exact W.iret (v := v9) hx hb hr (fun t ht hW => ⟨⟨v9, (), rfl, ⟨er0, trivial⟩, by dsimp only; rw [ht, ← er1]; exact hP⟩, hS.F ht⟩) hS.2.2 dX6_set_37
  · have hf := ite_t hf c6
    refine lv_iconst (v := (-1)) hx hb dX6_set_8 (by decide) ?_
    have er0 := Option.some.inj hf
    obtain ⟨er0, er1⟩ := Prod.mk.inj er0
    rw [← hQ0]; exact W.iret (v := (-1)) hx hb hr (fun t ht hW => ⟨⟨(-1), (), rfl, ⟨er0, trivial⟩, by dsimp only; rw [ht, ← er1]; exact hP⟩, hS.F ht⟩) hS.2.2 dX6_set_9
abbrev rmX6_speed : Room := { frames := 1, cells := 0, slots := 0, locals := 22 }
set_option maxHeartbeats 8000000 in
set_option maxRecDepth 100000 in
theorem c_X6_speed (l : Launch) (g : GG) (aM : Nat → Nat) (sz : Nat) (n : Nat) (XM : DM) (p1 p2 : Int32) (r : Int32) (XMz : DM) (hf : fX6_speed n XM p1 p2 = some (r, XMz)) : Met l yX6_speed wsX6_speed rmX6_speed (va_Pc [.ref (aM 0), .int p1, .int p2] (fun U => U.heap.size = sz ∧ va_P g.1 vwCl (pM g aM XM) U.heap ∧ KW g U ∧ va_D (fun _ => True) (pM g aM XM))) (va_Qi (fun r' (_ : Unit) => r' = r ∧ True) (fun (_ : Unit) t => va_P g.1 vwCl (pM g aM XMz) t.heap) (va_A (pM g aM XM) sz)) 0 0 (va_A (pM g aM XM) sz) := by
  refine Met.ofW (cc := cX6_speed) (maxL := 4) (ret := (some .int)) (by decide) rfl ?_
  intro p e s m args below meth c s₁ B hml hv
  obtain ⟨hargs, hsz, hP, hKW, hD0⟩ := hv
  have hK := hKW.1
  have hx := B.exec
  have hb := B.bytes
  have hr := B.returns
  have hts := atoms_spec (ws := wsX6_speed) B.pre
  have hown : s.vm.findClass RX6 = some m.cls := findClass_of_methodNamed B.named
  have hlocks := B.notSynchronized
  subst hsz
  have hD := hD0.self (sz := s.heap.size)
  generalize hAe : va_A (pM g aM XM) s.heap.size = A at hD ⊢
  have hA : ∀ q : Nat, s.heap.size ≤ q → A q := fun q h => by rw [← hAe]; exact Or.inr h
  have hS : va_S A s.heap s.heap [] := va_S.rf
  have i_X6 : ∀ w ∈ wsX60, w ∈ wsX6_speed := fun w h => List.mem_cons_of_mem _ (List.mem_append_right _ h)
  have hent : entryFrame m args 4 = F0 m 0 ((lg_sl ([.ref (aM 0), .int p1, .int p2]) ++ List.replicate (4 - (lg_sl ([.ref (aM 0), .int p1, .int p2])).length) Slot.unset).toArray) [] := by rw [hargs]; exact lg_entry_eq _ _ _
  rw [hent]
  have hl := lv_entry ([.ref (aM 0), .int p1, .int p2]) (n := 4) (Nat.le_of_ble_eq_true rfl)
  generalize (lg_sl ([.ref (aM 0), .int p1, .int p2]) ++ List.replicate (4 - (lg_sl ([.ref (aM 0), .int p1, .int p2])).length) Slot.unset).toArray = ls at hl ⊢
  have hl : lv_has ls 4 [(0, .ref (aM 0)), (1, .int p1), (2, .int p2)] := hl
  generalize hQ0 : MQ below _ _ _ _ _ _ = Q0
  unfold fX6_speed at hf
  refine lv_iload_n hx hb dX6_speed_0 rfl (lv_at hl 1 rfl) ?_
  refine lv_iconst (v := 0) hx hb dX6_speed_1 (by decide) ?_
  refine lv_iconst (v := 2) hx hb dX6_speed_2 (by decide) ?_
  obtain ⟨r1, h2, hf⟩ := bnd_el hf
  refine rdS (As := [.int p1, .int 0, .int 2]) (rest := []) ⟨hx, hb, hml, hown, hts⟩ (c_X6_in l g _ _ _ _ h2) (va_cwS 3 hts gX6_speed_X6_in rfl rfl rfl (by decide +kernel) ⟨Nat.le_of_ble_eq_true rfl, Nat.le_of_ble_eq_true rfl⟩) hKW hP [] rfl rfl hl.1 rfl (lv_room (Nat.le_of_ble_eq_true rfl)) dX6_speed_3 ⟨Nat.zero_le _, Nat.zero_le _⟩ (fun r3 q4 => ?_)
  obtain ⟨q4, nb5⟩ := q4
  refine lv_as q4.symm ?_
  rw [q4] at nb5
  refine lv_if_eq (tgt := 21) hx hb dX6_speed_6 (by decide) (fun c6 => ?_) (fun c6 => ?_)
  · have hf := ite_t hf c6
    refine lv_iconst (v := (-1)) hx hb dX6_speed_21 (by decide) ?_
    have er0 := Option.some.inj hf
    obtain ⟨er0, er1⟩ := Prod.mk.inj er0
    rw [← hQ0]; exact W.iret (v := (-1)) hx hb hr (fun t ht hW => ⟨⟨(-1), (), rfl, ⟨er0, trivial⟩, by dsimp only; rw [ht, ← er1]; exact hP⟩, hS.F ht⟩) hS.2.2 dX6_speed_22
  · have hf := ite_f hf c6
    refine lv_iload_n hx hb dX6_speed_9 rfl (lv_at hl 2 rfl) ?_
    refine lv_bipush (v := 50) hx hb dX6_speed_10 (by decide) ?_
    refine lv_sipush (v := 400) hx hb dX6_speed_12 (by decide) ?_
    obtain ⟨r7, h8, hf⟩ := bnd_el hf
    refine rdS (As := [.int p2, .int 50, .int 400]) (rest := []) ⟨hx, hb, hml, hown, hts⟩ (c_X6_in l g _ _ _ _ h8) (va_cwS 3 hts gX6_speed_X6_in rfl rfl rfl (by decide +kernel) ⟨Nat.le_of_ble_eq_true rfl, Nat.le_of_ble_eq_true rfl⟩) hKW hP [] rfl rfl hl.1 rfl (lv_room (Nat.le_of_ble_eq_true rfl)) dX6_speed_15 ⟨Nat.zero_le _, Nat.zero_le _⟩ (fun r9 q10 => ?_)
    obtain ⟨q10, nb11⟩ := q10
    refine lv_as q10.symm ?_
    rw [q10] at nb11
    refine lv_if_ne (tgt := 23) hx hb dX6_speed_18 (by decide) (fun c12 => ?_) (fun c12 => ?_)
    · have hf := ite_f hf c12
      refine lv_aload_n hx hb dX6_speed_23 rfl (lv_at hl 0 rfl) ?_
      obtain ⟨X13, h14, hf⟩ := bnd_el hf
      refine wr_v (rest := []) (wc := (pM g aM XM)) (wc' := (pM g aM X13)) (ws2 := (pM g aM X13)) hP hD hS hA [0, 1, 2, 3, 4, 5, 6, 7, 8, 9, 10, 11] rfl rfl (by rfl) (rnV (As := []) ⟨hx, hb, hml, hown, hts⟩ (c_X6_records l g aM _ _ _ _ h14) (cwV 0 hts gX6_speed_X6_records rfl rfl rfl (by decide +kernel) ⟨Nat.le_of_ble_eq_true rfl, Nat.le_of_ble_eq_true rfl⟩) hKW hP hD [0, 1, 2, 3, 4, 5, 6, 7, 8, 9, 10, 11] (by decide) rfl (va_recv hK hP (ci := 6) (q0 := 0) rfl rfl) rfl hl.1 rfl (lv_room (Nat.le_of_ble_eq_true rfl)) dX6_speed_24 ⟨Nat.zero_le _, Nat.zero_le _⟩) (fun H locs hP hD hS => ?_)
      refine lv_aload_n hx hb dX6_speed_27 rfl (lv_at hl 0 rfl) ?_
      refine va_get (D := g.1) (ci := 6) (v := .ref (aM 1)) (C := RX6) (T := TX6) (N := 19) hx hb hts i_X6 hown hK hP 0 rfl rfl 0 (by decide) (hts (.fieldLink RX6 7 "WordFlasherModel" "d" "[I") (List.mem_of_getElem? (i := 1) rfl)) (fun _ h9 => h9) rfl dX6_speed_28 ?_
      refine lv_sipush (v := 330) hx hb dX6_speed_31 (by decide) ?_
      refine lv_iload_n hx hb dX6_speed_34 rfl (lv_at hl 1 rfl) ?_
      refine lv_iadd hx hb dX6_speed_35 ?_
      obtain ⟨h17, v15, e16, hf⟩ := rdA_el hf
      refine va_iald hx hb hK hP 1 0 rfl rfl h17 dX6_speed_36 ?_
      refine lv_as e16 ?_
      refine lv_istore_n (lv' := [(3, .int v15), (0, .ref (aM 0)), (1, .int p1), (2, .int p2)]) hx hb dX6_speed_37 rfl hl (by decide) rfl (fun ls hl => ?_)
      refine lv_aload_n hx hb dX6_speed_38 rfl (lv_at hl 1 rfl) ?_
      refine va_get (D := g.1) (ci := 6) (v := .ref (aM 1)) (C := RX6) (T := TX6) (N := 19) hx hb hts i_X6 hown hK hP 0 rfl rfl 0 (by decide) (hts (.fieldLink RX6 7 "WordFlasherModel" "d" "[I") (List.mem_of_getElem? (i := 1) rfl)) (fun _ h9 => h9) rfl dX6_speed_39 ?_
      refine lv_sipush (v := 330) hx hb dX6_speed_42 (by decide) ?_
      refine lv_iload_n hx hb dX6_speed_45 rfl (lv_at hl 2 rfl) ?_
      refine lv_iadd hx hb dX6_speed_46 ?_
      refine lv_iload_n hx hb dX6_speed_47 rfl (lv_at hl 3 rfl) ?_
      obtain ⟨h20, f18, e19, hf⟩ := wrA_el hf
      obtain ⟨X21, e22, hf⟩ := sl_el hf
      refine va_iast hx hb hK hP hD hS 1 0 rfl rfl h20 dX6_speed_48 (fun H locs hP hD hS => ?_)
      have hP : va_P g.1 vwCl (pM g aM X21) H := by subst e22; subst e19; exact hP
      have hD : va_D A (pM g aM X21) := by subst e22; subst e19; exact hD
      refine lv_iload_n hx hb dX6_speed_49 rfl (lv_at hl 0 rfl) ?_
      have er0 := Option.some.inj hf
      obtain ⟨er0, er1⟩ := Prod.mk.inj er0
      rw [← hQ0]; exact W.iret (v := v15) hx hb hr (fun t ht hW => ⟨⟨v15, (), rfl, ⟨er0, trivial⟩, by dsimp only; rw [ht, ← er1]; exact hP⟩, hS.F ht⟩) hS.2.2 dX6_speed_50
    · have hf := ite_t hf c12
      refine lv_iconst (v := (-1)) hx hb dX6_speed_21 (by decide) ?_
      have er0 := Option.some.inj hf
      obtain ⟨er0, er1⟩ := Prod.mk.inj er0
      rw [← hQ0]; exact W.iret (v := (-1)) hx hb hr (fun t ht hW => ⟨⟨(-1), (), rfl, ⟨er0, trivial⟩, by dsimp only; rw [ht, ← er1]; exact hP⟩, hS.F ht⟩) hS.2.2 dX6_speed_22
abbrev rmX6_run : Room := { frames := 6, cells := 0, slots := 0, locals := 134 }
set_option maxHeartbeats 8000000 in
set_option maxRecDepth 100000 in
theorem c_X6_run (l : Launch) (g : GG) (aM : Nat → Nat) (sz : Nat) (n : Nat) (XM : DM) (p1 : Int32) (r : Int32) (XMz : DM) (hf : fX6_run n XM p1 = some (r, XMz)) : Met l yX6_run wsX6_run rmX6_run (va_Pc [.ref (aM 0), .int p1] (fun U => U.heap.size = sz ∧ va_P g.1 vwCl (pM g aM XM) U.heap ∧ KW g U ∧ va_D (fun _ => True) (pM g aM XM))) (va_Qi (fun r' (_ : Unit) => r' = r ∧ True) (fun (_ : Unit) t => va_P g.1 vwCl (pM g aM XMz) t.heap) (va_A (pM g aM XM) sz)) 0 0 (va_A (pM g aM XM) sz) := by
  refine Met.ofW (cc := cX6_run) (maxL := 2) (ret := (some .int)) (by decide) rfl ?_
  intro p e s m args below meth c s₁ B hml hv
  obtain ⟨hargs, hsz, hP, hKW, hD0⟩ := hv
  have hK := hKW.1
  have hx := B.exec
  have hb := B.bytes
  have hr := B.returns
  have hts := atoms_spec (ws := wsX6_run) B.pre
  have hown : s.vm.findClass RX6 = some m.cls := findClass_of_methodNamed B.named
  have hlocks := B.notSynchronized
  subst hsz
  have hD := hD0.self (sz := s.heap.size)
  generalize hAe : va_A (pM g aM XM) s.heap.size = A at hD ⊢
  have hA : ∀ q : Nat, s.heap.size ≤ q → A q := fun q h => by rw [← hAe]; exact Or.inr h
  have hS : va_S A s.heap s.heap [] := va_S.rf
  have i_X6 : ∀ w ∈ wsX60, w ∈ wsX6_run := fun w h => List.mem_cons_of_mem _ (List.mem_append_right _ h)
  have hent : entryFrame m args 2 = F0 m 0 ((lg_sl ([.ref (aM 0), .int p1]) ++ List.replicate (2 - (lg_sl ([.ref (aM 0), .int p1])).length) Slot.unset).toArray) [] := by rw [hargs]; exact lg_entry_eq _ _ _
  rw [hent]
  have hl := lv_entry ([.ref (aM 0), .int p1]) (n := 2) (Nat.le_of_ble_eq_true rfl)
  generalize (lg_sl ([.ref (aM 0), .int p1]) ++ List.replicate (2 - (lg_sl ([.ref (aM 0), .int p1])).length) Slot.unset).toArray = ls at hl ⊢
  have hl : lv_has ls 2 [(0, .ref (aM 0)), (1, .int p1)] := hl
  generalize hQ0 : MQ below _ _ _ _ _ _ = Q0
  unfold fX6_run at hf
  refine lv_iload_n hx hb dX6_run_0 rfl (lv_at hl 1 rfl) ?_
  refine lv_iconst (v := 1) hx hb dX6_run_1 (by decide) ?_
  refine lv_sipush (v := 9999) hx hb dX6_run_2 (by decide) ?_
  obtain ⟨r1, h2, hf⟩ := bnd_el hf
  refine rdS (As := [.int p1, .int 1, .int 9999]) (rest := []) ⟨hx, hb, hml, hown, hts⟩ (c_X6_in l g _ _ _ _ h2) (va_cwS 3 hts gX6_run_X6_in rfl rfl rfl (by decide +kernel) ⟨Nat.le_of_ble_eq_true rfl, Nat.le_of_ble_eq_true rfl⟩) hKW hP [] rfl rfl hl.1 rfl (lv_room (Nat.le_of_ble_eq_true rfl)) dX6_run_5 ⟨Nat.zero_le _, Nat.zero_le _⟩ (fun r3 q4 => ?_)
  obtain ⟨q4, nb5⟩ := q4
  refine lv_as q4.symm ?_
  rw [q4] at nb5
  refine lv_if_ne (tgt := 13) hx hb dX6_run_8 (by decide) (fun c6 => ?_) (fun c6 => ?_)
  · have hf := ite_f hf c6
    refine lv_aload_n hx hb dX6_run_13 rfl (lv_at hl 0 rfl) ?_
    refine va_get (D := g.1) (ci := 6) (v := .ref (aM 1)) (C := RX6) (T := TX6) (N := 19) hx hb hts i_X6 hown hK hP 0 rfl rfl 0 (by decide) (hts (.fieldLink RX6 7 "WordFlasherModel" "d" "[I") (List.mem_of_getElem? (i := 1) rfl)) (fun _ h9 => h9) rfl dX6_run_14 ?_
    refine lv_sipush (v := 301) hx hb dX6_run_17 (by decide) ?_
    obtain ⟨h9, v7, e8, hf⟩ := rdA_el hf
    refine va_iald hx hb hK hP 1 0 rfl rfl h9 dX6_run_20 ?_
    refine lv_as e8 ?_
    refine lv_iconst (v := (-1)) hx hb dX6_run_21 (by decide) ?_
    refine lv_icmp_ne (tgt := 28) hx hb dX6_run_22 (by decide) (fun c10 => ?_) (fun c10 => ?_)
    · have hf := ite_f hf c10
      refine lv_aload_n hx hb dX6_run_28 rfl (lv_at hl 0 rfl) ?_
      obtain ⟨X11, h12, hf⟩ := bnd_el hf
      refine wr_v (rest := []) (wc := (pM g aM XM)) (wc' := (pM g aM X11)) (ws2 := (pM g aM X11)) hP hD hS hA [0, 1, 2, 3, 4, 5, 6, 7, 8, 9, 10, 11] rfl rfl (by rfl) (rnV (As := []) ⟨hx, hb, hml, hown, hts⟩ (c_X6_records l g aM _ _ _ _ h12) (cwV 0 hts gX6_run_X6_records rfl rfl rfl (by decide +kernel) ⟨Nat.le_of_ble_eq_true rfl, Nat.le_of_ble_eq_true rfl⟩) hKW hP hD [0, 1, 2, 3, 4, 5, 6, 7, 8, 9, 10, 11] (by decide) rfl (va_recv hK hP (ci := 6) (q0 := 0) rfl rfl) rfl hl.1 rfl (lv_room (Nat.le_of_ble_eq_true rfl)) dX6_run_29 ⟨Nat.zero_le _, Nat.zero_le _⟩) (fun H locs hP hD hS => ?_)
      refine lv_aload_n hx hb dX6_run_32 rfl (lv_at hl 0 rfl) ?_
      refine lv_iload_n hx hb dX6_run_33 rfl (lv_at hl 1 rfl) ?_
      obtain ⟨u16, h15, hf⟩ := bnd_el hf
      refine wr_i (rest := []) (wc := (pM g aM X11)) (wc' := (pM g aM u16.2)) (ws2 := (pM g aM u16.2)) hP hD hS hA [0, 1, 2, 3, 4, 5, 6, 7, 8, 9, 10, 11] rfl rfl (by rfl) (rnV (As := [.int p1]) ⟨hx, hb, hml, hown, hts⟩ (c_X6_goes l g aM _ _ _ _ _ _ h15) (cwV 1 hts gX6_run_X6_goes rfl rfl rfl (by decide +kernel) ⟨Nat.le_of_ble_eq_true rfl, Nat.le_of_ble_eq_true rfl⟩) hKW hP hD [0, 1, 2, 3, 4, 5, 6, 7, 8, 9, 10, 11] (by decide) rfl (va_recv hK hP (ci := 6) (q0 := 0) rfl rfl) rfl hl.1 rfl (lv_room (Nat.le_of_ble_eq_true rfl)) dX6_run_34 ⟨Nat.zero_le _, Nat.zero_le _⟩) (fun r17 H locs q18 hP hD hS => ?_)
      obtain ⟨q18, nb19⟩ := q18
      refine lv_as q18.symm ?_
      have er0 := Option.some.inj hf
      obtain ⟨er0, er1⟩ := Prod.mk.inj er0
      rw [← hQ0]; exact W.iret (v := u16.1) hx hb hr (fun t ht hW => ⟨⟨u16.1, (), rfl, ⟨er0, trivial⟩, by dsimp only; rw [ht, ← er1]; exact hP⟩, hS.F ht⟩) hS.2.2 dX6_run_37
    · have hf := ite_t hf c10
      refine lv_bipush (v := (-2)) hx hb dX6_run_25 (by decide) ?_
      have er0 := Option.some.inj hf
      obtain ⟨er0, er1⟩ := Prod.mk.inj er0
      rw [← hQ0]; exact W.iret (v := (-2)) hx hb hr (fun t ht hW => ⟨⟨(-2), (), rfl, ⟨er0, trivial⟩, by dsimp only; rw [ht, ← er1]; exact hP⟩, hS.F ht⟩) hS.2.2 dX6_run_27
  · have hf := ite_t hf c6
    refine lv_iconst (v := (-1)) hx hb dX6_run_11 (by decide) ?_
    have er0 := Option.some.inj hf
    obtain ⟨er0, er1⟩ := Prod.mk.inj er0
    rw [← hQ0]; exact W.iret (v := (-1)) hx hb hr (fun t ht hW => ⟨⟨(-1), (), rfl, ⟨er0, trivial⟩, by dsimp only; rw [ht, ← er1]; exact hP⟩, hS.F ht⟩) hS.2.2 dX6_run_12
abbrev rmX6_asks : Room := { frames := 4, cells := 0, slots := 0, locals := 88 }
set_option maxHeartbeats 8000000 in
set_option maxRecDepth 100000 in
theorem c_X6_asks (l : Launch) (g : GG) (aM : Nat → Nat) (sz : Nat) (n : Nat) (XM : DM) (XMz : DM) (hf : fX6_asks n XM = some XMz) : Met l yX6_asks wsX6_asks rmX6_asks (va_Pc [.ref (aM 0)] (fun U => U.heap.size = sz ∧ va_P g.1 vwCl (pM g aM XM) U.heap ∧ KW g U ∧ va_D (fun _ => True) (pM g aM XM))) (va_Qv (fun (_ : Unit) => True) (fun (_ : Unit) t => va_P g.1 vwCl (pM g aM XMz) t.heap) (va_A (pM g aM XM) sz)) 0 0 (va_A (pM g aM XM) sz) := by
  refine Met.ofW (cc := cX6_asks) (maxL := 5) (ret := none) (by decide) rfl ?_
  intro p e s m args below meth c s₁ B hml hv
  obtain ⟨hargs, hsz, hP, hKW, hD0⟩ := hv
  have hK := hKW.1
  have hx := B.exec
  have hb := B.bytes
  have hr := B.returns
  have hts := atoms_spec (ws := wsX6_asks) B.pre
  have hown : s.vm.findClass RX6 = some m.cls := findClass_of_methodNamed B.named
  have hlocks := B.notSynchronized
  subst hsz
  have hD := hD0.self (sz := s.heap.size)
  generalize hAe : va_A (pM g aM XM) s.heap.size = A at hD ⊢
  have hA : ∀ q : Nat, s.heap.size ≤ q → A q := fun q h => by rw [← hAe]; exact Or.inr h
  have hS : va_S A s.heap s.heap [] := va_S.rf
  have i_X6 : ∀ w ∈ wsX60, w ∈ wsX6_asks := fun w h => List.mem_cons_of_mem _ (List.mem_append_right _ h)
  have hent : entryFrame m args 5 = F0 m 0 ((lg_sl ([.ref (aM 0)]) ++ List.replicate (5 - (lg_sl ([.ref (aM 0)])).length) Slot.unset).toArray) [] := by rw [hargs]; exact lg_entry_eq _ _ _
  rw [hent]
  have hl := lv_entry ([.ref (aM 0)]) (n := 5) (Nat.le_of_ble_eq_true rfl)
  generalize (lg_sl ([.ref (aM 0)]) ++ List.replicate (5 - (lg_sl ([.ref (aM 0)])).length) Slot.unset).toArray = ls at hl ⊢
  have hl : lv_has ls 5 [(0, .ref (aM 0))] := hl
  generalize hQ0 : MQ below _ _ _ _ _ _ = Q0
  unfold fX6_asks at hf
  refine lv_iconst (v := 0) hx hb dX6_asks_0 (by decide) ?_
  refine lv_istore_n (lv' := [(1, .int 0), (0, .ref (aM 0))]) hx hb dX6_asks_1 rfl hl (by decide) rfl (fun ls hl => ?_)
  obtain ⟨j113, ej113, hf⟩ := sl_el hf
  have J_113 : ∀ (XM : DM) (H : Heap) (locs : List Loc) (ls : Array Slot), va_P g.1 vwCl (pM g aM XM) H → va_D A (pM g aM XM) → va_S A s.heap H locs → lv_has ls 5 [(0, .ref (aM 0))] → j113 XM = some XMz → W p l e (headSpec wsX6_asks rmX6_asks).room s m args below meth c H locs 0 0 Q0 (F0 m 113 ls []) := by
    intro XM H locs ls hP hD hS hl hf
    rw [ej113] at hf
    refine lv_aload_n hx hb dX6_asks_113 rfl (lv_at hl 0 rfl) ?_
    refine va_get (D := g.1) (ci := 6) (v := .ref (aM 1)) (C := RX6) (T := TX6) (N := 19) hx hb hts i_X6 hown hK hP 0 rfl rfl 0 (by decide) (hts (.fieldLink RX6 7 "WordFlasherModel" "d" "[I") (List.mem_of_getElem? (i := 1) rfl)) (fun _ h9 => h9) rfl dX6_asks_114 ?_
    refine lv_sipush (v := 344) hx hb dX6_asks_117 (by decide) ?_
    refine lv_iconst (v := 1) hx hb dX6_asks_120 (by decide) ?_
    obtain ⟨h3, f1, e2, hf⟩ := wrA_el hf
    obtain ⟨X4, e5, hf⟩ := sl_el hf
    refine va_iast hx hb hK hP hD hS 1 0 rfl rfl h3 dX6_asks_121 (fun H locs hP hD hS => ?_)
    have hP : va_P g.1 vwCl (pM g aM X4) H := by subst e5; subst e2; exact hP
    have hD : va_D A (pM g aM X4) := by subst e5; subst e2; exact hD
    refine lv_aload_n hx hb dX6_asks_122 rfl (lv_at hl 0 rfl) ?_
    refine va_get (D := g.1) (ci := 6) (v := .ref (aM 1)) (C := RX6) (T := TX6) (N := 19) hx hb hts i_X6 hown hK hP 0 rfl rfl 0 (by decide) (hts (.fieldLink RX6 7 "WordFlasherModel" "d" "[I") (List.mem_of_getElem? (i := 1) rfl)) (fun _ h9 => h9) rfl dX6_asks_123 ?_
    refine lv_sipush (v := 347) hx hb dX6_asks_126 (by decide) ?_
    refine lv_dup2_11 hx hb dX6_asks_129 rfl rfl ?_
    obtain ⟨h8, v6, e7, hf⟩ := rdA_el hf
    refine va_iald hx hb hK hP 1 0 rfl rfl h8 dX6_asks_130 ?_
    refine lv_as e7 ?_
    refine lv_iconst (v := 1) hx hb dX6_asks_131 (by decide) ?_
    refine lv_iadd hx hb dX6_asks_132 ?_
    obtain ⟨h11, f9, e10, hf⟩ := wrA_el hf
    obtain ⟨X12, e13, hf⟩ := sl_el hf
    refine va_iast hx hb hK hP hD hS 1 0 rfl rfl h11 dX6_asks_133 (fun H locs hP hD hS => ?_)
    have hP : va_P g.1 vwCl (pM g aM X12) H := by subst e13; subst e10; exact hP
    have hD : va_D A (pM g aM X12) := by subst e13; subst e10; exact hD
    refine lv_aload_n hx hb dX6_asks_134 rfl (lv_at hl 0 rfl) ?_
    refine va_get (D := g.1) (ci := 6) (v := .ref (aM 1)) (C := RX6) (T := TX6) (N := 19) hx hb hts i_X6 hown hK hP 0 rfl rfl 0 (by decide) (hts (.fieldLink RX6 7 "WordFlasherModel" "d" "[I") (List.mem_of_getElem? (i := 1) rfl)) (fun _ h9 => h9) rfl dX6_asks_135 ?_
    refine lv_sipush (v := 301) hx hb dX6_asks_138 (by decide) ?_
    obtain ⟨h16, v14, e15, hf⟩ := rdA_el hf
    refine va_iald hx hb hK hP 1 0 rfl rfl h16 dX6_asks_141 ?_
    refine lv_as e15 ?_
    refine lv_iconst (v := (-1)) hx hb dX6_asks_142 (by decide) ?_
    obtain ⟨j166, ej166, hf⟩ := sl_el hf
    have J_166 : ∀ (k0 : Int32) (XM : DM) (H : Heap) (locs : List Loc) (ls : Array Slot), va_P g.1 vwCl (pM g aM XM) H → va_D A (pM g aM XM) → va_S A s.heap H locs → lv_has ls 5 [(0, .ref (aM 0))] → j166 k0 XM = some XMz → W p l e (headSpec wsX6_asks rmX6_asks).room s m args below meth c H locs 0 0 Q0 (F0 m 166 ls [.int k0]) := by
      intro k0 XM H locs ls hP hD hS hl hf
      rw [ej166] at hf
      refine lv_istore_n (lv' := [(1, .int k0), (0, .ref (aM 0))]) hx hb dX6_asks_166 rfl hl (by decide) rfl (fun ls hl => ?_)
      refine lv_aload_n hx hb dX6_asks_167 rfl (lv_at hl 1 rfl) ?_
      refine va_get (D := g.1) (ci := 6) (v := .ref (aM 1)) (C := RX6) (T := TX6) (N := 19) hx hb hts i_X6 hown hK hP 0 rfl rfl 0 (by decide) (hts (.fieldLink RX6 7 "WordFlasherModel" "d" "[I") (List.mem_of_getElem? (i := 1) rfl)) (fun _ h9 => h9) rfl dX6_asks_168 ?_
      refine lv_sipush (v := 301) hx hb dX6_asks_171 (by decide) ?_
      obtain ⟨h19, v17, e18, hf⟩ := rdA_el hf
      refine va_iald hx hb hK hP 1 0 rfl rfl h19 dX6_asks_174 ?_
      refine lv_as e18 ?_
      refine lv_iconst (v := (-1)) hx hb dX6_asks_175 (by decide) ?_
      obtain ⟨j188, ej188, hf⟩ := sl_el hf
      have J_188 : ∀ (x1 k0 : Int32) (XM : DM) (H : Heap) (locs : List Loc) (ls : Array Slot), va_P g.1 vwCl (pM g aM XM) H → va_D A (pM g aM XM) → va_S A s.heap H locs → lv_has ls 5 [(0, .ref (aM 0)), (1, .int x1)] → j188 x1 k0 XM = some XMz → W p l e (headSpec wsX6_asks rmX6_asks).room s m args below meth c H locs 0 0 Q0 (F0 m 188 ls [.int k0]) := by
        intro x1 k0 XM H locs ls hP hD hS hl hf
        rw [ej188] at hf
        refine lv_istore_n (lv' := [(2, .int k0), (0, .ref (aM 0)), (1, .int x1)]) hx hb dX6_asks_188 rfl hl (by decide) rfl (fun ls hl => ?_)
        refine lv_iload_n hx hb dX6_asks_189 rfl (lv_at hl 0 rfl) ?_
        refine lv_aload_n hx hb dX6_asks_190 rfl (lv_at hl 1 rfl) ?_
        refine va_get (D := g.1) (ci := 6) (v := .ref (aM 1)) (C := RX6) (T := TX6) (N := 19) hx hb hts i_X6 hown hK hP 0 rfl rfl 0 (by decide) (hts (.fieldLink RX6 7 "WordFlasherModel" "d" "[I") (List.mem_of_getElem? (i := 1) rfl)) (fun _ h9 => h9) rfl dX6_asks_191 ?_
        refine lv_sipush (v := 301) hx hb dX6_asks_194 (by decide) ?_
        obtain ⟨h22, v20, e21, hf⟩ := rdA_el hf
        refine va_iald hx hb hK hP 1 0 rfl rfl h22 dX6_asks_197 ?_
        refine lv_as e21 ?_
        obtain ⟨j257, ej257, hf⟩ := sl_el hf
        have J_257 : ∀ (x2 : Int32) (XM : DM) (H : Heap) (locs : List Loc) (ls : Array Slot), va_P g.1 vwCl (pM g aM XM) H → va_D A (pM g aM XM) → va_S A s.heap H locs → lv_has ls 5 [(0, .ref (aM 0)), (2, .int x2)] → j257 x2 XM = some XMz → W p l e (headSpec wsX6_asks rmX6_asks).room s m args below meth c H locs 0 0 Q0 (F0 m 257 ls []) := by
          intro x2 XM H locs ls hP hD hS hl hf
          rw [ej257] at hf
          refine lv_aload_n hx hb dX6_asks_257 rfl (lv_at hl 0 rfl) ?_
          refine lv_iload_n hx hb dX6_asks_258 rfl (lv_at hl 1 rfl) ?_
          obtain ⟨X23, h24, hf⟩ := bnd_el hf
          refine wr_v (rest := []) (wc := (pM g aM XM)) (wc' := (pM g aM X23)) (ws2 := (pM g aM X23)) hP hD hS hA [0, 1, 2, 3, 4, 5, 6, 7, 8, 9, 10, 11] rfl rfl (by rfl) (rnV (As := [.int x2]) ⟨hx, hb, hml, hown, hts⟩ (c_X6_becomes l g aM _ _ _ _ h24) (cwV 1 hts gX6_asks_X6_becomes rfl rfl rfl (by decide +kernel) ⟨Nat.le_of_ble_eq_true rfl, Nat.le_of_ble_eq_true rfl⟩) hKW hP hD [0, 1, 2, 3, 4, 5, 6, 7, 8, 9, 10, 11] (by decide) rfl (va_recv hK hP (ci := 6) (q0 := 0) rfl rfl) rfl hl.1 rfl (lv_room (Nat.le_of_ble_eq_true rfl)) dX6_asks_259 ⟨Nat.zero_le _, Nat.zero_le _⟩) (fun H locs hP hD hS => ?_)
          have er0 := Option.some.inj hf
          rw [← hQ0]; exact W.vret hx hb hr (fun t ht hW => ⟨⟨(), rfl, trivial, by dsimp only; rw [ht, ← er0]; exact hP⟩, hS.F ht⟩) hS.2.2 dX6_asks_262
        refine lv_icmp_ne (tgt := 257) hx hb dX6_asks_198 (by decide) (fun c25 => ?_) (fun c25 => ?_)
        · have hf := ite_f hf c25
          exact J_257 k0 XM _ _ ls hP hD hS (lv_sub hl [1, 0] rfl) hf
        · have hf := ite_t hf c25
          refine lv_iconst (v := (-1)) hx hb dX6_asks_201 (by decide) ?_
          refine lv_istore_n (lv' := [(3, .int (-1)), (2, .int k0), (0, .ref (aM 0)), (1, .int x1)]) hx hb dX6_asks_202 rfl hl (by decide) rfl (fun ls hl => ?_)
          refine lv_iconst (v := 0) hx hb dX6_asks_203 (by decide) ?_
          refine lv_istore (lv' := [(4, .int 0), (3, .int (-1)), (2, .int k0), (0, .ref (aM 0)), (1, .int x1)]) hx hb dX6_asks_204 hl (by decide) rfl (fun ls hl => ?_)
          obtain ⟨j239, ej239, hf⟩ := sl_el hf
          have J_239 : ∀ (x3 : Int32) (XM : DM) (H : Heap) (locs : List Loc) (ls : Array Slot), va_P g.1 vwCl (pM g aM XM) H → va_D A (pM g aM XM) → va_S A s.heap H locs → lv_has ls 5 [(0, .ref (aM 0)), (3, .int x3)] → j239 x3 XM = some XMz → W p l e (headSpec wsX6_asks rmX6_asks).room s m args below meth c H locs 0 0 Q0 (F0 m 239 ls []) := by
            intro x3 XM H locs ls hP hD hS hl hf
            rw [ej239] at hf
            refine lv_iload_n hx hb dX6_asks_239 rfl (lv_at hl 1 rfl) ?_
            refine lv_iconst (v := (-1)) hx hb dX6_asks_240 (by decide) ?_
            obtain ⟨j256, ej256, hf⟩ := sl_el hf
            have J_256 : ∀ (k0 : Int32) (XM : DM) (H : Heap) (locs : List Loc) (ls : Array Slot), va_P g.1 vwCl (pM g aM XM) H → va_D A (pM g aM XM) → va_S A s.heap H locs → lv_has ls 5 [(0, .ref (aM 0))] → j256 k0 XM = some XMz → W p l e (headSpec wsX6_asks rmX6_asks).room s m args below meth c H locs 0 0 Q0 (F0 m 256 ls [.int k0]) := by
              intro k0 XM H locs ls hP hD hS hl hf
              rw [ej256] at hf
              refine lv_istore_n (lv' := [(2, .int k0), (0, .ref (aM 0))]) hx hb dX6_asks_256 rfl hl (by decide) rfl (fun ls hl => ?_)
              exact J_257 k0 XM _ _ ls hP hD hS (lv_sub hl [1, 0] rfl) hf
            refine lv_icmp_ne (tgt := 255) hx hb dX6_asks_241 (by decide) (fun c26 => ?_) (fun c26 => ?_)
            · have hf := ite_f hf c26
              refine lv_iload_n hx hb dX6_asks_255 rfl (lv_at hl 1 rfl) ?_
              exact J_256 x3 XM _ _ ls hP hD hS (lv_sub hl [0] rfl) hf
            · have hf := ite_t hf c26
              refine lv_aload_n hx hb dX6_asks_244 rfl (lv_at hl 0 rfl) ?_
              refine va_get (D := g.1) (ci := 6) (v := .ref (aM 1)) (C := RX6) (T := TX6) (N := 19) hx hb hts i_X6 hown hK hP 0 rfl rfl 0 (by decide) (hts (.fieldLink RX6 7 "WordFlasherModel" "d" "[I") (List.mem_of_getElem? (i := 1) rfl)) (fun _ h9 => h9) rfl dX6_asks_245 ?_
              refine lv_sipush (v := 301) hx hb dX6_asks_248 (by decide) ?_
              obtain ⟨h29, v27, e28, hf⟩ := rdA_el hf
              refine va_iald hx hb hK hP 1 0 rfl rfl h29 dX6_asks_251 ?_
              refine lv_as e28 ?_
              refine lv_goto (tgt := 256) hx hb dX6_asks_252 (by decide) ?_
              exact J_256 v27 XM _ _ ls hP hD hS (lv_sub hl [0] rfl) hf
          have L_206 : ∀ fu : Nat, ∀ (x1 x3 x4 : Int32) (XM : DM) (H : Heap) (locs : List Loc) (ls : Array Slot), va_P g.1 vwCl (pM g aM XM) H → va_D A (pM g aM XM) → va_S A s.heap H locs → lv_has ls 5 [(0, .ref (aM 0)), (1, .int x1), (3, .int x3), (4, .int x4)] → fX6_asks_L206 n j239 fu x1 x3 x4 XM = some XMz → W p l e (headSpec wsX6_asks rmX6_asks).room s m args below meth c H locs 0 0 Q0 (F0 m 206 ls []) := by
            intro fu
            induction fu with
            | zero => intros; rename_i hf; rw [fX6_asks_L206] at hf; cases hf
            | succ fu ih =>
              intro x1 x3 x4 XM H locs ls hP hD hS hl hf
              rw [fX6_asks_L206] at hf
              refine lv_iload hx hb dX6_asks_206 (lv_at hl 3 rfl) ?_
              refine lv_iload_n hx hb dX6_asks_208 rfl (lv_at hl 1 rfl) ?_
              refine lv_icmp_ge (tgt := 239) hx hb dX6_asks_209 (by decide) (fun c30 => ?_) (fun c30 => ?_)
              · have hf := ite_t hf c30
                exact J_239 x3 XM _ _ ls hP hD hS (lv_sub hl [0, 2] rfl) hf
              · have hf := ite_f hf c30
                refine lv_aload_n hx hb dX6_asks_212 rfl (lv_at hl 0 rfl) ?_
                refine lv_iload hx hb dX6_asks_213 (lv_at hl 3 rfl) ?_
                obtain ⟨r31, h32, hf⟩ := bnd_el hf
                refine rdV (As := [.int x4]) (rest := []) ⟨hx, hb, hml, hown, hts⟩ (c_X6_firstOf l g aM _ _ _ _ h32) (cwV 1 hts gX6_asks_X6_firstOf rfl rfl rfl (by decide +kernel) ⟨Nat.le_of_ble_eq_true rfl, Nat.le_of_ble_eq_true rfl⟩) hKW hP [0, 1, 2, 3, 4, 5, 6, 7, 8, 9, 10, 11] rfl (va_recv hK hP (ci := 6) (q0 := 0) rfl rfl) rfl hl.1 rfl (lv_room (Nat.le_of_ble_eq_true rfl)) dX6_asks_215 ⟨Nat.zero_le _, Nat.zero_le _⟩ (fun r33 q34 => ?_)
                obtain ⟨q34, nb35⟩ := q34
                refine lv_as q34.symm ?_
                refine lv_iconst (v := (-1)) hx hb dX6_asks_218 (by decide) ?_
                obtain ⟨j232, ej232, hf⟩ := sl_el hf
                have J_232 : ∀ (x1 x4 k0 : Int32) (XM : DM) (H : Heap) (locs : List Loc) (ls : Array Slot), va_P g.1 vwCl (pM g aM XM) H → va_D A (pM g aM XM) → va_S A s.heap H locs → lv_has ls 5 [(0, .ref (aM 0)), (1, .int x1), (4, .int x4)] → j232 x1 x4 k0 XM = some XMz → W p l e (headSpec wsX6_asks rmX6_asks).room s m args below meth c H locs 0 0 Q0 (F0 m 232 ls [.int k0]) := by
                  intro x1 x4 k0 XM H locs ls hP hD hS hl hf
                  rw [ej232] at hf
                  refine lv_istore_n (lv' := [(3, .int k0), (0, .ref (aM 0)), (1, .int x1), (4, .int x4)]) hx hb dX6_asks_232 rfl hl (by decide) rfl (fun ls hl => ?_)
                  obtain ⟨v36, e37, hf⟩ := sl_el hf
                  refine lv_iinc (v := v36) (lv' := [(4, .int v36), (3, .int k0), (0, .ref (aM 0)), (1, .int x1)]) hx hb dX6_asks_233 hl (k := 3) rfl (by rw [e37]; rfl) (by decide) rfl (fun ls hl => ?_)
                  refine lv_goto (tgt := 206) hx hb dX6_asks_236 (by decide) ?_
                  exact ih x1 k0 v36 XM _ _ ls hP hD hS (lv_sub hl [2, 3, 1, 0] rfl) hf
                refine lv_icmp_ne (tgt := 226) hx hb dX6_asks_219 (by decide) (fun c38 => ?_) (fun c38 => ?_)
                · have hf := ite_f hf c38
                  refine lv_aload_n hx hb dX6_asks_226 rfl (lv_at hl 0 rfl) ?_
                  refine lv_iload hx hb dX6_asks_227 (lv_at hl 3 rfl) ?_
                  obtain ⟨r39, h40, hf⟩ := bnd_el hf
                  refine rdV (As := [.int x4]) (rest := []) ⟨hx, hb, hml, hown, hts⟩ (c_X6_firstOf l g aM _ _ _ _ h40) (cwV 1 hts gX6_asks_X6_firstOf rfl rfl rfl (by decide +kernel) ⟨Nat.le_of_ble_eq_true rfl, Nat.le_of_ble_eq_true rfl⟩) hKW hP [0, 1, 2, 3, 4, 5, 6, 7, 8, 9, 10, 11] rfl (va_recv hK hP (ci := 6) (q0 := 0) rfl rfl) rfl hl.1 rfl (lv_room (Nat.le_of_ble_eq_true rfl)) dX6_asks_229 ⟨Nat.zero_le _, Nat.zero_le _⟩ (fun r41 q42 => ?_)
                  obtain ⟨q42, nb43⟩ := q42
                  refine lv_as q42.symm ?_
                  exact J_232 x1 x4 r39 XM _ _ ls hP hD hS (lv_sub hl [0, 1, 3] rfl) hf
                · have hf := ite_t hf c38
                  refine lv_iload_n hx hb dX6_asks_222 rfl (lv_at hl 2 rfl) ?_
                  refine lv_goto (tgt := 232) hx hb dX6_asks_223 (by decide) ?_
                  exact J_232 x1 x4 x3 XM _ _ ls hP hD hS (lv_sub hl [0, 1, 3] rfl) hf
          exact L_206 n x1 (-1) 0 XM _ _ ls hP hD hS (lv_sub hl [3, 4, 1, 0] rfl) hf
      refine lv_icmp_ne (tgt := 183) hx hb dX6_asks_176 (by decide) (fun c44 => ?_) (fun c44 => ?_)
      · have hf := ite_f hf c44
        refine lv_aload_n hx hb dX6_asks_183 rfl (lv_at hl 1 rfl) ?_
        refine lv_iload_n hx hb dX6_asks_184 rfl (lv_at hl 0 rfl) ?_
        obtain ⟨r45, h46, hf⟩ := bnd_el hf
        refine rdV (As := [.int k0]) (rest := []) ⟨hx, hb, hml, hown, hts⟩ (c_X6_firstOf l g aM _ _ _ _ h46) (cwV 1 hts gX6_asks_X6_firstOf rfl rfl rfl (by decide +kernel) ⟨Nat.le_of_ble_eq_true rfl, Nat.le_of_ble_eq_true rfl⟩) hKW hP [0, 1, 2, 3, 4, 5, 6, 7, 8, 9, 10, 11] rfl (va_recv hK hP (ci := 6) (q0 := 0) rfl rfl) rfl hl.1 rfl (lv_room (Nat.le_of_ble_eq_true rfl)) dX6_asks_185 ⟨Nat.zero_le _, Nat.zero_le _⟩ (fun r47 q48 => ?_)
        obtain ⟨q48, nb49⟩ := q48
        refine lv_as q48.symm ?_
        exact J_188 k0 r45 XM _ _ ls hP hD hS (lv_sub hl [1, 0] rfl) hf
      · have hf := ite_t hf c44
        refine lv_iconst (v := (-1)) hx hb dX6_asks_179 (by decide) ?_
        refine lv_goto (tgt := 188) hx hb dX6_asks_180 (by decide) ?_
        exact J_188 k0 (-1) XM _ _ ls hP hD hS (lv_sub hl [1, 0] rfl) hf
    refine lv_icmp_ne (tgt := 153) hx hb dX6_asks_143 (by decide) (fun c50 => ?_) (fun c50 => ?_)
    · have hf := ite_f hf c50
      refine lv_aload_n hx hb dX6_asks_153 rfl (lv_at hl 0 rfl) ?_
      refine va_get (D := g.1) (ci := 6) (v := .ref (aM 10)) (C := RX6) (T := TX6) (N := 19) hx hb hts i_X6 hown hK hP 0 rfl rfl 17 (by decide) (hts (.fieldLink RX6 39 "WordFlasherModel" "sentenceOf" "[I") (List.mem_of_getElem? (i := 3) rfl)) (fun _ h9 => h9) rfl dX6_asks_154 ?_
      refine lv_aload_n hx hb dX6_asks_157 rfl (lv_at hl 0 rfl) ?_
      refine va_get (D := g.1) (ci := 6) (v := .ref (aM 1)) (C := RX6) (T := TX6) (N := 19) hx hb hts i_X6 hown hK hP 0 rfl rfl 0 (by decide) (hts (.fieldLink RX6 7 "WordFlasherModel" "d" "[I") (List.mem_of_getElem? (i := 1) rfl)) (fun _ h9 => h9) rfl dX6_asks_158 ?_
      refine lv_sipush (v := 301) hx hb dX6_asks_161 (by decide) ?_
      obtain ⟨h53, v51, e52, hf⟩ := rdA_el hf
      refine va_iald hx hb hK hP 1 0 rfl rfl h53 dX6_asks_164 ?_
      refine lv_as e52 ?_
      obtain ⟨h56, v54, e55, hf⟩ := rdA_el hf
      refine va_iald hx hb hK hP 10 0 rfl rfl h56 dX6_asks_165 ?_
      refine lv_as e55 ?_
      exact J_166 v54 X12 _ _ ls hP hD hS (lv_sub hl [0] rfl) hf
    · have hf := ite_t hf c50
      refine lv_aload_n hx hb dX6_asks_146 rfl (lv_at hl 0 rfl) ?_
      refine va_get (D := g.1) (ci := 6) (v := .int (X12 10 0)) (C := RX6) (T := TX6) (N := 19) hx hb hts i_X6 hown hK hP 0 rfl rfl 10 (by decide) (hts (.fieldLink RX6 53 "WordFlasherModel" "sentences" "I") (List.mem_of_getElem? (i := 2) rfl)) (fun _ h9 => h9) rfl dX6_asks_147 ?_
      refine lv_goto (tgt := 166) hx hb dX6_asks_150 (by decide) ?_
      exact J_166 (X12 10 0) X12 _ _ ls hP hD hS (lv_sub hl [0] rfl) hf
  have L_2 : ∀ fu : Nat, ∀ (x1 : Int32) (XM : DM) (H : Heap) (locs : List Loc) (ls : Array Slot), va_P g.1 vwCl (pM g aM XM) H → va_D A (pM g aM XM) → va_S A s.heap H locs → lv_has ls 5 [(0, .ref (aM 0)), (1, .int x1)] → fX6_asks_L2 n j113 fu x1 XM = some XMz → W p l e (headSpec wsX6_asks rmX6_asks).room s m args below meth c H locs 0 0 Q0 (F0 m 2 ls []) := by
    intro fu
    induction fu with
    | zero => intros; rename_i hf; rw [fX6_asks_L2] at hf; cases hf
    | succ fu ih =>
      intro x1 XM H locs ls hP hD hS hl hf
      rw [fX6_asks_L2] at hf
      refine lv_iload_n hx hb dX6_asks_2 rfl (lv_at hl 1 rfl) ?_
      refine lv_iconst (v := 3) hx hb dX6_asks_3 (by decide) ?_
      refine lv_icmp_ge (tgt := 113) hx hb dX6_asks_4 (by decide) (fun c57 => ?_) (fun c57 => ?_)
      · have hf := ite_t hf c57
        exact J_113 XM _ _ ls hP hD hS (lv_sub hl [0] rfl) hf
      · have hf := ite_f hf c57
        refine lv_iconst (v := 0) hx hb dX6_asks_7 (by decide) ?_
        refine lv_istore_n (lv' := [(2, .int 0), (0, .ref (aM 0)), (1, .int x1)]) hx hb dX6_asks_8 rfl hl (by decide) rfl (fun ls hl => ?_)
        refine lv_iconst (v := 0) hx hb dX6_asks_9 (by decide) ?_
        refine lv_istore_n (lv' := [(3, .int 0), (2, .int 0), (0, .ref (aM 0)), (1, .int x1)]) hx hb dX6_asks_10 rfl hl (by decide) rfl (fun ls hl => ?_)
        obtain ⟨j57, ej57, hf⟩ := sl_el hf
        have J_57 : ∀ (x1 x2 : Int32) (XM : DM) (H : Heap) (locs : List Loc) (ls : Array Slot), va_P g.1 vwCl (pM g aM XM) H → va_D A (pM g aM XM) → va_S A s.heap H locs → lv_has ls 5 [(0, .ref (aM 0)), (1, .int x1), (2, .int x2)] → j57 x1 x2 XM = some XMz → W p l e (headSpec wsX6_asks rmX6_asks).room s m args below meth c H locs 0 0 Q0 (F0 m 57 ls []) := by
          intro x1 x2 XM H locs ls hP hD hS hl hf
          rw [ej57] at hf
          refine lv_aload_n hx hb dX6_asks_57 rfl (lv_at hl 0 rfl) ?_
          refine va_get (D := g.1) (ci := 6) (v := .ref (aM 1)) (C := RX6) (T := TX6) (N := 19) hx hb hts i_X6 hown hK hP 0 rfl rfl 0 (by decide) (hts (.fieldLink RX6 7 "WordFlasherModel" "d" "[I") (List.mem_of_getElem? (i := 1) rfl)) (fun _ h9 => h9) rfl dX6_asks_58 ?_
          refine lv_sipush (v := 330) hx hb dX6_asks_61 (by decide) ?_
          refine lv_iload_n hx hb dX6_asks_64 rfl (lv_at hl 1 rfl) ?_
          refine lv_iadd hx hb dX6_asks_65 ?_
          obtain ⟨h60, v58, e59, hf⟩ := rdA_el hf
          refine va_iald hx hb hK hP 1 0 rfl rfl h60 dX6_asks_66 ?_
          refine lv_as e59 ?_
          refine lv_iload_n hx hb dX6_asks_67 rfl (lv_at hl 2 rfl) ?_
          obtain ⟨j83, ej83, hf⟩ := sl_el hf
          have J_83 : ∀ (x1 k0 k1 : Int32) (XM : DM) (H : Heap) (locs : List Loc) (ls : Array Slot), va_P g.1 vwCl (pM g aM XM) H → va_D A (pM g aM XM) → va_S A s.heap H locs → lv_has ls 5 [(0, .ref (aM 0)), (1, .int x1)] → j83 x1 k0 k1 XM = some XMz → W p l e (headSpec wsX6_asks rmX6_asks).room s m args below meth c H locs 0 0 Q0 (F0 m 83 ls [.int k1, .int k0]) := by
            intro x1 k0 k1 XM H locs ls hP hD hS hl hf
            rw [ej83] at hf
            refine lv_isub hx hb dX6_asks_83 ?_
            obtain ⟨v61, e62, hf⟩ := sl_el hf
            refine lv_as e62 ?_
            refine lv_istore_n (lv' := [(3, .int v61), (0, .ref (aM 0)), (1, .int x1)]) hx hb dX6_asks_84 rfl hl (by decide) rfl (fun ls hl => ?_)
            refine lv_aload_n hx hb dX6_asks_85 rfl (lv_at hl 1 rfl) ?_
            refine va_get (D := g.1) (ci := 6) (v := .ref (aM 1)) (C := RX6) (T := TX6) (N := 19) hx hb hts i_X6 hown hK hP 0 rfl rfl 0 (by decide) (hts (.fieldLink RX6 7 "WordFlasherModel" "d" "[I") (List.mem_of_getElem? (i := 1) rfl)) (fun _ h9 => h9) rfl dX6_asks_86 ?_
            refine lv_sipush (v := 330) hx hb dX6_asks_89 (by decide) ?_
            refine lv_iload_n hx hb dX6_asks_92 rfl (lv_at hl 2 rfl) ?_
            refine lv_iadd hx hb dX6_asks_93 ?_
            refine lv_iload_n hx hb dX6_asks_94 rfl (lv_at hl 0 rfl) ?_
            refine lv_bipush (v := 50) hx hb dX6_asks_95 (by decide) ?_
            obtain ⟨j106, ej106, hf⟩ := sl_el hf
            have J_106 : ∀ (x1 k1 k2 : Int32) (XM : DM) (H : Heap) (locs : List Loc) (ls : Array Slot), va_P g.1 vwCl (pM g aM XM) H → va_D A (pM g aM XM) → va_S A s.heap H locs → lv_has ls 5 [(0, .ref (aM 0)), (1, .int x1)] → j106 x1 k1 k2 XM = some XMz → W p l e (headSpec wsX6_asks rmX6_asks).room s m args below meth c H locs 0 0 Q0 (F0 m 106 ls [.int k2, .int k1, .ref (aM 1)]) := by
              intro x1 k1 k2 XM H locs ls hP hD hS hl hf
              rw [ej106] at hf
              obtain ⟨h65, f63, e64, hf⟩ := wrA_el hf
              obtain ⟨X66, e67, hf⟩ := sl_el hf
              refine va_iast hx hb hK hP hD hS 1 0 rfl rfl h65 dX6_asks_106 (fun H locs hP hD hS => ?_)
              have hP : va_P g.1 vwCl (pM g aM X66) H := by subst e67; subst e64; exact hP
              have hD : va_D A (pM g aM X66) := by subst e67; subst e64; exact hD
              obtain ⟨v68, e69, hf⟩ := sl_el hf
              refine lv_iinc (v := v68) (lv' := [(1, .int v68), (0, .ref (aM 0))]) hx hb dX6_asks_107 hl (k := 1) rfl (by rw [e69]; rfl) (by decide) rfl (fun ls hl => ?_)
              refine lv_goto (tgt := 2) hx hb dX6_asks_110 (by decide) ?_
              exact ih v68 X66 _ _ ls hP hD hS (lv_sub hl [1, 0] rfl) hf
            refine lv_icmp_ge (tgt := 105) hx hb dX6_asks_97 (by decide) (fun c70 => ?_) (fun c70 => ?_)
            · have hf := ite_t hf c70
              refine lv_iload_n hx hb dX6_asks_105 rfl (lv_at hl 0 rfl) ?_
              exact J_106 x1 (330 + x1) v61 XM _ _ ls hP hD hS (lv_sub hl [1, 2] rfl) hf
            · have hf := ite_f hf c70
              refine lv_bipush (v := 50) hx hb dX6_asks_100 (by decide) ?_
              refine lv_goto (tgt := 106) hx hb dX6_asks_102 (by decide) ?_
              exact J_106 x1 (330 + x1) 50 XM _ _ ls hP hD hS (lv_sub hl [1, 2] rfl) hf
          refine lv_if_eq (tgt := 82) hx hb dX6_asks_68 (by decide) (fun c71 => ?_) (fun c71 => ?_)
          · have hf := ite_t hf c71
            refine lv_iconst (v := 0) hx hb dX6_asks_82 (by decide) ?_
            exact J_83 x1 v58 0 XM _ _ ls hP hD hS (lv_sub hl [0, 1] rfl) hf
          · have hf := ite_f hf c71
            refine lv_aload_n hx hb dX6_asks_71 rfl (lv_at hl 0 rfl) ?_
            refine va_get (D := g.1) (ci := 6) (v := .ref (aM 1)) (C := RX6) (T := TX6) (N := 19) hx hb hts i_X6 hown hK hP 0 rfl rfl 0 (by decide) (hts (.fieldLink RX6 7 "WordFlasherModel" "d" "[I") (List.mem_of_getElem? (i := 1) rfl)) (fun _ h9 => h9) rfl dX6_asks_72 ?_
            refine lv_sipush (v := 338) hx hb dX6_asks_75 (by decide) ?_
            obtain ⟨h74, v72, e73, hf⟩ := rdA_el hf
            refine va_iald hx hb hK hP 1 0 rfl rfl h74 dX6_asks_78 ?_
            refine lv_as e73 ?_
            refine lv_goto (tgt := 83) hx hb dX6_asks_79 (by decide) ?_
            exact J_83 x1 v58 v72 XM _ _ ls hP hD hS (lv_sub hl [0, 1] rfl) hf
        have L_11 : ∀ fu : Nat, ∀ (x1 x2 x3 : Int32) (XM : DM) (H : Heap) (locs : List Loc) (ls : Array Slot), va_P g.1 vwCl (pM g aM XM) H → va_D A (pM g aM XM) → va_S A s.heap H locs → lv_has ls 5 [(0, .ref (aM 0)), (1, .int x1), (2, .int x2), (3, .int x3)] → fX6_asks_L11 n j57 fu x1 x2 x3 XM = some XMz → W p l e (headSpec wsX6_asks rmX6_asks).room s m args below meth c H locs 0 0 Q0 (F0 m 11 ls []) := by
          intro fu
          induction fu with
          | zero => intros; rename_i hf; rw [fX6_asks_L11] at hf; cases hf
          | succ fu ih =>
            intro x1 x2 x3 XM H locs ls hP hD hS hl hf
            rw [fX6_asks_L11] at hf
            refine lv_iload_n hx hb dX6_asks_11 rfl (lv_at hl 3 rfl) ?_
            refine lv_aload_n hx hb dX6_asks_12 rfl (lv_at hl 0 rfl) ?_
            refine va_get (D := g.1) (ci := 6) (v := .ref (aM 1)) (C := RX6) (T := TX6) (N := 19) hx hb hts i_X6 hown hK hP 0 rfl rfl 0 (by decide) (hts (.fieldLink RX6 7 "WordFlasherModel" "d" "[I") (List.mem_of_getElem? (i := 1) rfl)) (fun _ h9 => h9) rfl dX6_asks_13 ?_
            refine lv_sipush (v := 340) hx hb dX6_asks_16 (by decide) ?_
            obtain ⟨h77, v75, e76, hf⟩ := rdA_el hf
            refine va_iald hx hb hK hP 1 0 rfl rfl h77 dX6_asks_19 ?_
            refine lv_as e76 ?_
            refine lv_icmp_ge (tgt := 57) hx hb dX6_asks_20 (by decide) (fun c78 => ?_) (fun c78 => ?_)
            · have hf := ite_t hf c78
              exact J_57 x1 x2 XM _ _ ls hP hD hS (lv_sub hl [0, 1, 2] rfl) hf
            · have hf := ite_f hf c78
              refine lv_iload_n hx hb dX6_asks_23 rfl (lv_at hl 2 rfl) ?_
              obtain ⟨j50, ej50, hf⟩ := sl_el hf
              have J_50 : ∀ (x1 x3 k0 : Int32) (XM : DM) (H : Heap) (locs : List Loc) (ls : Array Slot), va_P g.1 vwCl (pM g aM XM) H → va_D A (pM g aM XM) → va_S A s.heap H locs → lv_has ls 5 [(0, .ref (aM 0)), (1, .int x1), (3, .int x3)] → j50 x1 x3 k0 XM = some XMz → W p l e (headSpec wsX6_asks rmX6_asks).room s m args below meth c H locs 0 0 Q0 (F0 m 50 ls [.int k0]) := by
                intro x1 x3 k0 XM H locs ls hP hD hS hl hf
                rw [ej50] at hf
                refine lv_istore_n (lv' := [(2, .int k0), (0, .ref (aM 0)), (1, .int x1), (3, .int x3)]) hx hb dX6_asks_50 rfl hl (by decide) rfl (fun ls hl => ?_)
                obtain ⟨v79, e80, hf⟩ := sl_el hf
                refine lv_iinc (v := v79) (lv' := [(3, .int v79), (2, .int k0), (0, .ref (aM 0)), (1, .int x1)]) hx hb dX6_asks_51 hl (k := 3) rfl (by rw [e80]; rfl) (by decide) rfl (fun ls hl => ?_)
                refine lv_goto (tgt := 11) hx hb dX6_asks_54 (by decide) ?_
                exact ih x1 k0 v79 XM _ _ ls hP hD hS (lv_sub hl [2, 3, 1, 0] rfl) hf
              obtain ⟨j45, ej45, hf⟩ := sl_el hf
              have J_45 : ∀ (x1 x3 : Int32) (XM : DM) (H : Heap) (locs : List Loc) (ls : Array Slot), va_P g.1 vwCl (pM g aM XM) H → va_D A (pM g aM XM) → va_S A s.heap H locs → lv_has ls 5 [(0, .ref (aM 0)), (1, .int x1), (3, .int x3)] → j45 x1 x3 XM = some XMz → W p l e (headSpec wsX6_asks rmX6_asks).room s m args below meth c H locs 0 0 Q0 (F0 m 45 ls []) := by
                intro x1 x3 XM H locs ls hP hD hS hl hf
                rw [ej45] at hf
                refine lv_iconst (v := 1) hx hb dX6_asks_45 (by decide) ?_
                refine lv_goto (tgt := 50) hx hb dX6_asks_46 (by decide) ?_
                exact J_50 x1 x3 1 XM _ _ ls hP hD hS (lv_sub hl [0, 1, 2] rfl) hf
              refine lv_if_ne (tgt := 45) hx hb dX6_asks_24 (by decide) (fun c81 => ?_) (fun c81 => ?_)
              · have hf := ite_f hf c81
                exact J_45 x1 x3 XM _ _ ls hP hD hS (lv_sub hl [0, 1, 3] rfl) hf
              · have hf := ite_t hf c81
                refine lv_aload_n hx hb dX6_asks_27 rfl (lv_at hl 0 rfl) ?_
                refine lv_aload_n hx hb dX6_asks_28 rfl (lv_at hl 0 rfl) ?_
                refine va_get (D := g.1) (ci := 6) (v := .ref (aM 1)) (C := RX6) (T := TX6) (N := 19) hx hb hts i_X6 hown hK hP 0 rfl rfl 0 (by decide) (hts (.fieldLink RX6 7 "WordFlasherModel" "d" "[I") (List.mem_of_getElem? (i := 1) rfl)) (fun _ h9 => h9) rfl dX6_asks_29 ?_
                refine lv_sipush (v := 341) hx hb dX6_asks_32 (by decide) ?_
                refine lv_iload_n hx hb dX6_asks_35 rfl (lv_at hl 3 rfl) ?_
                refine lv_iadd hx hb dX6_asks_36 ?_
                obtain ⟨h84, v82, e83, hf⟩ := rdA_el hf
                refine va_iald hx hb hK hP 1 0 rfl rfl h84 dX6_asks_37 ?_
                refine lv_as e83 ?_
                obtain ⟨r85, h86, hf⟩ := bnd_el hf
                refine rdV (As := [.int v82]) (rest := []) ⟨hx, hb, hml, hown, hts⟩ (c_X6_classOf l g aM _ _ _ h86) (cwV 1 hts gX6_asks_X6_classOf rfl rfl rfl (by decide +kernel) ⟨Nat.le_of_ble_eq_true rfl, Nat.le_of_ble_eq_true rfl⟩) hKW hP [0, 1, 2, 3, 4, 5, 6, 7, 8, 9, 10, 11] rfl (va_recv hK hP (ci := 6) (q0 := 0) rfl rfl) rfl hl.1 rfl (lv_room (Nat.le_of_ble_eq_true rfl)) dX6_asks_38 ⟨Nat.zero_le _, Nat.zero_le _⟩ (fun r87 q88 => ?_)
                obtain ⟨q88, nb89⟩ := q88
                refine lv_as q88.symm ?_
                refine lv_iload_n hx hb dX6_asks_41 rfl (lv_at hl 1 rfl) ?_
                refine lv_icmp_ne (tgt := 49) hx hb dX6_asks_42 (by decide) (fun c90 => ?_) (fun c90 => ?_)
                · have hf := ite_f hf c90
                  refine lv_iconst (v := 0) hx hb dX6_asks_49 (by decide) ?_
                  exact J_50 x1 x3 0 XM _ _ ls hP hD hS (lv_sub hl [0, 1, 3] rfl) hf
                · have hf := ite_t hf c90
                  exact J_45 x1 x3 XM _ _ ls hP hD hS (lv_sub hl [0, 1, 3] rfl) hf
        exact L_11 n x1 0 0 XM _ _ ls hP hD hS (lv_sub hl [2, 3, 1, 0] rfl) hf
  exact L_2 n 0 XM _ _ ls hP hD hS (lv_sub hl [1, 0] rfl) hf
abbrev rmX6_back : Room := { frames := 5, cells := 0, slots := 0, locals := 112 }
set_option maxHeartbeats 8000000 in
set_option maxRecDepth 100000 in
theorem c_X6_back (l : Launch) (g : GG) (aM : Nat → Nat) (sz : Nat) (n : Nat) (XM : DM) (r : Int32) (XMz : DM) (hf : fX6_back n XM = some (r, XMz)) : Met l yX6_back wsX6_back rmX6_back (va_Pc [.ref (aM 0)] (fun U => U.heap.size = sz ∧ va_P g.1 vwCl (pM g aM XM) U.heap ∧ KW g U ∧ va_D (fun _ => True) (pM g aM XM))) (va_Qi (fun r' (_ : Unit) => r' = r ∧ True) (fun (_ : Unit) t => va_P g.1 vwCl (pM g aM XMz) t.heap) (va_A (pM g aM XM) sz)) 0 0 (va_A (pM g aM XM) sz) := by
  refine Met.ofW (cc := cX6_back) (maxL := 1) (ret := (some .int)) (by decide) rfl ?_
  intro p e s m args below meth c s₁ B hml hv
  obtain ⟨hargs, hsz, hP, hKW, hD0⟩ := hv
  have hK := hKW.1
  have hx := B.exec
  have hb := B.bytes
  have hr := B.returns
  have hts := atoms_spec (ws := wsX6_back) B.pre
  have hown : s.vm.findClass RX6 = some m.cls := findClass_of_methodNamed B.named
  have hlocks := B.notSynchronized
  subst hsz
  have hD := hD0.self (sz := s.heap.size)
  generalize hAe : va_A (pM g aM XM) s.heap.size = A at hD ⊢
  have hA : ∀ q : Nat, s.heap.size ≤ q → A q := fun q h => by rw [← hAe]; exact Or.inr h
  have hS : va_S A s.heap s.heap [] := va_S.rf
  have i_X6 : ∀ w ∈ wsX60, w ∈ wsX6_back := fun w h => List.mem_cons_of_mem _ (List.mem_append_right _ h)
  have hent : entryFrame m args 1 = F0 m 0 ((lg_sl ([.ref (aM 0)]) ++ List.replicate (1 - (lg_sl ([.ref (aM 0)])).length) Slot.unset).toArray) [] := by rw [hargs]; exact lg_entry_eq _ _ _
  rw [hent]
  have hl := lv_entry ([.ref (aM 0)]) (n := 1) (Nat.le_of_ble_eq_true rfl)
  generalize (lg_sl ([.ref (aM 0)]) ++ List.replicate (1 - (lg_sl ([.ref (aM 0)])).length) Slot.unset).toArray = ls at hl ⊢
  have hl : lv_has ls 1 [(0, .ref (aM 0))] := hl
  generalize hQ0 : MQ below _ _ _ _ _ _ = Q0
  unfold fX6_back at hf
  refine lv_aload_n hx hb dX6_back_0 rfl (lv_at hl 0 rfl) ?_
  obtain ⟨r1, h2, hf⟩ := bnd_el hf
  refine rdV (As := []) (rest := []) ⟨hx, hb, hml, hown, hts⟩ (c_X6_firstShown l g aM _ _ _ h2) (cwV 0 hts gX6_back_X6_firstShown rfl rfl rfl (by decide +kernel) ⟨Nat.le_of_ble_eq_true rfl, Nat.le_of_ble_eq_true rfl⟩) hKW hP [0, 1, 2, 3, 4, 5, 6, 7, 8, 9, 10, 11] rfl (va_recv hK hP (ci := 6) (q0 := 0) rfl rfl) rfl hl.1 rfl (lv_room (Nat.le_of_ble_eq_true rfl)) dX6_back_1 ⟨Nat.zero_le _, Nat.zero_le _⟩ (fun r3 q4 => ?_)
  obtain ⟨q4, nb5⟩ := q4
  refine lv_as q4.symm ?_
  refine lv_iconst (v := (-1)) hx hb dX6_back_4 (by decide) ?_
  refine lv_icmp_ne (tgt := 11) hx hb dX6_back_5 (by decide) (fun c6 => ?_) (fun c6 => ?_)
  · have hf := ite_f hf c6
    refine lv_aload_n hx hb dX6_back_11 rfl (lv_at hl 0 rfl) ?_
    obtain ⟨X7, h8, hf⟩ := bnd_el hf
    refine wr_v (rest := []) (wc := (pM g aM XM)) (wc' := (pM g aM X7)) (ws2 := (pM g aM X7)) hP hD hS hA [0, 1, 2, 3, 4, 5, 6, 7, 8, 9, 10, 11] rfl rfl (by rfl) (rnV (As := []) ⟨hx, hb, hml, hown, hts⟩ (c_X6_records l g aM _ _ _ _ h8) (cwV 0 hts gX6_back_X6_records rfl rfl rfl (by decide +kernel) ⟨Nat.le_of_ble_eq_true rfl, Nat.le_of_ble_eq_true rfl⟩) hKW hP hD [0, 1, 2, 3, 4, 5, 6, 7, 8, 9, 10, 11] (by decide) rfl (va_recv hK hP (ci := 6) (q0 := 0) rfl rfl) rfl hl.1 rfl (lv_room (Nat.le_of_ble_eq_true rfl)) dX6_back_12 ⟨Nat.zero_le _, Nat.zero_le _⟩) (fun H locs hP hD hS => ?_)
    refine lv_aload_n hx hb dX6_back_15 rfl (lv_at hl 0 rfl) ?_
    obtain ⟨X9, h10, hf⟩ := bnd_el hf
    refine wr_v (rest := []) (wc := (pM g aM X7)) (wc' := (pM g aM X9)) (ws2 := (pM g aM X9)) hP hD hS hA [0, 1, 2, 3, 4, 5, 6, 7, 8, 9, 10, 11] rfl rfl (by rfl) (rnV (As := []) ⟨hx, hb, hml, hown, hts⟩ (c_X6_asks l g aM _ _ _ _ h10) (cwV 0 hts gX6_back_X6_asks rfl rfl rfl (by decide +kernel) ⟨Nat.le_of_ble_eq_true rfl, Nat.le_of_ble_eq_true rfl⟩) hKW hP hD [0, 1, 2, 3, 4, 5, 6, 7, 8, 9, 10, 11] (by decide) rfl (va_recv hK hP (ci := 6) (q0 := 0) rfl rfl) rfl hl.1 rfl (lv_room (Nat.le_of_ble_eq_true rfl)) dX6_back_16 ⟨Nat.zero_le _, Nat.zero_le _⟩) (fun H locs hP hD hS => ?_)
    refine lv_aload_n hx hb dX6_back_19 rfl (lv_at hl 0 rfl) ?_
    refine va_get (D := g.1) (ci := 6) (v := .ref (aM 1)) (C := RX6) (T := TX6) (N := 19) hx hb hts i_X6 hown hK hP 0 rfl rfl 0 (by decide) (hts (.fieldLink RX6 7 "WordFlasherModel" "d" "[I") (List.mem_of_getElem? (i := 1) rfl)) (fun _ h9 => h9) rfl dX6_back_20 ?_
    refine lv_sipush (v := 301) hx hb dX6_back_23 (by decide) ?_
    obtain ⟨h13, v11, e12, hf⟩ := rdA_el hf
    refine va_iald hx hb hK hP 1 0 rfl rfl h13 dX6_back_26 ?_
    refine lv_as e12 ?_
    have er0 := Option.some.inj hf
    obtain ⟨er0, er1⟩ := Prod.mk.inj er0
    rw [← hQ0]; exact W.iret (v := v11) hx hb hr (fun t ht hW => ⟨⟨v11, (), rfl, ⟨er0, trivial⟩, by dsimp only; rw [ht, ← er1]; exact hP⟩, hS.F ht⟩) hS.2.2 dX6_back_27
  · have hf := ite_t hf c6
    refine lv_bipush (v := (-2)) hx hb dX6_back_8 (by decide) ?_
    have er0 := Option.some.inj hf
    obtain ⟨er0, er1⟩ := Prod.mk.inj er0
    rw [← hQ0]; exact W.iret (v := (-2)) hx hb hr (fun t ht hW => ⟨⟨(-2), (), rfl, ⟨er0, trivial⟩, by dsimp only; rw [ht, ← er1]; exact hP⟩, hS.F ht⟩) hS.2.2 dX6_back_10
abbrev rmX6_canJump : Room := { frames := 2, cells := 0, slots := 0, locals := 43 }
set_option maxHeartbeats 8000000 in
set_option maxRecDepth 100000 in
theorem c_X6_canJump (l : Launch) (g : GG) (aM : Nat → Nat) (n : Nat) (XM : DM) (p1 : Int32) (r : Int32) (hf : fX6_canJump n XM p1 = some r) : Met l yX6_canJump wsX6_canJump rmX6_canJump (va_Pc [.ref (aM 0), .int p1] (fun U => va_P g.1 vwCl (pM g aM XM) U.heap ∧ KW g U)) (vp_Si (fun r' => r' = r ∧ narrow .boolean (.int r') = .int r')) 0 0 (fun _ => False) := by
  refine Met.ofW (cc := cX6_canJump) (maxL := 2) (ret := (some .boolean)) (by decide) rfl ?_
  intro p e s m args below meth c s₁ B hml hv
  obtain ⟨hargs, hP, hKW⟩ := hv
  have hK := hKW.1
  have hx := B.exec
  have hb := B.bytes
  have hr := B.returns
  have hts := atoms_spec (ws := wsX6_canJump) B.pre
  have hown : s.vm.findClass RX6 = some m.cls := findClass_of_methodNamed B.named
  have hlocks := B.notSynchronized
  have i_X6 : ∀ w ∈ wsX60, w ∈ wsX6_canJump := fun w h => List.mem_cons_of_mem _ (List.mem_append_right _ h)
  have hent : entryFrame m args 2 = F0 m 0 ((lg_sl ([.ref (aM 0), .int p1]) ++ List.replicate (2 - (lg_sl ([.ref (aM 0), .int p1])).length) Slot.unset).toArray) [] := by rw [hargs]; exact lg_entry_eq _ _ _
  rw [hent]
  have hl := lv_entry ([.ref (aM 0), .int p1]) (n := 2) (Nat.le_of_ble_eq_true rfl)
  generalize (lg_sl ([.ref (aM 0), .int p1]) ++ List.replicate (2 - (lg_sl ([.ref (aM 0), .int p1])).length) Slot.unset).toArray = ls at hl ⊢
  have hl : lv_has ls 2 [(0, .ref (aM 0)), (1, .int p1)] := hl
  generalize hQ0 : MQ below _ _ _ _ _ _ = Q0
  unfold fX6_canJump at hf
  refine lv_aload_n hx hb dX6_canJump_0 rfl (lv_at hl 0 rfl) ?_
  refine lv_iload_n hx hb dX6_canJump_1 rfl (lv_at hl 1 rfl) ?_
  obtain ⟨r1, h2, hf⟩ := bnd_el hf
  refine rdV (As := [.int p1]) (rest := []) ⟨hx, hb, hml, hown, hts⟩ (c_X6_isSentence l g aM _ _ _ h2) (cwV 1 hts gX6_canJump_X6_isSentence rfl rfl rfl (by decide +kernel) ⟨Nat.le_of_ble_eq_true rfl, Nat.le_of_ble_eq_true rfl⟩) hKW hP [0, 1, 2, 3, 4, 5, 6, 7, 8, 9, 10, 11] rfl (va_recv hK hP (ci := 6) (q0 := 0) rfl rfl) rfl hl.1 rfl (lv_room (Nat.le_of_ble_eq_true rfl)) dX6_canJump_2 ⟨Nat.zero_le _, Nat.zero_le _⟩ (fun r3 q4 => ?_)
  obtain ⟨q4, nb5⟩ := q4
  refine lv_as q4.symm ?_
  rw [q4] at nb5
  refine lv_if_eq (tgt := 33) hx hb dX6_canJump_5 (by decide) (fun c6 => ?_) (fun c6 => ?_)
  · have hf := ite_t hf c6
    refine lv_iconst (v := 0) hx hb dX6_canJump_33 (by decide) ?_
    have er0 := Option.some.inj hf
    rw [← hQ0]; exact W.zret (v := 0) hx hb hr rfl (fun t ht hW => ⟨0, rfl, ⟨er0, rfl⟩, ht⟩) (fun q h => by cases h) dX6_canJump_34
  · have hf := ite_f hf c6
    refine lv_aload_n hx hb dX6_canJump_8 rfl (lv_at hl 0 rfl) ?_
    refine lv_iload_n hx hb dX6_canJump_9 rfl (lv_at hl 1 rfl) ?_
    obtain ⟨r7, h8, hf⟩ := bnd_el hf
    refine rdV (As := [.int p1]) (rest := []) ⟨hx, hb, hml, hown, hts⟩ (c_X6_firstOf l g aM _ _ _ _ h8) (cwV 1 hts gX6_canJump_X6_firstOf rfl rfl rfl (by decide +kernel) ⟨Nat.le_of_ble_eq_true rfl, Nat.le_of_ble_eq_true rfl⟩) hKW hP [0, 1, 2, 3, 4, 5, 6, 7, 8, 9, 10, 11] rfl (va_recv hK hP (ci := 6) (q0 := 0) rfl rfl) rfl hl.1 rfl (lv_room (Nat.le_of_ble_eq_true rfl)) dX6_canJump_10 ⟨Nat.zero_le _, Nat.zero_le _⟩ (fun r9 q10 => ?_)
    obtain ⟨q10, nb11⟩ := q10
    refine lv_as q10.symm ?_
    refine lv_iconst (v := (-1)) hx hb dX6_canJump_13 (by decide) ?_
    refine lv_icmp_eq (tgt := 33) hx hb dX6_canJump_14 (by decide) (fun c12 => ?_) (fun c12 => ?_)
    · have hf := ite_t hf c12
      refine lv_iconst (v := 0) hx hb dX6_canJump_33 (by decide) ?_
      have er0 := Option.some.inj hf
      rw [← hQ0]; exact W.zret (v := 0) hx hb hr rfl (fun t ht hW => ⟨0, rfl, ⟨er0, rfl⟩, ht⟩) (fun q h => by cases h) dX6_canJump_34
    · have hf := ite_f hf c12
      refine lv_aload_n hx hb dX6_canJump_17 rfl (lv_at hl 0 rfl) ?_
      refine va_get (D := g.1) (ci := 6) (v := .ref (aM 1)) (C := RX6) (T := TX6) (N := 19) hx hb hts i_X6 hown hK hP 0 rfl rfl 0 (by decide) (hts (.fieldLink RX6 7 "WordFlasherModel" "d" "[I") (List.mem_of_getElem? (i := 1) rfl)) (fun _ h9 => h9) rfl dX6_canJump_18 ?_
      refine lv_sipush (v := 301) hx hb dX6_canJump_21 (by decide) ?_
      obtain ⟨h15, v13, e14, hf⟩ := rdA_el hf
      refine va_iald hx hb hK hP 1 0 rfl rfl h15 dX6_canJump_24 ?_
      refine lv_as e14 ?_
      refine lv_iconst (v := (-1)) hx hb dX6_canJump_25 (by decide) ?_
      refine lv_icmp_eq (tgt := 33) hx hb dX6_canJump_26 (by decide) (fun c16 => ?_) (fun c16 => ?_)
      · have hf := ite_t hf c16
        refine lv_iconst (v := 0) hx hb dX6_canJump_33 (by decide) ?_
        have er0 := Option.some.inj hf
        rw [← hQ0]; exact W.zret (v := 0) hx hb hr rfl (fun t ht hW => ⟨0, rfl, ⟨er0, rfl⟩, ht⟩) (fun q h => by cases h) dX6_canJump_34
      · have hf := ite_f hf c16
        refine lv_iconst (v := 1) hx hb dX6_canJump_29 (by decide) ?_
        refine lv_goto (tgt := 34) hx hb dX6_canJump_30 (by decide) ?_
        have er0 := Option.some.inj hf
        rw [← hQ0]; exact W.zret (v := 1) hx hb hr rfl (fun t ht hW => ⟨1, rfl, ⟨er0, rfl⟩, ht⟩) (fun q h => by cases h) dX6_canJump_34
abbrev rmX6_jumps : Room := { frames := 4, cells := 0, slots := 0, locals := 88 }
set_option maxHeartbeats 8000000 in
set_option maxRecDepth 100000 in
theorem c_X6_jumps (l : Launch) (g : GG) (aM : Nat → Nat) (sz : Nat) (n : Nat) (XM : DM) (p1 : Int32) (XMz : DM) (hf : fX6_jumps n XM p1 = some XMz) : Met l yX6_jumps wsX6_jumps rmX6_jumps (va_Pc [.ref (aM 0), .int p1] (fun U => U.heap.size = sz ∧ va_P g.1 vwCl (pM g aM XM) U.heap ∧ KW g U ∧ va_D (fun _ => True) (pM g aM XM))) (va_Qv (fun (_ : Unit) => True) (fun (_ : Unit) t => va_P g.1 vwCl (pM g aM XMz) t.heap) (va_A (pM g aM XM) sz)) 0 0 (va_A (pM g aM XM) sz) := by
  refine Met.ofW (cc := cX6_jumps) (maxL := 3) (ret := none) (by decide) rfl ?_
  intro p e s m args below meth c s₁ B hml hv
  obtain ⟨hargs, hsz, hP, hKW, hD0⟩ := hv
  have hK := hKW.1
  have hx := B.exec
  have hb := B.bytes
  have hr := B.returns
  have hts := atoms_spec (ws := wsX6_jumps) B.pre
  have hown : s.vm.findClass RX6 = some m.cls := findClass_of_methodNamed B.named
  have hlocks := B.notSynchronized
  subst hsz
  have hD := hD0.self (sz := s.heap.size)
  generalize hAe : va_A (pM g aM XM) s.heap.size = A at hD ⊢
  have hA : ∀ q : Nat, s.heap.size ≤ q → A q := fun q h => by rw [← hAe]; exact Or.inr h
  have hS : va_S A s.heap s.heap [] := va_S.rf
  have i_X6 : ∀ w ∈ wsX60, w ∈ wsX6_jumps := fun w h => List.mem_cons_of_mem _ (List.mem_append_right _ h)
  have hent : entryFrame m args 3 = F0 m 0 ((lg_sl ([.ref (aM 0), .int p1]) ++ List.replicate (3 - (lg_sl ([.ref (aM 0), .int p1])).length) Slot.unset).toArray) [] := by rw [hargs]; exact lg_entry_eq _ _ _
  rw [hent]
  have hl := lv_entry ([.ref (aM 0), .int p1]) (n := 3) (Nat.le_of_ble_eq_true rfl)
  generalize (lg_sl ([.ref (aM 0), .int p1]) ++ List.replicate (3 - (lg_sl ([.ref (aM 0), .int p1])).length) Slot.unset).toArray = ls at hl ⊢
  have hl : lv_has ls 3 [(0, .ref (aM 0)), (1, .int p1)] := hl
  generalize hQ0 : MQ below _ _ _ _ _ _ = Q0
  unfold fX6_jumps at hf
  refine lv_aload_n hx hb dX6_jumps_0 rfl (lv_at hl 0 rfl) ?_
  refine va_get (D := g.1) (ci := 6) (v := .ref (aM 1)) (C := RX6) (T := TX6) (N := 19) hx hb hts i_X6 hown hK hP 0 rfl rfl 0 (by decide) (hts (.fieldLink RX6 7 "WordFlasherModel" "d" "[I") (List.mem_of_getElem? (i := 1) rfl)) (fun _ h9 => h9) rfl dX6_jumps_1 ?_
  refine lv_sipush (v := 303) hx hb dX6_jumps_4 (by decide) ?_
  obtain ⟨h3, v1, e2, hf⟩ := rdA_el hf
  refine va_iald hx hb hK hP 1 0 rfl rfl h3 dX6_jumps_7 ?_
  refine lv_as e2 ?_
  refine lv_iconst (v := 5) hx hb dX6_jumps_8 (by decide) ?_
  obtain ⟨j59, ej59, hf⟩ := sl_el hf
  have J_59 : ∀ (x1 : Int32) (XM : DM) (H : Heap) (locs : List Loc) (ls : Array Slot), va_P g.1 vwCl (pM g aM XM) H → va_D A (pM g aM XM) → va_S A s.heap H locs → lv_has ls 3 [(0, .ref (aM 0)), (1, .int x1)] → j59 x1 XM = some XMz → W p l e (headSpec wsX6_jumps rmX6_jumps).room s m args below meth c H locs 0 0 Q0 (F0 m 59 ls []) := by
    intro x1 XM H locs ls hP hD hS hl hf
    rw [ej59] at hf
    refine lv_aload_n hx hb dX6_jumps_59 rfl (lv_at hl 0 rfl) ?_
    refine va_get (D := g.1) (ci := 6) (v := .ref (aM 1)) (C := RX6) (T := TX6) (N := 19) hx hb hts i_X6 hown hK hP 0 rfl rfl 0 (by decide) (hts (.fieldLink RX6 7 "WordFlasherModel" "d" "[I") (List.mem_of_getElem? (i := 1) rfl)) (fun _ h9 => h9) rfl dX6_jumps_60 ?_
    refine lv_sipush (v := 304) hx hb dX6_jumps_63 (by decide) ?_
    refine lv_aload_n hx hb dX6_jumps_66 rfl (lv_at hl 0 rfl) ?_
    refine va_get (D := g.1) (ci := 6) (v := .ref (aM 1)) (C := RX6) (T := TX6) (N := 19) hx hb hts i_X6 hown hK hP 0 rfl rfl 0 (by decide) (hts (.fieldLink RX6 7 "WordFlasherModel" "d" "[I") (List.mem_of_getElem? (i := 1) rfl)) (fun _ h9 => h9) rfl dX6_jumps_67 ?_
    refine lv_sipush (v := 303) hx hb dX6_jumps_70 (by decide) ?_
    obtain ⟨h6, v4, e5, hf⟩ := rdA_el hf
    refine va_iald hx hb hK hP 1 0 rfl rfl h6 dX6_jumps_73 ?_
    refine lv_as e5 ?_
    refine lv_iadd hx hb dX6_jumps_74 ?_
    refine lv_aload_n hx hb dX6_jumps_75 rfl (lv_at hl 0 rfl) ?_
    refine va_get (D := g.1) (ci := 6) (v := .ref (aM 1)) (C := RX6) (T := TX6) (N := 19) hx hb hts i_X6 hown hK hP 0 rfl rfl 0 (by decide) (hts (.fieldLink RX6 7 "WordFlasherModel" "d" "[I") (List.mem_of_getElem? (i := 1) rfl)) (fun _ h9 => h9) rfl dX6_jumps_76 ?_
    refine lv_sipush (v := 301) hx hb dX6_jumps_79 (by decide) ?_
    obtain ⟨h9, v7, e8, hf⟩ := rdA_el hf
    refine va_iald hx hb hK hP 1 0 rfl rfl h9 dX6_jumps_82 ?_
    refine lv_as e8 ?_
    obtain ⟨h12, f10, e11, hf⟩ := wrA_el hf
    obtain ⟨X13, e14, hf⟩ := sl_el hf
    refine va_iast hx hb hK hP hD hS 1 0 rfl rfl h12 dX6_jumps_83 (fun H locs hP hD hS => ?_)
    have hP : va_P g.1 vwCl (pM g aM X13) H := by subst e14; subst e11; exact hP
    have hD : va_D A (pM g aM X13) := by subst e14; subst e11; exact hD
    refine lv_aload_n hx hb dX6_jumps_84 rfl (lv_at hl 0 rfl) ?_
    refine va_get (D := g.1) (ci := 6) (v := .ref (aM 1)) (C := RX6) (T := TX6) (N := 19) hx hb hts i_X6 hown hK hP 0 rfl rfl 0 (by decide) (hts (.fieldLink RX6 7 "WordFlasherModel" "d" "[I") (List.mem_of_getElem? (i := 1) rfl)) (fun _ h9 => h9) rfl dX6_jumps_85 ?_
    refine lv_sipush (v := 303) hx hb dX6_jumps_88 (by decide) ?_
    refine lv_dup2_11 hx hb dX6_jumps_91 rfl rfl ?_
    obtain ⟨h17, v15, e16, hf⟩ := rdA_el hf
    refine va_iald hx hb hK hP 1 0 rfl rfl h17 dX6_jumps_92 ?_
    refine lv_as e16 ?_
    refine lv_iconst (v := 1) hx hb dX6_jumps_93 (by decide) ?_
    refine lv_iadd hx hb dX6_jumps_94 ?_
    obtain ⟨h20, f18, e19, hf⟩ := wrA_el hf
    obtain ⟨X21, e22, hf⟩ := sl_el hf
    refine va_iast hx hb hK hP hD hS 1 0 rfl rfl h20 dX6_jumps_95 (fun H locs hP hD hS => ?_)
    have hP : va_P g.1 vwCl (pM g aM X21) H := by subst e22; subst e19; exact hP
    have hD : va_D A (pM g aM X21) := by subst e22; subst e19; exact hD
    refine lv_aload_n hx hb dX6_jumps_96 rfl (lv_at hl 0 rfl) ?_
    refine va_get (D := g.1) (ci := 6) (v := .ref (aM 1)) (C := RX6) (T := TX6) (N := 19) hx hb hts i_X6 hown hK hP 0 rfl rfl 0 (by decide) (hts (.fieldLink RX6 7 "WordFlasherModel" "d" "[I") (List.mem_of_getElem? (i := 1) rfl)) (fun _ h9 => h9) rfl dX6_jumps_97 ?_
    refine lv_sipush (v := 344) hx hb dX6_jumps_100 (by decide) ?_
    refine lv_iconst (v := 0) hx hb dX6_jumps_103 (by decide) ?_
    obtain ⟨h25, f23, e24, hf⟩ := wrA_el hf
    obtain ⟨X26, e27, hf⟩ := sl_el hf
    refine va_iast hx hb hK hP hD hS 1 0 rfl rfl h25 dX6_jumps_104 (fun H locs hP hD hS => ?_)
    have hP : va_P g.1 vwCl (pM g aM X26) H := by subst e27; subst e24; exact hP
    have hD : va_D A (pM g aM X26) := by subst e27; subst e24; exact hD
    refine lv_aload_n hx hb dX6_jumps_105 rfl (lv_at hl 0 rfl) ?_
    refine lv_aload_n hx hb dX6_jumps_106 rfl (lv_at hl 0 rfl) ?_
    refine lv_iload_n hx hb dX6_jumps_107 rfl (lv_at hl 1 rfl) ?_
    obtain ⟨r28, h29, hf⟩ := bnd_el hf
    refine rdV (As := [.int x1]) (rest := [.ref (aM 0)]) ⟨hx, hb, hml, hown, hts⟩ (c_X6_firstOf l g aM _ _ _ _ h29) (cwV 1 hts gX6_jumps_X6_firstOf rfl rfl rfl (by decide +kernel) ⟨Nat.le_of_ble_eq_true rfl, Nat.le_of_ble_eq_true rfl⟩) hKW hP [0, 1, 2, 3, 4, 5, 6, 7, 8, 9, 10, 11] rfl (va_recv hK hP (ci := 6) (q0 := 0) rfl rfl) rfl hl.1 rfl (lv_room (Nat.le_of_ble_eq_true rfl)) dX6_jumps_108 ⟨Nat.zero_le _, Nat.zero_le _⟩ (fun r30 q31 => ?_)
    obtain ⟨q31, nb32⟩ := q31
    refine lv_as q31.symm ?_
    obtain ⟨X33, h34, hf⟩ := bnd_el hf
    refine wr_v (rest := []) (wc := (pM g aM X26)) (wc' := (pM g aM X33)) (ws2 := (pM g aM X33)) hP hD hS hA [0, 1, 2, 3, 4, 5, 6, 7, 8, 9, 10, 11] rfl rfl (by rfl) (rnV (As := [.int r28]) ⟨hx, hb, hml, hown, hts⟩ (c_X6_becomes l g aM _ _ _ _ h34) (cwV 1 hts gX6_jumps_X6_becomes rfl rfl rfl (by decide +kernel) ⟨Nat.le_of_ble_eq_true rfl, Nat.le_of_ble_eq_true rfl⟩) hKW hP hD [0, 1, 2, 3, 4, 5, 6, 7, 8, 9, 10, 11] (by decide) rfl (va_recv hK hP (ci := 6) (q0 := 0) rfl rfl) rfl hl.1 rfl (lv_room (Nat.le_of_ble_eq_true rfl)) dX6_jumps_111 ⟨Nat.zero_le _, Nat.zero_le _⟩) (fun H locs hP hD hS => ?_)
    have er0 := Option.some.inj hf
    rw [← hQ0]; exact W.vret hx hb hr (fun t ht hW => ⟨⟨(), rfl, trivial, by dsimp only; rw [ht, ← er0]; exact hP⟩, hS.F ht⟩) hS.2.2 dX6_jumps_114
  refine lv_icmp_ne (tgt := 59) hx hb dX6_jumps_9 (by decide) (fun c35 => ?_) (fun c35 => ?_)
  · have hf := ite_f hf c35
    exact J_59 p1 XM _ _ ls hP hD hS (lv_sub hl [0, 1] rfl) hf
  · have hf := ite_t hf c35
    refine lv_iconst (v := 0) hx hb dX6_jumps_12 (by decide) ?_
    refine lv_istore_n (lv' := [(2, .int 0), (0, .ref (aM 0)), (1, .int p1)]) hx hb dX6_jumps_13 rfl hl (by decide) rfl (fun ls hl => ?_)
    obtain ⟨j47, ej47, hf⟩ := sl_el hf
    have J_47 : ∀ (x1 : Int32) (XM : DM) (H : Heap) (locs : List Loc) (ls : Array Slot), va_P g.1 vwCl (pM g aM XM) H → va_D A (pM g aM XM) → va_S A s.heap H locs → lv_has ls 3 [(0, .ref (aM 0)), (1, .int x1)] → j47 x1 XM = some XMz → W p l e (headSpec wsX6_jumps rmX6_jumps).room s m args below meth c H locs 0 0 Q0 (F0 m 47 ls []) := by
      intro x1 XM H locs ls hP hD hS hl hf
      rw [ej47] at hf
      refine lv_aload_n hx hb dX6_jumps_47 rfl (lv_at hl 0 rfl) ?_
      refine va_get (D := g.1) (ci := 6) (v := .ref (aM 1)) (C := RX6) (T := TX6) (N := 19) hx hb hts i_X6 hown hK hP 0 rfl rfl 0 (by decide) (hts (.fieldLink RX6 7 "WordFlasherModel" "d" "[I") (List.mem_of_getElem? (i := 1) rfl)) (fun _ h9 => h9) rfl dX6_jumps_48 ?_
      refine lv_sipush (v := 303) hx hb dX6_jumps_51 (by decide) ?_
      refine lv_dup2_11 hx hb dX6_jumps_54 rfl rfl ?_
      obtain ⟨h38, v36, e37, hf⟩ := rdA_el hf
      refine va_iald hx hb hK hP 1 0 rfl rfl h38 dX6_jumps_55 ?_
      refine lv_as e37 ?_
      refine lv_iconst (v := 1) hx hb dX6_jumps_56 (by decide) ?_
      refine lv_isub hx hb dX6_jumps_57 ?_
      obtain ⟨h41, f39, e40, hf⟩ := wrA_el hf
      obtain ⟨X42, e43, hf⟩ := sl_el hf
      refine va_iast hx hb hK hP hD hS 1 0 rfl rfl h41 dX6_jumps_58 (fun H locs hP hD hS => ?_)
      have hP : va_P g.1 vwCl (pM g aM X42) H := by subst e43; subst e40; exact hP
      have hD : va_D A (pM g aM X42) := by subst e43; subst e40; exact hD
      exact J_59 x1 X42 _ _ ls hP hD hS (lv_sub hl [0, 1] rfl) hf
    have L_14 : ∀ fu : Nat, ∀ (x1 x2 : Int32) (XM : DM) (H : Heap) (locs : List Loc) (ls : Array Slot), va_P g.1 vwCl (pM g aM XM) H → va_D A (pM g aM XM) → va_S A s.heap H locs → lv_has ls 3 [(0, .ref (aM 0)), (1, .int x1), (2, .int x2)] → fX6_jumps_L14 n j47 fu x1 x2 XM = some XMz → W p l e (headSpec wsX6_jumps rmX6_jumps).room s m args below meth c H locs 0 0 Q0 (F0 m 14 ls []) := by
      intro fu
      induction fu with
      | zero => intros; rename_i hf; rw [fX6_jumps_L14] at hf; cases hf
      | succ fu ih =>
        intro x1 x2 XM H locs ls hP hD hS hl hf
        rw [fX6_jumps_L14] at hf
        refine lv_iload_n hx hb dX6_jumps_14 rfl (lv_at hl 2 rfl) ?_
        refine lv_iconst (v := 4) hx hb dX6_jumps_15 (by decide) ?_
        refine lv_icmp_ge (tgt := 47) hx hb dX6_jumps_16 (by decide) (fun c44 => ?_) (fun c44 => ?_)
        · have hf := ite_t hf c44
          exact J_47 x1 XM _ _ ls hP hD hS (lv_sub hl [0, 1] rfl) hf
        · have hf := ite_f hf c44
          refine lv_aload_n hx hb dX6_jumps_19 rfl (lv_at hl 0 rfl) ?_
          refine va_get (D := g.1) (ci := 6) (v := .ref (aM 1)) (C := RX6) (T := TX6) (N := 19) hx hb hts i_X6 hown hK hP 0 rfl rfl 0 (by decide) (hts (.fieldLink RX6 7 "WordFlasherModel" "d" "[I") (List.mem_of_getElem? (i := 1) rfl)) (fun _ h9 => h9) rfl dX6_jumps_20 ?_
          refine lv_sipush (v := 304) hx hb dX6_jumps_23 (by decide) ?_
          refine lv_iload_n hx hb dX6_jumps_26 rfl (lv_at hl 2 rfl) ?_
          refine lv_iadd hx hb dX6_jumps_27 ?_
          refine lv_aload_n hx hb dX6_jumps_28 rfl (lv_at hl 0 rfl) ?_
          refine va_get (D := g.1) (ci := 6) (v := .ref (aM 1)) (C := RX6) (T := TX6) (N := 19) hx hb hts i_X6 hown hK hP 0 rfl rfl 0 (by decide) (hts (.fieldLink RX6 7 "WordFlasherModel" "d" "[I") (List.mem_of_getElem? (i := 1) rfl)) (fun _ h9 => h9) rfl dX6_jumps_29 ?_
          refine lv_sipush (v := 304) hx hb dX6_jumps_32 (by decide) ?_
          refine lv_iload_n hx hb dX6_jumps_35 rfl (lv_at hl 2 rfl) ?_
          refine lv_iadd hx hb dX6_jumps_36 ?_
          refine lv_iconst (v := 1) hx hb dX6_jumps_37 (by decide) ?_
          refine lv_iadd hx hb dX6_jumps_38 ?_
          obtain ⟨h47, v45, e46, hf⟩ := rdA_el hf
          refine va_iald hx hb hK hP 1 0 rfl rfl h47 dX6_jumps_39 ?_
          refine lv_as e46 ?_
          obtain ⟨h50, f48, e49, hf⟩ := wrA_el hf
          obtain ⟨X51, e52, hf⟩ := sl_el hf
          refine va_iast hx hb hK hP hD hS 1 0 rfl rfl h50 dX6_jumps_40 (fun H locs hP hD hS => ?_)
          have hP : va_P g.1 vwCl (pM g aM X51) H := by subst e52; subst e49; exact hP
          have hD : va_D A (pM g aM X51) := by subst e52; subst e49; exact hD
          obtain ⟨v53, e54, hf⟩ := sl_el hf
          refine lv_iinc (v := v53) (lv' := [(2, .int v53), (0, .ref (aM 0)), (1, .int x1)]) hx hb dX6_jumps_41 hl (k := 2) rfl (by rw [e54]; rfl) (by decide) rfl (fun ls hl => ?_)
          refine lv_goto (tgt := 14) hx hb dX6_jumps_44 (by decide) ?_
          exact ih x1 v53 X51 _ _ ls hP hD hS (lv_sub hl [1, 2, 0] rfl) hf
    exact L_14 n p1 0 XM _ _ ls hP hD hS (lv_sub hl [1, 2, 0] rfl) hf
abbrev rmX6_jump : Room := { frames := 5, cells := 0, slots := 0, locals := 110 }
set_option maxHeartbeats 8000000 in
set_option maxRecDepth 100000 in
theorem c_X6_jump (l : Launch) (g : GG) (aM : Nat → Nat) (sz : Nat) (n : Nat) (XM : DM) (p1 : Int32) (r : Int32) (XMz : DM) (hf : fX6_jump n XM p1 = some (r, XMz)) : Met l yX6_jump wsX6_jump rmX6_jump (va_Pc [.ref (aM 0), .int p1] (fun U => U.heap.size = sz ∧ va_P g.1 vwCl (pM g aM XM) U.heap ∧ KW g U ∧ va_D (fun _ => True) (pM g aM XM))) (va_Qi (fun r' (_ : Unit) => r' = r ∧ True) (fun (_ : Unit) t => va_P g.1 vwCl (pM g aM XMz) t.heap) (va_A (pM g aM XM) sz)) 0 0 (va_A (pM g aM XM) sz) := by
  refine Met.ofW (cc := cX6_jump) (maxL := 2) (ret := (some .int)) (by decide) rfl ?_
  intro p e s m args below meth c s₁ B hml hv
  obtain ⟨hargs, hsz, hP, hKW, hD0⟩ := hv
  have hK := hKW.1
  have hx := B.exec
  have hb := B.bytes
  have hr := B.returns
  have hts := atoms_spec (ws := wsX6_jump) B.pre
  have hown : s.vm.findClass RX6 = some m.cls := findClass_of_methodNamed B.named
  have hlocks := B.notSynchronized
  subst hsz
  have hD := hD0.self (sz := s.heap.size)
  generalize hAe : va_A (pM g aM XM) s.heap.size = A at hD ⊢
  have hA : ∀ q : Nat, s.heap.size ≤ q → A q := fun q h => by rw [← hAe]; exact Or.inr h
  have hS : va_S A s.heap s.heap [] := va_S.rf
  have i_X6 : ∀ w ∈ wsX60, w ∈ wsX6_jump := fun w h => List.mem_cons_of_mem _ (List.mem_append_right _ h)
  have hent : entryFrame m args 2 = F0 m 0 ((lg_sl ([.ref (aM 0), .int p1]) ++ List.replicate (2 - (lg_sl ([.ref (aM 0), .int p1])).length) Slot.unset).toArray) [] := by rw [hargs]; exact lg_entry_eq _ _ _
  rw [hent]
  have hl := lv_entry ([.ref (aM 0), .int p1]) (n := 2) (Nat.le_of_ble_eq_true rfl)
  generalize (lg_sl ([.ref (aM 0), .int p1]) ++ List.replicate (2 - (lg_sl ([.ref (aM 0), .int p1])).length) Slot.unset).toArray = ls at hl ⊢
  have hl : lv_has ls 2 [(0, .ref (aM 0)), (1, .int p1)] := hl
  generalize hQ0 : MQ below _ _ _ _ _ _ = Q0
  unfold fX6_jump at hf
  refine lv_aload_n hx hb dX6_jump_0 rfl (lv_at hl 0 rfl) ?_
  refine lv_iload_n hx hb dX6_jump_1 rfl (lv_at hl 1 rfl) ?_
  obtain ⟨r1, h2, hf⟩ := bnd_el hf
  refine rdV (As := [.int p1]) (rest := []) ⟨hx, hb, hml, hown, hts⟩ (c_X6_isSentence l g aM _ _ _ h2) (cwV 1 hts gX6_jump_X6_isSentence rfl rfl rfl (by decide +kernel) ⟨Nat.le_of_ble_eq_true rfl, Nat.le_of_ble_eq_true rfl⟩) hKW hP [0, 1, 2, 3, 4, 5, 6, 7, 8, 9, 10, 11] rfl (va_recv hK hP (ci := 6) (q0 := 0) rfl rfl) rfl hl.1 rfl (lv_room (Nat.le_of_ble_eq_true rfl)) dX6_jump_2 ⟨Nat.zero_le _, Nat.zero_le _⟩ (fun r3 q4 => ?_)
  obtain ⟨q4, nb5⟩ := q4
  refine lv_as q4.symm ?_
  rw [q4] at nb5
  refine lv_if_ne (tgt := 10) hx hb dX6_jump_5 (by decide) (fun c6 => ?_) (fun c6 => ?_)
  · have hf := ite_f hf c6
    refine lv_aload_n hx hb dX6_jump_10 rfl (lv_at hl 0 rfl) ?_
    refine lv_iload_n hx hb dX6_jump_11 rfl (lv_at hl 1 rfl) ?_
    obtain ⟨r7, h8, hf⟩ := bnd_el hf
    refine rdV (As := [.int p1]) (rest := []) ⟨hx, hb, hml, hown, hts⟩ (c_X6_canJump l g aM _ _ _ _ h8) (cwV 1 hts gX6_jump_X6_canJump rfl rfl rfl (by decide +kernel) ⟨Nat.le_of_ble_eq_true rfl, Nat.le_of_ble_eq_true rfl⟩) hKW hP [0, 1, 2, 3, 4, 5, 6, 7, 8, 9, 10, 11] rfl (va_recv hK hP (ci := 6) (q0 := 0) rfl rfl) rfl hl.1 rfl (lv_room (Nat.le_of_ble_eq_true rfl)) dX6_jump_12 ⟨Nat.zero_le _, Nat.zero_le _⟩ (fun r9 q10 => ?_)
    obtain ⟨q10, nb11⟩ := q10
    refine lv_as q10.symm ?_
    rw [q10] at nb11
    refine lv_if_ne (tgt := 21) hx hb dX6_jump_15 (by decide) (fun c12 => ?_) (fun c12 => ?_)
    · have hf := ite_f hf c12
      refine lv_aload_n hx hb dX6_jump_21 rfl (lv_at hl 0 rfl) ?_
      obtain ⟨X13, h14, hf⟩ := bnd_el hf
      refine wr_v (rest := []) (wc := (pM g aM XM)) (wc' := (pM g aM X13)) (ws2 := (pM g aM X13)) hP hD hS hA [0, 1, 2, 3, 4, 5, 6, 7, 8, 9, 10, 11] rfl rfl (by rfl) (rnV (As := []) ⟨hx, hb, hml, hown, hts⟩ (c_X6_records l g aM _ _ _ _ h14) (cwV 0 hts gX6_jump_X6_records rfl rfl rfl (by decide +kernel) ⟨Nat.le_of_ble_eq_true rfl, Nat.le_of_ble_eq_true rfl⟩) hKW hP hD [0, 1, 2, 3, 4, 5, 6, 7, 8, 9, 10, 11] (by decide) rfl (va_recv hK hP (ci := 6) (q0 := 0) rfl rfl) rfl hl.1 rfl (lv_room (Nat.le_of_ble_eq_true rfl)) dX6_jump_22 ⟨Nat.zero_le _, Nat.zero_le _⟩) (fun H locs hP hD hS => ?_)
      refine lv_aload_n hx hb dX6_jump_25 rfl (lv_at hl 0 rfl) ?_
      refine lv_iload_n hx hb dX6_jump_26 rfl (lv_at hl 1 rfl) ?_
      obtain ⟨X15, h16, hf⟩ := bnd_el hf
      refine wr_v (rest := []) (wc := (pM g aM X13)) (wc' := (pM g aM X15)) (ws2 := (pM g aM X15)) hP hD hS hA [0, 1, 2, 3, 4, 5, 6, 7, 8, 9, 10, 11] rfl rfl (by rfl) (rnV (As := [.int p1]) ⟨hx, hb, hml, hown, hts⟩ (c_X6_jumps l g aM _ _ _ _ _ h16) (cwV 1 hts gX6_jump_X6_jumps rfl rfl rfl (by decide +kernel) ⟨Nat.le_of_ble_eq_true rfl, Nat.le_of_ble_eq_true rfl⟩) hKW hP hD [0, 1, 2, 3, 4, 5, 6, 7, 8, 9, 10, 11] (by decide) rfl (va_recv hK hP (ci := 6) (q0 := 0) rfl rfl) rfl hl.1 rfl (lv_room (Nat.le_of_ble_eq_true rfl)) dX6_jump_27 ⟨Nat.zero_le _, Nat.zero_le _⟩) (fun H locs hP hD hS => ?_)
      refine lv_aload_n hx hb dX6_jump_30 rfl (lv_at hl 0 rfl) ?_
      refine va_get (D := g.1) (ci := 6) (v := .ref (aM 1)) (C := RX6) (T := TX6) (N := 19) hx hb hts i_X6 hown hK hP 0 rfl rfl 0 (by decide) (hts (.fieldLink RX6 7 "WordFlasherModel" "d" "[I") (List.mem_of_getElem? (i := 1) rfl)) (fun _ h9 => h9) rfl dX6_jump_31 ?_
      refine lv_sipush (v := 301) hx hb dX6_jump_34 (by decide) ?_
      obtain ⟨h19, v17, e18, hf⟩ := rdA_el hf
      refine va_iald hx hb hK hP 1 0 rfl rfl h19 dX6_jump_37 ?_
      refine lv_as e18 ?_
      have er0 := Option.some.inj hf
      obtain ⟨er0, er1⟩ := Prod.mk.inj er0
      rw [← hQ0]; exact W.iret (v := v17) hx hb hr (fun t ht hW => ⟨⟨v17, (), rfl, ⟨er0, trivial⟩, by dsimp only; rw [ht, ← er1]; exact hP⟩, hS.F ht⟩) hS.2.2 dX6_jump_38
    · have hf := ite_t hf c12
      refine lv_bipush (v := (-2)) hx hb dX6_jump_18 (by decide) ?_
      have er0 := Option.some.inj hf
      obtain ⟨er0, er1⟩ := Prod.mk.inj er0
      rw [← hQ0]; exact W.iret (v := (-2)) hx hb hr (fun t ht hW => ⟨⟨(-2), (), rfl, ⟨er0, trivial⟩, by dsimp only; rw [ht, ← er1]; exact hP⟩, hS.F ht⟩) hS.2.2 dX6_jump_20
  · have hf := ite_t hf c6
    refine lv_iconst (v := (-1)) hx hb dX6_jump_8 (by decide) ?_
    have er0 := Option.some.inj hf
    obtain ⟨er0, er1⟩ := Prod.mk.inj er0
    rw [← hQ0]; exact W.iret (v := (-1)) hx hb hr (fun t ht hW => ⟨⟨(-1), (), rfl, ⟨er0, trivial⟩, by dsimp only; rw [ht, ← er1]; exact hP⟩, hS.F ht⟩) hS.2.2 dX6_jump_9
abbrev rmX6_returns : Room := { frames := 4, cells := 0, slots := 0, locals := 88 }
set_option maxHeartbeats 8000000 in
set_option maxRecDepth 100000 in
theorem c_X6_returns (l : Launch) (g : GG) (aM : Nat → Nat) (sz : Nat) (XM : DM) (XMz : DM) (hf : fX6_returns XM = some XMz) : Met l yX6_returns wsX6_returns rmX6_returns (va_Pc [.ref (aM 0)] (fun U => U.heap.size = sz ∧ va_P g.1 vwCl (pM g aM XM) U.heap ∧ KW g U ∧ va_D (fun _ => True) (pM g aM XM))) (va_Qv (fun (_ : Unit) => True) (fun (_ : Unit) t => va_P g.1 vwCl (pM g aM XMz) t.heap) (va_A (pM g aM XM) sz)) 0 0 (va_A (pM g aM XM) sz) := by
  refine Met.ofW (cc := cX6_returns) (maxL := 1) (ret := none) (by decide) rfl ?_
  intro p e s m args below meth c s₁ B hml hv
  obtain ⟨hargs, hsz, hP, hKW, hD0⟩ := hv
  have hK := hKW.1
  have hx := B.exec
  have hb := B.bytes
  have hr := B.returns
  have hts := atoms_spec (ws := wsX6_returns) B.pre
  have hown : s.vm.findClass RX6 = some m.cls := findClass_of_methodNamed B.named
  have hlocks := B.notSynchronized
  subst hsz
  have hD := hD0.self (sz := s.heap.size)
  generalize hAe : va_A (pM g aM XM) s.heap.size = A at hD ⊢
  have hA : ∀ q : Nat, s.heap.size ≤ q → A q := fun q h => by rw [← hAe]; exact Or.inr h
  have hS : va_S A s.heap s.heap [] := va_S.rf
  have i_X6 : ∀ w ∈ wsX60, w ∈ wsX6_returns := fun w h => List.mem_cons_of_mem _ (List.mem_append_right _ h)
  have hent : entryFrame m args 1 = F0 m 0 ((lg_sl ([.ref (aM 0)]) ++ List.replicate (1 - (lg_sl ([.ref (aM 0)])).length) Slot.unset).toArray) [] := by rw [hargs]; exact lg_entry_eq _ _ _
  rw [hent]
  have hl := lv_entry ([.ref (aM 0)]) (n := 1) (Nat.le_of_ble_eq_true rfl)
  generalize (lg_sl ([.ref (aM 0)]) ++ List.replicate (1 - (lg_sl ([.ref (aM 0)])).length) Slot.unset).toArray = ls at hl ⊢
  have hl : lv_has ls 1 [(0, .ref (aM 0))] := hl
  generalize hQ0 : MQ below _ _ _ _ _ _ = Q0
  unfold fX6_returns at hf
  refine lv_aload_n hx hb dX6_returns_0 rfl (lv_at hl 0 rfl) ?_
  refine va_get (D := g.1) (ci := 6) (v := .ref (aM 1)) (C := RX6) (T := TX6) (N := 19) hx hb hts i_X6 hown hK hP 0 rfl rfl 0 (by decide) (hts (.fieldLink RX6 7 "WordFlasherModel" "d" "[I") (List.mem_of_getElem? (i := 1) rfl)) (fun _ h9 => h9) rfl dX6_returns_1 ?_
  refine lv_sipush (v := 303) hx hb dX6_returns_4 (by decide) ?_
  refine lv_dup2_11 hx hb dX6_returns_7 rfl rfl ?_
  obtain ⟨h3, v1, e2, hf⟩ := rdA_el hf
  refine va_iald hx hb hK hP 1 0 rfl rfl h3 dX6_returns_8 ?_
  refine lv_as e2 ?_
  refine lv_iconst (v := 1) hx hb dX6_returns_9 (by decide) ?_
  refine lv_isub hx hb dX6_returns_10 ?_
  obtain ⟨h6, f4, e5, hf⟩ := wrA_el hf
  obtain ⟨X7, e8, hf⟩ := sl_el hf
  refine va_iast hx hb hK hP hD hS 1 0 rfl rfl h6 dX6_returns_11 (fun H locs hP hD hS => ?_)
  have hP : va_P g.1 vwCl (pM g aM X7) H := by subst e8; subst e5; exact hP
  have hD : va_D A (pM g aM X7) := by subst e8; subst e5; exact hD
  refine lv_aload_n hx hb dX6_returns_12 rfl (lv_at hl 0 rfl) ?_
  refine va_get (D := g.1) (ci := 6) (v := .ref (aM 1)) (C := RX6) (T := TX6) (N := 19) hx hb hts i_X6 hown hK hP 0 rfl rfl 0 (by decide) (hts (.fieldLink RX6 7 "WordFlasherModel" "d" "[I") (List.mem_of_getElem? (i := 1) rfl)) (fun _ h9 => h9) rfl dX6_returns_13 ?_
  refine lv_sipush (v := 344) hx hb dX6_returns_16 (by decide) ?_
  refine lv_iconst (v := 0) hx hb dX6_returns_19 (by decide) ?_
  obtain ⟨h11, f9, e10, hf⟩ := wrA_el hf
  obtain ⟨X12, e13, hf⟩ := sl_el hf
  refine va_iast hx hb hK hP hD hS 1 0 rfl rfl h11 dX6_returns_20 (fun H locs hP hD hS => ?_)
  have hP : va_P g.1 vwCl (pM g aM X12) H := by subst e13; subst e10; exact hP
  have hD : va_D A (pM g aM X12) := by subst e13; subst e10; exact hD
  refine lv_aload_n hx hb dX6_returns_21 rfl (lv_at hl 0 rfl) ?_
  refine lv_aload_n hx hb dX6_returns_22 rfl (lv_at hl 0 rfl) ?_
  refine va_get (D := g.1) (ci := 6) (v := .ref (aM 1)) (C := RX6) (T := TX6) (N := 19) hx hb hts i_X6 hown hK hP 0 rfl rfl 0 (by decide) (hts (.fieldLink RX6 7 "WordFlasherModel" "d" "[I") (List.mem_of_getElem? (i := 1) rfl)) (fun _ h9 => h9) rfl dX6_returns_23 ?_
  refine lv_sipush (v := 304) hx hb dX6_returns_26 (by decide) ?_
  refine lv_aload_n hx hb dX6_returns_29 rfl (lv_at hl 0 rfl) ?_
  refine va_get (D := g.1) (ci := 6) (v := .ref (aM 1)) (C := RX6) (T := TX6) (N := 19) hx hb hts i_X6 hown hK hP 0 rfl rfl 0 (by decide) (hts (.fieldLink RX6 7 "WordFlasherModel" "d" "[I") (List.mem_of_getElem? (i := 1) rfl)) (fun _ h9 => h9) rfl dX6_returns_30 ?_
  refine lv_sipush (v := 303) hx hb dX6_returns_33 (by decide) ?_
  obtain ⟨h16, v14, e15, hf⟩ := rdA_el hf
  refine va_iald hx hb hK hP 1 0 rfl rfl h16 dX6_returns_36 ?_
  refine lv_as e15 ?_
  refine lv_iadd hx hb dX6_returns_37 ?_
  obtain ⟨h19, v17, e18, hf⟩ := rdA_el hf
  refine va_iald hx hb hK hP 1 0 rfl rfl h19 dX6_returns_38 ?_
  refine lv_as e18 ?_
  obtain ⟨X20, h21, hf⟩ := bnd_el hf
  refine wr_v (rest := []) (wc := (pM g aM X12)) (wc' := (pM g aM X20)) (ws2 := (pM g aM X20)) hP hD hS hA [0, 1, 2, 3, 4, 5, 6, 7, 8, 9, 10, 11] rfl rfl (by rfl) (rnV (As := [.int v17]) ⟨hx, hb, hml, hown, hts⟩ (c_X6_becomes l g aM _ _ _ _ h21) (cwV 1 hts gX6_returns_X6_becomes rfl rfl rfl (by decide +kernel) ⟨Nat.le_of_ble_eq_true rfl, Nat.le_of_ble_eq_true rfl⟩) hKW hP hD [0, 1, 2, 3, 4, 5, 6, 7, 8, 9, 10, 11] (by decide) rfl (va_recv hK hP (ci := 6) (q0 := 0) rfl rfl) rfl hl.1 rfl (lv_room (Nat.le_of_ble_eq_true rfl)) dX6_returns_39 ⟨Nat.zero_le _, Nat.zero_le _⟩) (fun H locs hP hD hS => ?_)
  have er0 := Option.some.inj hf
  rw [← hQ0]; exact W.vret hx hb hr (fun t ht hW => ⟨⟨(), rfl, trivial, by dsimp only; rw [ht, ← er0]; exact hP⟩, hS.F ht⟩) hS.2.2 dX6_returns_42
abbrev rmX6_goBack : Room := { frames := 5, cells := 0, slots := 0, locals := 108 }
set_option maxHeartbeats 8000000 in
set_option maxRecDepth 100000 in
theorem c_X6_goBack (l : Launch) (g : GG) (aM : Nat → Nat) (sz : Nat) (n : Nat) (XM : DM) (r : Int32) (XMz : DM) (hf : fX6_goBack n XM = some (r, XMz)) : Met l yX6_goBack wsX6_goBack rmX6_goBack (va_Pc [.ref (aM 0)] (fun U => U.heap.size = sz ∧ va_P g.1 vwCl (pM g aM XM) U.heap ∧ KW g U ∧ va_D (fun _ => True) (pM g aM XM))) (va_Qi (fun r' (_ : Unit) => r' = r ∧ True) (fun (_ : Unit) t => va_P g.1 vwCl (pM g aM XMz) t.heap) (va_A (pM g aM XM) sz)) 0 0 (va_A (pM g aM XM) sz) := by
  refine Met.ofW (cc := cX6_goBack) (maxL := 1) (ret := (some .int)) (by decide) rfl ?_
  intro p e s m args below meth c s₁ B hml hv
  obtain ⟨hargs, hsz, hP, hKW, hD0⟩ := hv
  have hK := hKW.1
  have hx := B.exec
  have hb := B.bytes
  have hr := B.returns
  have hts := atoms_spec (ws := wsX6_goBack) B.pre
  have hown : s.vm.findClass RX6 = some m.cls := findClass_of_methodNamed B.named
  have hlocks := B.notSynchronized
  subst hsz
  have hD := hD0.self (sz := s.heap.size)
  generalize hAe : va_A (pM g aM XM) s.heap.size = A at hD ⊢
  have hA : ∀ q : Nat, s.heap.size ≤ q → A q := fun q h => by rw [← hAe]; exact Or.inr h
  have hS : va_S A s.heap s.heap [] := va_S.rf
  have i_X6 : ∀ w ∈ wsX60, w ∈ wsX6_goBack := fun w h => List.mem_cons_of_mem _ (List.mem_append_right _ h)
  have hent : entryFrame m args 1 = F0 m 0 ((lg_sl ([.ref (aM 0)]) ++ List.replicate (1 - (lg_sl ([.ref (aM 0)])).length) Slot.unset).toArray) [] := by rw [hargs]; exact lg_entry_eq _ _ _
  rw [hent]
  have hl := lv_entry ([.ref (aM 0)]) (n := 1) (Nat.le_of_ble_eq_true rfl)
  generalize (lg_sl ([.ref (aM 0)]) ++ List.replicate (1 - (lg_sl ([.ref (aM 0)])).length) Slot.unset).toArray = ls at hl ⊢
  have hl : lv_has ls 1 [(0, .ref (aM 0))] := hl
  generalize hQ0 : MQ below _ _ _ _ _ _ = Q0
  unfold fX6_goBack at hf
  refine lv_aload_n hx hb dX6_goBack_0 rfl (lv_at hl 0 rfl) ?_
  refine va_get (D := g.1) (ci := 6) (v := .ref (aM 1)) (C := RX6) (T := TX6) (N := 19) hx hb hts i_X6 hown hK hP 0 rfl rfl 0 (by decide) (hts (.fieldLink RX6 7 "WordFlasherModel" "d" "[I") (List.mem_of_getElem? (i := 1) rfl)) (fun _ h9 => h9) rfl dX6_goBack_1 ?_
  refine lv_sipush (v := 303) hx hb dX6_goBack_4 (by decide) ?_
  obtain ⟨h3, v1, e2, hf⟩ := rdA_el hf
  refine va_iald hx hb hK hP 1 0 rfl rfl h3 dX6_goBack_7 ?_
  refine lv_as e2 ?_
  refine lv_if_ne (tgt := 14) hx hb dX6_goBack_8 (by decide) (fun c4 => ?_) (fun c4 => ?_)
  · have hf := ite_f hf c4
    refine lv_aload_n hx hb dX6_goBack_14 rfl (lv_at hl 0 rfl) ?_
    obtain ⟨X5, h6, hf⟩ := bnd_el hf
    refine wr_v (rest := []) (wc := (pM g aM XM)) (wc' := (pM g aM X5)) (ws2 := (pM g aM X5)) hP hD hS hA [0, 1, 2, 3, 4, 5, 6, 7, 8, 9, 10, 11] rfl rfl (by rfl) (rnV (As := []) ⟨hx, hb, hml, hown, hts⟩ (c_X6_records l g aM _ _ _ _ h6) (cwV 0 hts gX6_goBack_X6_records rfl rfl rfl (by decide +kernel) ⟨Nat.le_of_ble_eq_true rfl, Nat.le_of_ble_eq_true rfl⟩) hKW hP hD [0, 1, 2, 3, 4, 5, 6, 7, 8, 9, 10, 11] (by decide) rfl (va_recv hK hP (ci := 6) (q0 := 0) rfl rfl) rfl hl.1 rfl (lv_room (Nat.le_of_ble_eq_true rfl)) dX6_goBack_15 ⟨Nat.zero_le _, Nat.zero_le _⟩) (fun H locs hP hD hS => ?_)
    refine lv_aload_n hx hb dX6_goBack_18 rfl (lv_at hl 0 rfl) ?_
    obtain ⟨X7, h8, hf⟩ := bnd_el hf
    refine wr_v (rest := []) (wc := (pM g aM X5)) (wc' := (pM g aM X7)) (ws2 := (pM g aM X7)) hP hD hS hA [0, 1, 2, 3, 4, 5, 6, 7, 8, 9, 10, 11] rfl rfl (by rfl) (rnV (As := []) ⟨hx, hb, hml, hown, hts⟩ (c_X6_returns l g aM _ _ _ h8) (cwV 0 hts gX6_goBack_X6_returns rfl rfl rfl (by decide +kernel) ⟨Nat.le_of_ble_eq_true rfl, Nat.le_of_ble_eq_true rfl⟩) hKW hP hD [0, 1, 2, 3, 4, 5, 6, 7, 8, 9, 10, 11] (by decide) rfl (va_recv hK hP (ci := 6) (q0 := 0) rfl rfl) rfl hl.1 rfl (lv_room (Nat.le_of_ble_eq_true rfl)) dX6_goBack_19 ⟨Nat.zero_le _, Nat.zero_le _⟩) (fun H locs hP hD hS => ?_)
    refine lv_aload_n hx hb dX6_goBack_22 rfl (lv_at hl 0 rfl) ?_
    refine va_get (D := g.1) (ci := 6) (v := .ref (aM 1)) (C := RX6) (T := TX6) (N := 19) hx hb hts i_X6 hown hK hP 0 rfl rfl 0 (by decide) (hts (.fieldLink RX6 7 "WordFlasherModel" "d" "[I") (List.mem_of_getElem? (i := 1) rfl)) (fun _ h9 => h9) rfl dX6_goBack_23 ?_
    refine lv_sipush (v := 301) hx hb dX6_goBack_26 (by decide) ?_
    obtain ⟨h11, v9, e10, hf⟩ := rdA_el hf
    refine va_iald hx hb hK hP 1 0 rfl rfl h11 dX6_goBack_29 ?_
    refine lv_as e10 ?_
    have er0 := Option.some.inj hf
    obtain ⟨er0, er1⟩ := Prod.mk.inj er0
    rw [← hQ0]; exact W.iret (v := v9) hx hb hr (fun t ht hW => ⟨⟨v9, (), rfl, ⟨er0, trivial⟩, by dsimp only; rw [ht, ← er1]; exact hP⟩, hS.F ht⟩) hS.2.2 dX6_goBack_30
  · have hf := ite_t hf c4
    refine lv_bipush (v := (-2)) hx hb dX6_goBack_11 (by decide) ?_
    have er0 := Option.some.inj hf
    obtain ⟨er0, er1⟩ := Prod.mk.inj er0
    rw [← hQ0]; exact W.iret (v := (-2)) hx hb hr (fun t ht hW => ⟨⟨(-2), (), rfl, ⟨er0, trivial⟩, by dsimp only; rw [ht, ← er1]; exact hP⟩, hS.F ht⟩) hS.2.2 dX6_goBack_13
abbrev rmX6_keeps : Room := { frames := 0, cells := 0, slots := 0, locals := 0 }
set_option maxHeartbeats 8000000 in
set_option maxRecDepth 100000 in
theorem c_X6_keeps (l : Launch) (g : GG) (aM : Nat → Nat) (sz : Nat) (n : Nat) (XM : DM) (XMz : DM) (hf : fX6_keeps n XM = some XMz) : Met l yX6_keeps wsX6_keeps rmX6_keeps (va_Pc [.ref (aM 0)] (fun U => U.heap.size = sz ∧ va_P g.1 vwCl (pM g aM XM) U.heap ∧ KW g U ∧ va_D (fun _ => True) (pM g aM XM))) (va_Qv (fun (_ : Unit) => True) (fun (_ : Unit) t => va_P g.1 vwCl (pM g aM XMz) t.heap) (va_A (pM g aM XM) sz)) 0 0 (va_A (pM g aM XM) sz) := by
  refine Met.ofW (cc := cX6_keeps) (maxL := 2) (ret := none) (by decide) rfl ?_
  intro p e s m args below meth c s₁ B hml hv
  obtain ⟨hargs, hsz, hP, hKW, hD0⟩ := hv
  have hK := hKW.1
  have hx := B.exec
  have hb := B.bytes
  have hr := B.returns
  have hts := atoms_spec (ws := wsX6_keeps) B.pre
  have hown : s.vm.findClass RX6 = some m.cls := findClass_of_methodNamed B.named
  have hlocks := B.notSynchronized
  subst hsz
  have hD := hD0.self (sz := s.heap.size)
  generalize hAe : va_A (pM g aM XM) s.heap.size = A at hD ⊢
  have hA : ∀ q : Nat, s.heap.size ≤ q → A q := fun q h => by rw [← hAe]; exact Or.inr h
  have hS : va_S A s.heap s.heap [] := va_S.rf
  have i_X6 : ∀ w ∈ wsX60, w ∈ wsX6_keeps := fun w h => List.mem_cons_of_mem _ (List.mem_append_right _ h)
  have hent : entryFrame m args 2 = F0 m 0 ((lg_sl ([.ref (aM 0)]) ++ List.replicate (2 - (lg_sl ([.ref (aM 0)])).length) Slot.unset).toArray) [] := by rw [hargs]; exact lg_entry_eq _ _ _
  rw [hent]
  have hl := lv_entry ([.ref (aM 0)]) (n := 2) (Nat.le_of_ble_eq_true rfl)
  generalize (lg_sl ([.ref (aM 0)]) ++ List.replicate (2 - (lg_sl ([.ref (aM 0)])).length) Slot.unset).toArray = ls at hl ⊢
  have hl : lv_has ls 2 [(0, .ref (aM 0))] := hl
  generalize hQ0 : MQ below _ _ _ _ _ _ = Q0
  unfold fX6_keeps at hf
  refine lv_iconst (v := 0) hx hb dX6_keeps_0 (by decide) ?_
  refine lv_istore_n (lv' := [(1, .int 0), (0, .ref (aM 0))]) hx hb dX6_keeps_1 rfl hl (by decide) rfl (fun ls hl => ?_)
  have L_2 : ∀ fu : Nat, ∀ (x1 : Int32) (XM : DM) (H : Heap) (locs : List Loc) (ls : Array Slot), va_P g.1 vwCl (pM g aM XM) H → va_D A (pM g aM XM) → va_S A s.heap H locs → lv_has ls 2 [(0, .ref (aM 0)), (1, .int x1)] → fX6_keeps_L2 n fu x1 XM = some XMz → W p l e (headSpec wsX6_keeps rmX6_keeps).room s m args below meth c H locs 0 0 Q0 (F0 m 2 ls []) := by
    intro fu
    induction fu with
    | zero => intros; rename_i hf; rw [fX6_keeps_L2] at hf; cases hf
    | succ fu ih =>
      intro x1 XM H locs ls hP hD hS hl hf
      rw [fX6_keeps_L2] at hf
      refine lv_iload_n hx hb dX6_keeps_2 rfl (lv_at hl 1 rfl) ?_
      refine lv_sipush (v := 348) hx hb dX6_keeps_3 (by decide) ?_
      refine lv_icmp_ge (tgt := 27) hx hb dX6_keeps_6 (by decide) (fun c1 => ?_) (fun c1 => ?_)
      · have hf := ite_t hf c1
        have er0 := Option.some.inj hf
        rw [← hQ0]; exact W.vret hx hb hr (fun t ht hW => ⟨⟨(), rfl, trivial, by dsimp only; rw [ht, ← er0]; exact hP⟩, hS.F ht⟩) hS.2.2 dX6_keeps_27
      · have hf := ite_f hf c1
        refine lv_aload_n hx hb dX6_keeps_9 rfl (lv_at hl 0 rfl) ?_
        refine va_get (D := g.1) (ci := 6) (v := .ref (aM 3)) (C := RX6) (T := TX6) (N := 19) hx hb hts i_X6 hown hK hP 0 rfl rfl 3 (by decide) (hts (.fieldLink RX6 16 "WordFlasherModel" "aside" "[I") (List.mem_of_getElem? (i := 1) rfl)) (fun _ h9 => h9) rfl dX6_keeps_10 ?_
        refine lv_iload_n hx hb dX6_keeps_13 rfl (lv_at hl 1 rfl) ?_
        refine lv_aload_n hx hb dX6_keeps_14 rfl (lv_at hl 0 rfl) ?_
        refine va_get (D := g.1) (ci := 6) (v := .ref (aM 1)) (C := RX6) (T := TX6) (N := 19) hx hb hts i_X6 hown hK hP 0 rfl rfl 0 (by decide) (hts (.fieldLink RX6 7 "WordFlasherModel" "d" "[I") (List.mem_of_getElem? (i := 2) rfl)) (fun _ h9 => h9) rfl dX6_keeps_15 ?_
        refine lv_iload_n hx hb dX6_keeps_18 rfl (lv_at hl 1 rfl) ?_
        obtain ⟨h4, v2, e3, hf⟩ := rdA_el hf
        refine va_iald hx hb hK hP 1 0 rfl rfl h4 dX6_keeps_19 ?_
        refine lv_as e3 ?_
        obtain ⟨h7, f5, e6, hf⟩ := wrA_el hf
        obtain ⟨X8, e9, hf⟩ := sl_el hf
        refine va_iast hx hb hK hP hD hS 3 0 rfl rfl h7 dX6_keeps_20 (fun H locs hP hD hS => ?_)
        have hP : va_P g.1 vwCl (pM g aM X8) H := by subst e9; subst e6; exact hP
        have hD : va_D A (pM g aM X8) := by subst e9; subst e6; exact hD
        obtain ⟨v10, e11, hf⟩ := sl_el hf
        refine lv_iinc (v := v10) (lv' := [(1, .int v10), (0, .ref (aM 0))]) hx hb dX6_keeps_21 hl (k := 1) rfl (by rw [e11]; rfl) (by decide) rfl (fun ls hl => ?_)
        refine lv_goto (tgt := 2) hx hb dX6_keeps_24 (by decide) ?_
        exact ih v10 X8 _ _ ls hP hD hS (lv_sub hl [1, 0] rfl) hf
  exact L_2 n 0 XM _ _ ls hP hD hS (lv_sub hl [1, 0] rfl) hf
abbrev rmX6_restores : Room := { frames := 0, cells := 0, slots := 0, locals := 0 }
set_option maxHeartbeats 8000000 in
set_option maxRecDepth 100000 in
theorem c_X6_restores (l : Launch) (g : GG) (aM : Nat → Nat) (sz : Nat) (n : Nat) (XM : DM) (XMz : DM) (hf : fX6_restores n XM = some XMz) : Met l yX6_restores wsX6_restores rmX6_restores (va_Pc [.ref (aM 0)] (fun U => U.heap.size = sz ∧ va_P g.1 vwCl (pM g aM XM) U.heap ∧ KW g U ∧ va_D (fun _ => True) (pM g aM XM))) (va_Qv (fun (_ : Unit) => True) (fun (_ : Unit) t => va_P g.1 vwCl (pM g aM XMz) t.heap) (va_A (pM g aM XM) sz)) 0 0 (va_A (pM g aM XM) sz) := by
  refine Met.ofW (cc := cX6_restores) (maxL := 2) (ret := none) (by decide) rfl ?_
  intro p e s m args below meth c s₁ B hml hv
  obtain ⟨hargs, hsz, hP, hKW, hD0⟩ := hv
  have hK := hKW.1
  have hx := B.exec
  have hb := B.bytes
  have hr := B.returns
  have hts := atoms_spec (ws := wsX6_restores) B.pre
  have hown : s.vm.findClass RX6 = some m.cls := findClass_of_methodNamed B.named
  have hlocks := B.notSynchronized
  subst hsz
  have hD := hD0.self (sz := s.heap.size)
  generalize hAe : va_A (pM g aM XM) s.heap.size = A at hD ⊢
  have hA : ∀ q : Nat, s.heap.size ≤ q → A q := fun q h => by rw [← hAe]; exact Or.inr h
  have hS : va_S A s.heap s.heap [] := va_S.rf
  have i_X6 : ∀ w ∈ wsX60, w ∈ wsX6_restores := fun w h => List.mem_cons_of_mem _ (List.mem_append_right _ h)
  have hent : entryFrame m args 2 = F0 m 0 ((lg_sl ([.ref (aM 0)]) ++ List.replicate (2 - (lg_sl ([.ref (aM 0)])).length) Slot.unset).toArray) [] := by rw [hargs]; exact lg_entry_eq _ _ _
  rw [hent]
  have hl := lv_entry ([.ref (aM 0)]) (n := 2) (Nat.le_of_ble_eq_true rfl)
  generalize (lg_sl ([.ref (aM 0)]) ++ List.replicate (2 - (lg_sl ([.ref (aM 0)])).length) Slot.unset).toArray = ls at hl ⊢
  have hl : lv_has ls 2 [(0, .ref (aM 0))] := hl
  generalize hQ0 : MQ below _ _ _ _ _ _ = Q0
  unfold fX6_restores at hf
  refine lv_iconst (v := 0) hx hb dX6_restores_0 (by decide) ?_
  refine lv_istore_n (lv' := [(1, .int 0), (0, .ref (aM 0))]) hx hb dX6_restores_1 rfl hl (by decide) rfl (fun ls hl => ?_)
  have L_2 : ∀ fu : Nat, ∀ (x1 : Int32) (XM : DM) (H : Heap) (locs : List Loc) (ls : Array Slot), va_P g.1 vwCl (pM g aM XM) H → va_D A (pM g aM XM) → va_S A s.heap H locs → lv_has ls 2 [(0, .ref (aM 0)), (1, .int x1)] → fX6_restores_L2 n fu x1 XM = some XMz → W p l e (headSpec wsX6_restores rmX6_restores).room s m args below meth c H locs 0 0 Q0 (F0 m 2 ls []) := by
    intro fu
    induction fu with
    | zero => intros; rename_i hf; rw [fX6_restores_L2] at hf; cases hf
    | succ fu ih =>
      intro x1 XM H locs ls hP hD hS hl hf
      rw [fX6_restores_L2] at hf
      refine lv_iload_n hx hb dX6_restores_2 rfl (lv_at hl 1 rfl) ?_
      refine lv_sipush (v := 348) hx hb dX6_restores_3 (by decide) ?_
      refine lv_icmp_ge (tgt := 27) hx hb dX6_restores_6 (by decide) (fun c1 => ?_) (fun c1 => ?_)
      · have hf := ite_t hf c1
        have er0 := Option.some.inj hf
        rw [← hQ0]; exact W.vret hx hb hr (fun t ht hW => ⟨⟨(), rfl, trivial, by dsimp only; rw [ht, ← er0]; exact hP⟩, hS.F ht⟩) hS.2.2 dX6_restores_27
      · have hf := ite_f hf c1
        refine lv_aload_n hx hb dX6_restores_9 rfl (lv_at hl 0 rfl) ?_
        refine va_get (D := g.1) (ci := 6) (v := .ref (aM 1)) (C := RX6) (T := TX6) (N := 19) hx hb hts i_X6 hown hK hP 0 rfl rfl 0 (by decide) (hts (.fieldLink RX6 7 "WordFlasherModel" "d" "[I") (List.mem_of_getElem? (i := 1) rfl)) (fun _ h9 => h9) rfl dX6_restores_10 ?_
        refine lv_iload_n hx hb dX6_restores_13 rfl (lv_at hl 1 rfl) ?_
        refine lv_aload_n hx hb dX6_restores_14 rfl (lv_at hl 0 rfl) ?_
        refine va_get (D := g.1) (ci := 6) (v := .ref (aM 3)) (C := RX6) (T := TX6) (N := 19) hx hb hts i_X6 hown hK hP 0 rfl rfl 3 (by decide) (hts (.fieldLink RX6 16 "WordFlasherModel" "aside" "[I") (List.mem_of_getElem? (i := 2) rfl)) (fun _ h9 => h9) rfl dX6_restores_15 ?_
        refine lv_iload_n hx hb dX6_restores_18 rfl (lv_at hl 1 rfl) ?_
        obtain ⟨h4, v2, e3, hf⟩ := rdA_el hf
        refine va_iald hx hb hK hP 3 0 rfl rfl h4 dX6_restores_19 ?_
        refine lv_as e3 ?_
        obtain ⟨h7, f5, e6, hf⟩ := wrA_el hf
        obtain ⟨X8, e9, hf⟩ := sl_el hf
        refine va_iast hx hb hK hP hD hS 1 0 rfl rfl h7 dX6_restores_20 (fun H locs hP hD hS => ?_)
        have hP : va_P g.1 vwCl (pM g aM X8) H := by subst e9; subst e6; exact hP
        have hD : va_D A (pM g aM X8) := by subst e9; subst e6; exact hD
        obtain ⟨v10, e11, hf⟩ := sl_el hf
        refine lv_iinc (v := v10) (lv' := [(1, .int v10), (0, .ref (aM 0))]) hx hb dX6_restores_21 hl (k := 1) rfl (by rw [e11]; rfl) (by decide) rfl (fun ls hl => ?_)
        refine lv_goto (tgt := 2) hx hb dX6_restores_24 (by decide) ?_
        exact ih v10 X8 _ _ ls hP hD hS (lv_sub hl [1, 0] rfl) hf
  exact L_2 n 0 XM _ _ ls hP hD hS (lv_sub hl [1, 0] rfl) hf
abbrev rmX6_ifRun : Room := { frames := 6, cells := 0, slots := 0, locals := 134 }
set_option maxHeartbeats 8000000 in
set_option maxRecDepth 100000 in
theorem c_X6_ifRun (l : Launch) (g : GG) (aM : Nat → Nat) (sz : Nat) (n : Nat) (XM : DM) (p1 : Int32) (r : Int32) (XMz : DM) (hf : fX6_ifRun n XM p1 = some (r, XMz)) : Met l yX6_ifRun wsX6_ifRun rmX6_ifRun (va_Pc [.ref (aM 0), .int p1] (fun U => U.heap.size = sz ∧ va_P g.1 vwCl (pM g aM XM) U.heap ∧ KW g U ∧ va_D (fun _ => True) (pM g aM XM))) (va_Qi (fun r' (_ : Unit) => r' = r ∧ True) (fun (_ : Unit) t => va_P g.1 vwCl (pM g aM XMz) t.heap) (va_A (pM g aM XM) sz)) 0 0 (va_A (pM g aM XM) sz) := by
  refine Met.ofW (cc := cX6_ifRun) (maxL := 3) (ret := (some .int)) (by decide) rfl ?_
  intro p e s m args below meth c s₁ B hml hv
  obtain ⟨hargs, hsz, hP, hKW, hD0⟩ := hv
  have hK := hKW.1
  have hx := B.exec
  have hb := B.bytes
  have hr := B.returns
  have hts := atoms_spec (ws := wsX6_ifRun) B.pre
  have hown : s.vm.findClass RX6 = some m.cls := findClass_of_methodNamed B.named
  have hlocks := B.notSynchronized
  subst hsz
  have hD := hD0.self (sz := s.heap.size)
  generalize hAe : va_A (pM g aM XM) s.heap.size = A at hD ⊢
  have hA : ∀ q : Nat, s.heap.size ≤ q → A q := fun q h => by rw [← hAe]; exact Or.inr h
  have hS : va_S A s.heap s.heap [] := va_S.rf
  have i_X6 : ∀ w ∈ wsX60, w ∈ wsX6_ifRun := fun w h => List.mem_cons_of_mem _ (List.mem_append_right _ h)
  have hent : entryFrame m args 3 = F0 m 0 ((lg_sl ([.ref (aM 0), .int p1]) ++ List.replicate (3 - (lg_sl ([.ref (aM 0), .int p1])).length) Slot.unset).toArray) [] := by rw [hargs]; exact lg_entry_eq _ _ _
  rw [hent]
  have hl := lv_entry ([.ref (aM 0), .int p1]) (n := 3) (Nat.le_of_ble_eq_true rfl)
  generalize (lg_sl ([.ref (aM 0), .int p1]) ++ List.replicate (3 - (lg_sl ([.ref (aM 0), .int p1])).length) Slot.unset).toArray = ls at hl ⊢
  have hl : lv_has ls 3 [(0, .ref (aM 0)), (1, .int p1)] := hl
  generalize hQ0 : MQ below _ _ _ _ _ _ = Q0
  unfold fX6_ifRun at hf
  refine lv_iload_n hx hb dX6_ifRun_0 rfl (lv_at hl 1 rfl) ?_
  refine lv_iconst (v := 1) hx hb dX6_ifRun_1 (by decide) ?_
  refine lv_sipush (v := 9999) hx hb dX6_ifRun_2 (by decide) ?_
  obtain ⟨r1, h2, hf⟩ := bnd_el hf
  refine rdS (As := [.int p1, .int 1, .int 9999]) (rest := []) ⟨hx, hb, hml, hown, hts⟩ (c_X6_in l g _ _ _ _ h2) (va_cwS 3 hts gX6_ifRun_X6_in rfl rfl rfl (by decide +kernel) ⟨Nat.le_of_ble_eq_true rfl, Nat.le_of_ble_eq_true rfl⟩) hKW hP [] rfl rfl hl.1 rfl (lv_room (Nat.le_of_ble_eq_true rfl)) dX6_ifRun_5 ⟨Nat.zero_le _, Nat.zero_le _⟩ (fun r3 q4 => ?_)
  obtain ⟨q4, nb5⟩ := q4
  refine lv_as q4.symm ?_
  rw [q4] at nb5
  refine lv_if_ne (tgt := 13) hx hb dX6_ifRun_8 (by decide) (fun c6 => ?_) (fun c6 => ?_)
  · have hf := ite_f hf c6
    refine lv_aload_n hx hb dX6_ifRun_13 rfl (lv_at hl 0 rfl) ?_
    refine va_get (D := g.1) (ci := 6) (v := .ref (aM 1)) (C := RX6) (T := TX6) (N := 19) hx hb hts i_X6 hown hK hP 0 rfl rfl 0 (by decide) (hts (.fieldLink RX6 7 "WordFlasherModel" "d" "[I") (List.mem_of_getElem? (i := 1) rfl)) (fun _ h9 => h9) rfl dX6_ifRun_14 ?_
    refine lv_sipush (v := 301) hx hb dX6_ifRun_17 (by decide) ?_
    obtain ⟨h9, v7, e8, hf⟩ := rdA_el hf
    refine va_iald hx hb hK hP 1 0 rfl rfl h9 dX6_ifRun_20 ?_
    refine lv_as e8 ?_
    refine lv_iconst (v := (-1)) hx hb dX6_ifRun_21 (by decide) ?_
    refine lv_icmp_ne (tgt := 28) hx hb dX6_ifRun_22 (by decide) (fun c10 => ?_) (fun c10 => ?_)
    · have hf := ite_f hf c10
      refine lv_aload_n hx hb dX6_ifRun_28 rfl (lv_at hl 0 rfl) ?_
      obtain ⟨X11, h12, hf⟩ := bnd_el hf
      refine wr_v (rest := []) (wc := (pM g aM XM)) (wc' := (pM g aM X11)) (ws2 := (pM g aM X11)) hP hD hS hA [0, 1, 2, 3, 4, 5, 6, 7, 8, 9, 10, 11] rfl rfl (by rfl) (rnV (As := []) ⟨hx, hb, hml, hown, hts⟩ (c_X6_keeps l g aM _ _ _ _ h12) (cwV 0 hts gX6_ifRun_X6_keeps rfl rfl rfl (by decide +kernel) ⟨Nat.le_of_ble_eq_true rfl, Nat.le_of_ble_eq_true rfl⟩) hKW hP hD [0, 1, 2, 3, 4, 5, 6, 7, 8, 9, 10, 11] (by decide) rfl (va_recv hK hP (ci := 6) (q0 := 0) rfl rfl) rfl hl.1 rfl (lv_room (Nat.le_of_ble_eq_true rfl)) dX6_ifRun_29 ⟨Nat.zero_le _, Nat.zero_le _⟩) (fun H locs hP hD hS => ?_)
      refine lv_aload_n hx hb dX6_ifRun_32 rfl (lv_at hl 0 rfl) ?_
      refine lv_iload_n hx hb dX6_ifRun_33 rfl (lv_at hl 1 rfl) ?_
      obtain ⟨u16, h15, hf⟩ := bnd_el hf
      refine wr_i (rest := []) (wc := (pM g aM X11)) (wc' := (pM g aM u16.2)) (ws2 := (pM g aM u16.2)) hP hD hS hA [0, 1, 2, 3, 4, 5, 6, 7, 8, 9, 10, 11] rfl rfl (by rfl) (rnV (As := [.int p1]) ⟨hx, hb, hml, hown, hts⟩ (c_X6_goes l g aM _ _ _ _ _ _ h15) (cwV 1 hts gX6_ifRun_X6_goes rfl rfl rfl (by decide +kernel) ⟨Nat.le_of_ble_eq_true rfl, Nat.le_of_ble_eq_true rfl⟩) hKW hP hD [0, 1, 2, 3, 4, 5, 6, 7, 8, 9, 10, 11] (by decide) rfl (va_recv hK hP (ci := 6) (q0 := 0) rfl rfl) rfl hl.1 rfl (lv_room (Nat.le_of_ble_eq_true rfl)) dX6_ifRun_34 ⟨Nat.zero_le _, Nat.zero_le _⟩) (fun r17 H locs q18 hP hD hS => ?_)
      obtain ⟨q18, nb19⟩ := q18
      refine lv_as q18.symm ?_
      refine lv_pop hx hb dX6_ifRun_37 rfl ?_
      refine lv_aload_n hx hb dX6_ifRun_38 rfl (lv_at hl 0 rfl) ?_
      refine va_get (D := g.1) (ci := 6) (v := .ref (aM 1)) (C := RX6) (T := TX6) (N := 19) hx hb hts i_X6 hown hK hP 0 rfl rfl 0 (by decide) (hts (.fieldLink RX6 7 "WordFlasherModel" "d" "[I") (List.mem_of_getElem? (i := 1) rfl)) (fun _ h9 => h9) rfl dX6_ifRun_39 ?_
      refine lv_sipush (v := 301) hx hb dX6_ifRun_42 (by decide) ?_
      obtain ⟨h22, v20, e21, hf⟩ := rdA_el hf
      refine va_iald hx hb hK hP 1 0 rfl rfl h22 dX6_ifRun_45 ?_
      refine lv_as e21 ?_
      refine lv_istore_n (lv' := [(2, .int v20), (0, .ref (aM 0)), (1, .int p1)]) hx hb dX6_ifRun_46 rfl hl (by decide) rfl (fun ls hl => ?_)
      refine lv_aload_n hx hb dX6_ifRun_47 rfl (lv_at hl 1 rfl) ?_
      obtain ⟨X23, h24, hf⟩ := bnd_el hf
      refine wr_v (rest := []) (wc := (pM g aM u16.2)) (wc' := (pM g aM X23)) (ws2 := (pM g aM X23)) hP hD hS hA [0, 1, 2, 3, 4, 5, 6, 7, 8, 9, 10, 11] rfl rfl (by rfl) (rnV (As := []) ⟨hx, hb, hml, hown, hts⟩ (c_X6_restores l g aM _ _ _ _ h24) (cwV 0 hts gX6_ifRun_X6_restores rfl rfl rfl (by decide +kernel) ⟨Nat.le_of_ble_eq_true rfl, Nat.le_of_ble_eq_true rfl⟩) hKW hP hD [0, 1, 2, 3, 4, 5, 6, 7, 8, 9, 10, 11] (by decide) rfl (va_recv hK hP (ci := 6) (q0 := 0) rfl rfl) rfl hl.1 rfl (lv_room (Nat.le_of_ble_eq_true rfl)) dX6_ifRun_48 ⟨Nat.zero_le _, Nat.zero_le _⟩) (fun H locs hP hD hS => ?_)
      refine lv_iload_n hx hb dX6_ifRun_51 rfl (lv_at hl 0 rfl) ?_
      refine lv_iconst (v := (-1)) hx hb dX6_ifRun_52 (by decide) ?_
      refine lv_icmp_ne (tgt := 61) hx hb dX6_ifRun_53 (by decide) (fun c25 => ?_) (fun c25 => ?_)
      · have hf := ite_f hf c25
        refine lv_iload_n hx hb dX6_ifRun_61 rfl (lv_at hl 0 rfl) ?_
        have er0 := Option.some.inj hf
        obtain ⟨er0, er1⟩ := Prod.mk.inj er0
        rw [← hQ0]; exact W.iret (v := v20) hx hb hr (fun t ht hW => ⟨⟨v20, (), rfl, ⟨er0, trivial⟩, by dsimp only; rw [ht, ← er1]; exact hP⟩, hS.F ht⟩) hS.2.2 dX6_ifRun_62
      · have hf := ite_t hf c25
        refine lv_bipush (v := (-4)) hx hb dX6_ifRun_56 (by decide) ?_
        refine lv_goto (tgt := 62) hx hb dX6_ifRun_58 (by decide) ?_
        have er0 := Option.some.inj hf
        obtain ⟨er0, er1⟩ := Prod.mk.inj er0
        rw [← hQ0]; exact W.iret (v := (-4)) hx hb hr (fun t ht hW => ⟨⟨(-4), (), rfl, ⟨er0, trivial⟩, by dsimp only; rw [ht, ← er1]; exact hP⟩, hS.F ht⟩) hS.2.2 dX6_ifRun_62
    · have hf := ite_t hf c10
      refine lv_bipush (v := (-2)) hx hb dX6_ifRun_25 (by decide) ?_
      have er0 := Option.some.inj hf
      obtain ⟨er0, er1⟩ := Prod.mk.inj er0
      rw [← hQ0]; exact W.iret (v := (-2)) hx hb hr (fun t ht hW => ⟨⟨(-2), (), rfl, ⟨er0, trivial⟩, by dsimp only; rw [ht, ← er1]; exact hP⟩, hS.F ht⟩) hS.2.2 dX6_ifRun_27
  · have hf := ite_t hf c6
    refine lv_iconst (v := (-1)) hx hb dX6_ifRun_11 (by decide) ?_
    have er0 := Option.some.inj hf
    obtain ⟨er0, er1⟩ := Prod.mk.inj er0
    rw [← hQ0]; exact W.iret (v := (-1)) hx hb hr (fun t ht hW => ⟨⟨(-1), (), rfl, ⟨er0, trivial⟩, by dsimp only; rw [ht, ← er1]; exact hP⟩, hS.F ht⟩) hS.2.2 dX6_ifRun_12
abbrev rmX6_left : Room := { frames := 6, cells := 0, slots := 0, locals := 134 }
set_option maxHeartbeats 8000000 in
set_option maxRecDepth 100000 in
theorem c_X6_left (l : Launch) (g : GG) (aM : Nat → Nat) (sz : Nat) (n : Nat) (XM : DM) (r : Int32) (XMz : DM) (hf : fX6_left n XM = some (r, XMz)) : Met l yX6_left wsX6_left rmX6_left (va_Pc [.ref (aM 0)] (fun U => U.heap.size = sz ∧ va_P g.1 vwCl (pM g aM XM) U.heap ∧ KW g U ∧ va_D (fun _ => True) (pM g aM XM))) (va_Qi (fun r' (_ : Unit) => r' = r ∧ True) (fun (_ : Unit) t => va_P g.1 vwCl (pM g aM XMz) t.heap) (va_A (pM g aM XM) sz)) 0 0 (va_A (pM g aM XM) sz) := by
  refine Met.ofW (cc := cX6_left) (maxL := 2) (ret := (some .int)) (by decide) rfl ?_
  intro p e s m args below meth c s₁ B hml hv
  obtain ⟨hargs, hsz, hP, hKW, hD0⟩ := hv
  have hK := hKW.1
  have hx := B.exec
  have hb := B.bytes
  have hr := B.returns
  have hts := atoms_spec (ws := wsX6_left) B.pre
  have hown : s.vm.findClass RX6 = some m.cls := findClass_of_methodNamed B.named
  have hlocks := B.notSynchronized
  subst hsz
  have hD := hD0.self (sz := s.heap.size)
  generalize hAe : va_A (pM g aM XM) s.heap.size = A at hD ⊢
  have hA : ∀ q : Nat, s.heap.size ≤ q → A q := fun q h => by rw [← hAe]; exact Or.inr h
  have hS : va_S A s.heap s.heap [] := va_S.rf
  have i_X6 : ∀ w ∈ wsX60, w ∈ wsX6_left := fun w h => List.mem_cons_of_mem _ (List.mem_append_right _ h)
  have hent : entryFrame m args 2 = F0 m 0 ((lg_sl ([.ref (aM 0)]) ++ List.replicate (2 - (lg_sl ([.ref (aM 0)])).length) Slot.unset).toArray) [] := by rw [hargs]; exact lg_entry_eq _ _ _
  rw [hent]
  have hl := lv_entry ([.ref (aM 0)]) (n := 2) (Nat.le_of_ble_eq_true rfl)
  generalize (lg_sl ([.ref (aM 0)]) ++ List.replicate (2 - (lg_sl ([.ref (aM 0)])).length) Slot.unset).toArray = ls at hl ⊢
  have hl : lv_has ls 2 [(0, .ref (aM 0))] := hl
  generalize hQ0 : MQ below _ _ _ _ _ _ = Q0
  unfold fX6_left at hf
  refine lv_aload_n hx hb dX6_left_0 rfl (lv_at hl 0 rfl) ?_
  refine va_get (D := g.1) (ci := 6) (v := .ref (aM 1)) (C := RX6) (T := TX6) (N := 19) hx hb hts i_X6 hown hK hP 0 rfl rfl 0 (by decide) (hts (.fieldLink RX6 7 "WordFlasherModel" "d" "[I") (List.mem_of_getElem? (i := 1) rfl)) (fun _ h9 => h9) rfl dX6_left_1 ?_
  refine lv_sipush (v := 301) hx hb dX6_left_4 (by decide) ?_
  obtain ⟨h3, v1, e2, hf⟩ := rdA_el hf
  refine va_iald hx hb hK hP 1 0 rfl rfl h3 dX6_left_7 ?_
  refine lv_as e2 ?_
  refine lv_iconst (v := (-1)) hx hb dX6_left_8 (by decide) ?_
  refine lv_icmp_ne (tgt := 15) hx hb dX6_left_9 (by decide) (fun c4 => ?_) (fun c4 => ?_)
  · have hf := ite_f hf c4
    refine lv_aload_n hx hb dX6_left_15 rfl (lv_at hl 0 rfl) ?_
    obtain ⟨X5, h6, hf⟩ := bnd_el hf
    refine wr_v (rest := []) (wc := (pM g aM XM)) (wc' := (pM g aM X5)) (ws2 := (pM g aM X5)) hP hD hS hA [0, 1, 2, 3, 4, 5, 6, 7, 8, 9, 10, 11] rfl rfl (by rfl) (rnV (As := []) ⟨hx, hb, hml, hown, hts⟩ (c_X6_keeps l g aM _ _ _ _ h6) (cwV 0 hts gX6_left_X6_keeps rfl rfl rfl (by decide +kernel) ⟨Nat.le_of_ble_eq_true rfl, Nat.le_of_ble_eq_true rfl⟩) hKW hP hD [0, 1, 2, 3, 4, 5, 6, 7, 8, 9, 10, 11] (by decide) rfl (va_recv hK hP (ci := 6) (q0 := 0) rfl rfl) rfl hl.1 rfl (lv_room (Nat.le_of_ble_eq_true rfl)) dX6_left_16 ⟨Nat.zero_le _, Nat.zero_le _⟩) (fun H locs hP hD hS => ?_)
    refine lv_iconst (v := 0) hx hb dX6_left_19 (by decide) ?_
    refine lv_istore_n (lv' := [(1, .int 0), (0, .ref (aM 0))]) hx hb dX6_left_20 rfl hl (by decide) rfl (fun ls hl => ?_)
    obtain ⟨j60, ej60, hf⟩ := sl_el hf
    have J_60 : ∀ (x1 : Int32) (XM : DM) (H : Heap) (locs : List Loc) (ls : Array Slot), va_P g.1 vwCl (pM g aM XM) H → va_D A (pM g aM XM) → va_S A s.heap H locs → lv_has ls 2 [(0, .ref (aM 0)), (1, .int x1)] → j60 x1 XM = some (r, XMz) → W p l e (headSpec wsX6_left rmX6_left).room s m args below meth c H locs 0 0 Q0 (F0 m 60 ls []) := by
      intro x1 XM H locs ls hP hD hS hl hf
      rw [ej60] at hf
      refine lv_aload_n hx hb dX6_left_60 rfl (lv_at hl 0 rfl) ?_
      obtain ⟨X7, h8, hf⟩ := bnd_el hf
      refine wr_v (rest := []) (wc := (pM g aM XM)) (wc' := (pM g aM X7)) (ws2 := (pM g aM X7)) hP hD hS hA [0, 1, 2, 3, 4, 5, 6, 7, 8, 9, 10, 11] rfl rfl (by rfl) (rnV (As := []) ⟨hx, hb, hml, hown, hts⟩ (c_X6_restores l g aM _ _ _ _ h8) (cwV 0 hts gX6_left_X6_restores rfl rfl rfl (by decide +kernel) ⟨Nat.le_of_ble_eq_true rfl, Nat.le_of_ble_eq_true rfl⟩) hKW hP hD [0, 1, 2, 3, 4, 5, 6, 7, 8, 9, 10, 11] (by decide) rfl (va_recv hK hP (ci := 6) (q0 := 0) rfl rfl) rfl hl.1 rfl (lv_room (Nat.le_of_ble_eq_true rfl)) dX6_left_61 ⟨Nat.zero_le _, Nat.zero_le _⟩) (fun H locs hP hD hS => ?_)
      refine lv_iload_n hx hb dX6_left_64 rfl (lv_at hl 1 rfl) ?_
      have er0 := Option.some.inj hf
      obtain ⟨er0, er1⟩ := Prod.mk.inj er0
      rw [← hQ0]; exact W.iret (v := x1) hx hb hr (fun t ht hW => ⟨⟨x1, (), rfl, ⟨er0, trivial⟩, by dsimp only; rw [ht, ← er1]; exact hP⟩, hS.F ht⟩) hS.2.2 dX6_left_65
    have L_21 : ∀ fu : Nat, ∀ (x1 : Int32) (XM : DM) (H : Heap) (locs : List Loc) (ls : Array Slot), va_P g.1 vwCl (pM g aM XM) H → va_D A (pM g aM XM) → va_S A s.heap H locs → lv_has ls 2 [(0, .ref (aM 0)), (1, .int x1)] → fX6_left_L21 n j60 fu x1 XM = some (r, XMz) → W p l e (headSpec wsX6_left rmX6_left).room s m args below meth c H locs 0 0 Q0 (F0 m 21 ls []) := by
      intro fu
      induction fu with
      | zero => intros; rename_i hf; rw [fX6_left_L21] at hf; cases hf
      | succ fu ih =>
        intro x1 XM H locs ls hP hD hS hl hf
        rw [fX6_left_L21] at hf
        refine lv_aload_n hx hb dX6_left_21 rfl (lv_at hl 0 rfl) ?_
        refine va_get (D := g.1) (ci := 6) (v := .ref (aM 1)) (C := RX6) (T := TX6) (N := 19) hx hb hts i_X6 hown hK hP 0 rfl rfl 0 (by decide) (hts (.fieldLink RX6 7 "WordFlasherModel" "d" "[I") (List.mem_of_getElem? (i := 1) rfl)) (fun _ h9 => h9) rfl dX6_left_22 ?_
        refine lv_sipush (v := 301) hx hb dX6_left_25 (by decide) ?_
        obtain ⟨h11, v9, e10, hf⟩ := rdA_el hf
        refine va_iald hx hb hK hP 1 0 rfl rfl h11 dX6_left_28 ?_
        refine lv_as e10 ?_
        refine lv_iconst (v := (-1)) hx hb dX6_left_29 (by decide) ?_
        refine lv_icmp_eq (tgt := 60) hx hb dX6_left_30 (by decide) (fun c12 => ?_) (fun c12 => ?_)
        · have hf := ite_t hf c12
          exact J_60 x1 XM _ _ ls hP hD hS (lv_sub hl [0, 1] rfl) hf
        · have hf := ite_f hf c12
          refine lv_iload_n hx hb dX6_left_33 rfl (lv_at hl 1 rfl) ?_
          refine lv_aload_n hx hb dX6_left_34 rfl (lv_at hl 0 rfl) ?_
          refine va_get (D := g.1) (ci := 6) (v := .ref (aM 1)) (C := RX6) (T := TX6) (N := 19) hx hb hts i_X6 hown hK hP 0 rfl rfl 0 (by decide) (hts (.fieldLink RX6 7 "WordFlasherModel" "d" "[I") (List.mem_of_getElem? (i := 1) rfl)) (fun _ h9 => h9) rfl dX6_left_35 ?_
          refine lv_sipush (v := 302) hx hb dX6_left_38 (by decide) ?_
          obtain ⟨h15, v13, e14, hf⟩ := rdA_el hf
          refine va_iald hx hb hK hP 1 0 rfl rfl h15 dX6_left_41 ?_
          refine lv_as e14 ?_
          refine lv_iadd hx hb dX6_left_42 ?_
          obtain ⟨v16, e17, hf⟩ := sl_el hf
          refine lv_as e17 ?_
          refine lv_istore_n (lv' := [(1, .int v16), (0, .ref (aM 0))]) hx hb dX6_left_43 rfl hl (by decide) rfl (fun ls hl => ?_)
          refine lv_aload_n hx hb dX6_left_44 rfl (lv_at hl 1 rfl) ?_
          refine lv_aload_n hx hb dX6_left_45 rfl (lv_at hl 1 rfl) ?_
          refine va_get (D := g.1) (ci := 6) (v := .ref (aM 1)) (C := RX6) (T := TX6) (N := 19) hx hb hts i_X6 hown hK hP 0 rfl rfl 0 (by decide) (hts (.fieldLink RX6 7 "WordFlasherModel" "d" "[I") (List.mem_of_getElem? (i := 1) rfl)) (fun _ h9 => h9) rfl dX6_left_46 ?_
          refine lv_sipush (v := 302) hx hb dX6_left_49 (by decide) ?_
          obtain ⟨h20, v18, e19, hf⟩ := rdA_el hf
          refine va_iald hx hb hK hP 1 0 rfl rfl h20 dX6_left_52 ?_
          refine lv_as e19 ?_
          obtain ⟨u24, h23, hf⟩ := bnd_el hf
          refine wr_i (rest := []) (wc := (pM g aM XM)) (wc' := (pM g aM u24.2)) (ws2 := (pM g aM u24.2)) hP hD hS hA [0, 1, 2, 3, 4, 5, 6, 7, 8, 9, 10, 11] rfl rfl (by rfl) (rnV (As := [.int v18]) ⟨hx, hb, hml, hown, hts⟩ (c_X6_goes l g aM _ _ _ _ _ _ h23) (cwV 1 hts gX6_left_X6_goes rfl rfl rfl (by decide +kernel) ⟨Nat.le_of_ble_eq_true rfl, Nat.le_of_ble_eq_true rfl⟩) hKW hP hD [0, 1, 2, 3, 4, 5, 6, 7, 8, 9, 10, 11] (by decide) rfl (va_recv hK hP (ci := 6) (q0 := 0) rfl rfl) rfl hl.1 rfl (lv_room (Nat.le_of_ble_eq_true rfl)) dX6_left_53 ⟨Nat.zero_le _, Nat.zero_le _⟩) (fun r25 H locs q26 hP hD hS => ?_)
          obtain ⟨q26, nb27⟩ := q26
          refine lv_as q26.symm ?_
          refine lv_pop hx hb dX6_left_56 rfl ?_
          refine lv_goto (tgt := 21) hx hb dX6_left_57 (by decide) ?_
          exact ih v16 u24.2 _ _ ls hP hD hS (lv_sub hl [1, 0] rfl) hf
    exact L_21 n 0 X5 _ _ ls hP hD hS (lv_sub hl [1, 0] rfl) hf
  · have hf := ite_t hf c4
    refine lv_bipush (v := (-2)) hx hb dX6_left_12 (by decide) ?_
    have er0 := Option.some.inj hf
    obtain ⟨er0, er1⟩ := Prod.mk.inj er0
    rw [← hQ0]; exact W.iret (v := (-2)) hx hb hr (fun t ht hW => ⟨⟨(-2), (), rfl, ⟨er0, trivial⟩, by dsimp only; rw [ht, ← er1]; exact hP⟩, hS.F ht⟩) hS.2.2 dX6_left_14
abbrev rmX6_undo : Room := { frames := 5, cells := 0, slots := 0, locals := 109 }
set_option maxHeartbeats 8000000 in
set_option maxRecDepth 100000 in
theorem c_X6_undo (l : Launch) (g : GG) (aM : Nat → Nat) (sz : Nat) (n : Nat) (XM : DM) (r : Int32) (XMz : DM) (hf : fX6_undo n XM = some (r, XMz)) : Met l yX6_undo wsX6_undo rmX6_undo (va_Pc [.ref (aM 0)] (fun U => U.heap.size = sz ∧ va_P g.1 vwCl (pM g aM XM) U.heap ∧ KW g U ∧ va_D (fun _ => True) (pM g aM XM))) (va_Qi (fun r' (_ : Unit) => r' = r ∧ True) (fun (_ : Unit) t => va_P g.1 vwCl (pM g aM XMz) t.heap) (va_A (pM g aM XM) sz)) 0 0 (va_A (pM g aM XM) sz) := by
  refine Met.ofW (cc := cX6_undo) (maxL := 2) (ret := (some .int)) (by decide) rfl ?_
  intro p e s m args below meth c s₁ B hml hv
  obtain ⟨hargs, hsz, hP, hKW, hD0⟩ := hv
  have hK := hKW.1
  have hx := B.exec
  have hb := B.bytes
  have hr := B.returns
  have hts := atoms_spec (ws := wsX6_undo) B.pre
  have hown : s.vm.findClass RX6 = some m.cls := findClass_of_methodNamed B.named
  have hlocks := B.notSynchronized
  subst hsz
  have hD := hD0.self (sz := s.heap.size)
  generalize hAe : va_A (pM g aM XM) s.heap.size = A at hD ⊢
  have hA : ∀ q : Nat, s.heap.size ≤ q → A q := fun q h => by rw [← hAe]; exact Or.inr h
  have hS : va_S A s.heap s.heap [] := va_S.rf
  have i_X6 : ∀ w ∈ wsX60, w ∈ wsX6_undo := fun w h => List.mem_cons_of_mem _ (List.mem_append_right _ h)
  have hent : entryFrame m args 2 = F0 m 0 ((lg_sl ([.ref (aM 0)]) ++ List.replicate (2 - (lg_sl ([.ref (aM 0)])).length) Slot.unset).toArray) [] := by rw [hargs]; exact lg_entry_eq _ _ _
  rw [hent]
  have hl := lv_entry ([.ref (aM 0)]) (n := 2) (Nat.le_of_ble_eq_true rfl)
  generalize (lg_sl ([.ref (aM 0)]) ++ List.replicate (2 - (lg_sl ([.ref (aM 0)])).length) Slot.unset).toArray = ls at hl ⊢
  have hl : lv_has ls 2 [(0, .ref (aM 0))] := hl
  generalize hQ0 : MQ below _ _ _ _ _ _ = Q0
  unfold fX6_undo at hf
  refine lv_aload_n hx hb dX6_undo_0 rfl (lv_at hl 0 rfl) ?_
  refine va_get (D := g.1) (ci := 6) (v := .int (XM 2 0)) (C := RX6) (T := TX6) (N := 19) hx hb hts i_X6 hown hK hP 0 rfl rfl 2 (by decide) (hts (.fieldLink RX6 59 "WordFlasherModel" "states" "I") (List.mem_of_getElem? (i := 1) rfl)) (fun _ h9 => h9) rfl dX6_undo_1 ?_
  refine lv_if_ne (tgt := 10) hx hb dX6_undo_4 (by decide) (fun c1 => ?_) (fun c1 => ?_)
  · have hf := ite_f hf c1
    refine lv_aload_n hx hb dX6_undo_10 rfl (lv_at hl 0 rfl) ?_
    refine lv_dup hx hb dX6_undo_11 rfl ?_
    refine va_get (D := g.1) (ci := 6) (v := .int (XM 2 0)) (C := RX6) (T := TX6) (N := 19) hx hb hts i_X6 hown hK hP 0 rfl rfl 2 (by decide) (hts (.fieldLink RX6 59 "WordFlasherModel" "states" "I") (List.mem_of_getElem? (i := 1) rfl)) (fun _ h9 => h9) rfl dX6_undo_12 ?_
    refine lv_iconst (v := 1) hx hb dX6_undo_15 (by decide) ?_
    refine lv_isub hx hb dX6_undo_16 ?_
    obtain ⟨X2, e3, hf⟩ := sl_el hf
    refine va_put (D := g.1) (ci := 6) (v := .int ((XM 2 0) - 1)) (ty := .int) (C := RX6) (T := TX6) (N := 19) hx hb hts i_X6 tyX6 tyX6_ok nmX6 hown hK hP hD hS 0 rfl rfl 2 (by decide) (hts (.fieldLink RX6 59 "WordFlasherModel" "states" "I") (List.mem_of_getElem? (i := 1) rfl)) (fun _ h9 => h9) rfl (by decide +kernel) rfl rfl (Nat.le_of_ble_eq_true rfl) dX6_undo_17 (fun H locs hP hD hS => ?_)
    have hP : va_P g.1 vwCl (pM g aM X2) H := by subst e3; exact hP
    have hD : va_D A (pM g aM X2) := by subst e3; exact hD
    refine lv_iconst (v := 0) hx hb dX6_undo_20 (by decide) ?_
    refine lv_istore_n (lv' := [(1, .int 0), (0, .ref (aM 0))]) hx hb dX6_undo_21 rfl hl (by decide) rfl (fun ls hl => ?_)
    obtain ⟨j56, ej56, hf⟩ := sl_el hf
    have J_56 : ∀ (XM : DM) (H : Heap) (locs : List Loc) (ls : Array Slot), va_P g.1 vwCl (pM g aM XM) H → va_D A (pM g aM XM) → va_S A s.heap H locs → lv_has ls 2 [(0, .ref (aM 0))] → j56 XM = some (r, XMz) → W p l e (headSpec wsX6_undo rmX6_undo).room s m args below meth c H locs 0 0 Q0 (F0 m 56 ls []) := by
      intro XM H locs ls hP hD hS hl hf
      rw [ej56] at hf
      refine lv_aload_n hx hb dX6_undo_56 rfl (lv_at hl 0 rfl) ?_
      obtain ⟨X4, h5, hf⟩ := bnd_el hf
      refine wr_v (rest := []) (wc := (pM g aM XM)) (wc' := (pM g aM X4)) (ws2 := (pM g aM X4)) hP hD hS hA [0, 1, 2, 3, 4, 5, 6, 7, 8, 9, 10, 11] rfl rfl (by rfl) (rnV (As := []) ⟨hx, hb, hml, hown, hts⟩ (c_X6_parses l g aM _ _ _ _ h5) (cwV 0 hts gX6_undo_X6_parses rfl rfl rfl (by decide +kernel) ⟨Nat.le_of_ble_eq_true rfl, Nat.le_of_ble_eq_true rfl⟩) hKW hP hD [0, 1, 2, 3, 4, 5, 6, 7, 8, 9, 10, 11] (by decide) rfl (va_recv hK hP (ci := 6) (q0 := 0) rfl rfl) rfl hl.1 rfl (lv_room (Nat.le_of_ble_eq_true rfl)) dX6_undo_57 ⟨Nat.zero_le _, Nat.zero_le _⟩) (fun H locs hP hD hS => ?_)
      refine lv_aload_n hx hb dX6_undo_60 rfl (lv_at hl 0 rfl) ?_
      refine va_get (D := g.1) (ci := 6) (v := .int (X4 2 0)) (C := RX6) (T := TX6) (N := 19) hx hb hts i_X6 hown hK hP 0 rfl rfl 2 (by decide) (hts (.fieldLink RX6 59 "WordFlasherModel" "states" "I") (List.mem_of_getElem? (i := 1) rfl)) (fun _ h9 => h9) rfl dX6_undo_61 ?_
      have er0 := Option.some.inj hf
      obtain ⟨er0, er1⟩ := Prod.mk.inj er0
      rw [← hQ0]; exact W.iret (v := (X4 2 0)) hx hb hr (fun t ht hW => ⟨⟨(X4 2 0), (), rfl, ⟨er0, trivial⟩, by dsimp only; rw [ht, ← er1]; exact hP⟩, hS.F ht⟩) hS.2.2 dX6_undo_64
    have L_22 : ∀ fu : Nat, ∀ (x1 : Int32) (XM : DM) (H : Heap) (locs : List Loc) (ls : Array Slot), va_P g.1 vwCl (pM g aM XM) H → va_D A (pM g aM XM) → va_S A s.heap H locs → lv_has ls 2 [(0, .ref (aM 0)), (1, .int x1)] → fX6_undo_L22 n j56 fu x1 XM = some (r, XMz) → W p l e (headSpec wsX6_undo rmX6_undo).room s m args below meth c H locs 0 0 Q0 (F0 m 22 ls []) := by
      intro fu
      induction fu with
      | zero => intros; rename_i hf; rw [fX6_undo_L22] at hf; cases hf
      | succ fu ih =>
        intro x1 XM H locs ls hP hD hS hl hf
        rw [fX6_undo_L22] at hf
        refine lv_iload_n hx hb dX6_undo_22 rfl (lv_at hl 1 rfl) ?_
        refine lv_sipush (v := 348) hx hb dX6_undo_23 (by decide) ?_
        refine lv_icmp_ge (tgt := 56) hx hb dX6_undo_26 (by decide) (fun c6 => ?_) (fun c6 => ?_)
        · have hf := ite_t hf c6
          exact J_56 XM _ _ ls hP hD hS (lv_sub hl [0] rfl) hf
        · have hf := ite_f hf c6
          refine lv_aload_n hx hb dX6_undo_29 rfl (lv_at hl 0 rfl) ?_
          refine va_get (D := g.1) (ci := 6) (v := .ref (aM 1)) (C := RX6) (T := TX6) (N := 19) hx hb hts i_X6 hown hK hP 0 rfl rfl 0 (by decide) (hts (.fieldLink RX6 7 "WordFlasherModel" "d" "[I") (List.mem_of_getElem? (i := 2) rfl)) (fun _ h9 => h9) rfl dX6_undo_30 ?_
          refine lv_iload_n hx hb dX6_undo_33 rfl (lv_at hl 1 rfl) ?_
          refine lv_aload_n hx hb dX6_undo_34 rfl (lv_at hl 0 rfl) ?_
          refine va_get (D := g.1) (ci := 6) (v := .ref (aM 2)) (C := RX6) (T := TX6) (N := 19) hx hb hts i_X6 hown hK hP 0 rfl rfl 1 (by decide) (hts (.fieldLink RX6 13 "WordFlasherModel" "was" "[I") (List.mem_of_getElem? (i := 3) rfl)) (fun _ h9 => h9) rfl dX6_undo_35 ?_
          refine lv_sipush (v := 348) hx hb dX6_undo_38 (by decide) ?_
          refine lv_aload_n hx hb dX6_undo_41 rfl (lv_at hl 0 rfl) ?_
          refine va_get (D := g.1) (ci := 6) (v := .int (XM 2 0)) (C := RX6) (T := TX6) (N := 19) hx hb hts i_X6 hown hK hP 0 rfl rfl 2 (by decide) (hts (.fieldLink RX6 59 "WordFlasherModel" "states" "I") (List.mem_of_getElem? (i := 1) rfl)) (fun _ h9 => h9) rfl dX6_undo_42 ?_
          refine lv_imul hx hb dX6_undo_45 ?_
          refine lv_iload_n hx hb dX6_undo_46 rfl (lv_at hl 1 rfl) ?_
          refine lv_iadd hx hb dX6_undo_47 ?_
          obtain ⟨h9, v7, e8, hf⟩ := rdA_el hf
          refine va_iald hx hb hK hP 2 0 rfl rfl h9 dX6_undo_48 ?_
          refine lv_as e8 ?_
          obtain ⟨h12, f10, e11, hf⟩ := wrA_el hf
          obtain ⟨X13, e14, hf⟩ := sl_el hf
          refine va_iast hx hb hK hP hD hS 1 0 rfl rfl h12 dX6_undo_49 (fun H locs hP hD hS => ?_)
          have hP : va_P g.1 vwCl (pM g aM X13) H := by subst e14; subst e11; exact hP
          have hD : va_D A (pM g aM X13) := by subst e14; subst e11; exact hD
          obtain ⟨v15, e16, hf⟩ := sl_el hf
          refine lv_iinc (v := v15) (lv' := [(1, .int v15), (0, .ref (aM 0))]) hx hb dX6_undo_50 hl (k := 1) rfl (by rw [e16]; rfl) (by decide) rfl (fun ls hl => ?_)
          refine lv_goto (tgt := 22) hx hb dX6_undo_53 (by decide) ?_
          exact ih v15 X13 _ _ ls hP hD hS (lv_sub hl [1, 0] rfl) hf
    exact L_22 n 0 X2 _ _ ls hP hD hS (lv_sub hl [1, 0] rfl) hf
  · have hf := ite_t hf c1
    refine lv_bipush (v := (-2)) hx hb dX6_undo_7 (by decide) ?_
    have er0 := Option.some.inj hf
    obtain ⟨er0, er1⟩ := Prod.mk.inj er0
    rw [← hQ0]; exact W.iret (v := (-2)) hx hb hr (fun t ht hW => ⟨⟨(-2), (), rfl, ⟨er0, trivial⟩, by dsimp only; rw [ht, ← er1]; exact hP⟩, hS.F ht⟩) hS.2.2 dX6_undo_9
abbrev rmX6_canNote : Room := { frames := 1, cells := 0, slots := 0, locals := 22 }
set_option maxHeartbeats 8000000 in
set_option maxRecDepth 100000 in
theorem c_X6_canNote (l : Launch) (g : GG) (aM : Nat → Nat) (n : Nat) (XM : DM) (p1 : Int32) (r : Int32) (hf : fX6_canNote n XM p1 = some r) : Met l yX6_canNote wsX6_canNote rmX6_canNote (va_Pc [.ref (aM 0), .int p1] (fun U => va_P g.1 vwCl (pM g aM XM) U.heap ∧ KW g U)) (vp_Si (fun r' => r' = r ∧ narrow .boolean (.int r') = .int r')) 0 0 (fun _ => False) := by
  refine Met.ofW (cc := cX6_canNote) (maxL := 2) (ret := (some .boolean)) (by decide) rfl ?_
  intro p e s m args below meth c s₁ B hml hv
  obtain ⟨hargs, hP, hKW⟩ := hv
  have hK := hKW.1
  have hx := B.exec
  have hb := B.bytes
  have hr := B.returns
  have hts := atoms_spec (ws := wsX6_canNote) B.pre
  have hown : s.vm.findClass RX6 = some m.cls := findClass_of_methodNamed B.named
  have hlocks := B.notSynchronized
  have i_X6 : ∀ w ∈ wsX60, w ∈ wsX6_canNote := fun w h => List.mem_cons_of_mem _ (List.mem_append_right _ h)
  have hent : entryFrame m args 2 = F0 m 0 ((lg_sl ([.ref (aM 0), .int p1]) ++ List.replicate (2 - (lg_sl ([.ref (aM 0), .int p1])).length) Slot.unset).toArray) [] := by rw [hargs]; exact lg_entry_eq _ _ _
  rw [hent]
  have hl := lv_entry ([.ref (aM 0), .int p1]) (n := 2) (Nat.le_of_ble_eq_true rfl)
  generalize (lg_sl ([.ref (aM 0), .int p1]) ++ List.replicate (2 - (lg_sl ([.ref (aM 0), .int p1])).length) Slot.unset).toArray = ls at hl ⊢
  have hl : lv_has ls 2 [(0, .ref (aM 0)), (1, .int p1)] := hl
  generalize hQ0 : MQ below _ _ _ _ _ _ = Q0
  unfold fX6_canNote at hf
  refine lv_aload_n hx hb dX6_canNote_0 rfl (lv_at hl 0 rfl) ?_
  refine lv_iload_n hx hb dX6_canNote_1 rfl (lv_at hl 1 rfl) ?_
  obtain ⟨r1, h2, hf⟩ := bnd_el hf
  refine rdV (As := [.int p1]) (rest := []) ⟨hx, hb, hml, hown, hts⟩ (c_X6_isShown l g aM _ _ _ h2) (cwV 1 hts gX6_canNote_X6_isShown rfl rfl rfl (by decide +kernel) ⟨Nat.le_of_ble_eq_true rfl, Nat.le_of_ble_eq_true rfl⟩) hKW hP [0, 1, 2, 3, 4, 5, 6, 7, 8, 9, 10, 11] rfl (va_recv hK hP (ci := 6) (q0 := 0) rfl rfl) rfl hl.1 rfl (lv_room (Nat.le_of_ble_eq_true rfl)) dX6_canNote_2 ⟨Nat.zero_le _, Nat.zero_le _⟩ (fun r3 q4 => ?_)
  obtain ⟨q4, nb5⟩ := q4
  refine lv_as q4.symm ?_
  rw [q4] at nb5
  refine lv_if_eq (tgt := 34) hx hb dX6_canNote_5 (by decide) (fun c6 => ?_) (fun c6 => ?_)
  · have hf := ite_t hf c6
    refine lv_iconst (v := 0) hx hb dX6_canNote_34 (by decide) ?_
    have er0 := Option.some.inj hf
    rw [← hQ0]; exact W.zret (v := 0) hx hb hr rfl (fun t ht hW => ⟨0, rfl, ⟨er0, rfl⟩, ht⟩) (fun q h => by cases h) dX6_canNote_35
  · have hf := ite_f hf c6
    refine lv_aload_n hx hb dX6_canNote_8 rfl (lv_at hl 0 rfl) ?_
    refine lv_iload_n hx hb dX6_canNote_9 rfl (lv_at hl 1 rfl) ?_
    obtain ⟨r7, h8, hf⟩ := bnd_el hf
    refine rdV (As := [.int p1]) (rest := []) ⟨hx, hb, hml, hown, hts⟩ (c_X6_noteOf l g aM _ _ _ _ h8) (cwV 1 hts gX6_canNote_X6_noteOf rfl rfl rfl (by decide +kernel) ⟨Nat.le_of_ble_eq_true rfl, Nat.le_of_ble_eq_true rfl⟩) hKW hP [0, 1, 2, 3, 4, 5, 6, 7, 8, 9, 10, 11] rfl (va_recv hK hP (ci := 6) (q0 := 0) rfl rfl) rfl hl.1 rfl (lv_room (Nat.le_of_ble_eq_true rfl)) dX6_canNote_10 ⟨Nat.zero_le _, Nat.zero_le _⟩ (fun r9 q10 => ?_)
    obtain ⟨q10, nb11⟩ := q10
    refine lv_as q10.symm ?_
    refine lv_iconst (v := (-1)) hx hb dX6_canNote_13 (by decide) ?_
    refine lv_icmp_ne (tgt := 30) hx hb dX6_canNote_14 (by decide) (fun c12 => ?_) (fun c12 => ?_)
    · have hf := ite_f hf c12
      refine lv_iconst (v := 1) hx hb dX6_canNote_30 (by decide) ?_
      refine lv_goto (tgt := 35) hx hb dX6_canNote_31 (by decide) ?_
      have er0 := Option.some.inj hf
      rw [← hQ0]; exact W.zret (v := 1) hx hb hr rfl (fun t ht hW => ⟨1, rfl, ⟨er0, rfl⟩, ht⟩) (fun q h => by cases h) dX6_canNote_35
    · have hf := ite_t hf c12
      refine lv_aload_n hx hb dX6_canNote_17 rfl (lv_at hl 0 rfl) ?_
      refine va_get (D := g.1) (ci := 6) (v := .ref (aM 1)) (C := RX6) (T := TX6) (N := 19) hx hb hts i_X6 hown hK hP 0 rfl rfl 0 (by decide) (hts (.fieldLink RX6 7 "WordFlasherModel" "d" "[I") (List.mem_of_getElem? (i := 1) rfl)) (fun _ h9 => h9) rfl dX6_canNote_18 ?_
      refine lv_sipush (v := 309) hx hb dX6_canNote_21 (by decide) ?_
      obtain ⟨h15, v13, e14, hf⟩ := rdA_el hf
      refine va_iald hx hb hK hP 1 0 rfl rfl h15 dX6_canNote_24 ?_
      refine lv_as e14 ?_
      refine lv_bipush (v := 10) hx hb dX6_canNote_25 (by decide) ?_
      refine lv_icmp_ge (tgt := 34) hx hb dX6_canNote_27 (by decide) (fun c16 => ?_) (fun c16 => ?_)
      · have hf := ite_t hf c16
        refine lv_iconst (v := 0) hx hb dX6_canNote_34 (by decide) ?_
        have er0 := Option.some.inj hf
        rw [← hQ0]; exact W.zret (v := 0) hx hb hr rfl (fun t ht hW => ⟨0, rfl, ⟨er0, rfl⟩, ht⟩) (fun q h => by cases h) dX6_canNote_35
      · have hf := ite_f hf c16
        refine lv_iconst (v := 1) hx hb dX6_canNote_30 (by decide) ?_
        refine lv_goto (tgt := 35) hx hb dX6_canNote_31 (by decide) ?_
        have er0 := Option.some.inj hf
        rw [← hQ0]; exact W.zret (v := 1) hx hb hr rfl (fun t ht hW => ⟨1, rfl, ⟨er0, rfl⟩, ht⟩) (fun q h => by cases h) dX6_canNote_35
abbrev rmX6_notes : Room := { frames := 1, cells := 0, slots := 0, locals := 22 }
set_option maxHeartbeats 8000000 in
set_option maxRecDepth 100000 in
theorem c_X6_notes (l : Launch) (g : GG) (aM : Nat → Nat) (sz : Nat) (n : Nat) (XM : DM) (p1 p2 : Int32) (XMz : DM) (hf : fX6_notes n XM p1 p2 = some XMz) : Met l yX6_notes wsX6_notes rmX6_notes (va_Pc [.ref (aM 0), .int p1, .int p2] (fun U => U.heap.size = sz ∧ va_P g.1 vwCl (pM g aM XM) U.heap ∧ KW g U ∧ va_D (fun _ => True) (pM g aM XM))) (va_Qv (fun (_ : Unit) => True) (fun (_ : Unit) t => va_P g.1 vwCl (pM g aM XMz) t.heap) (va_A (pM g aM XM) sz)) 0 0 (va_A (pM g aM XM) sz) := by
  refine Met.ofW (cc := cX6_notes) (maxL := 4) (ret := none) (by decide) rfl ?_
  intro p e s m args below meth c s₁ B hml hv
  obtain ⟨hargs, hsz, hP, hKW, hD0⟩ := hv
  have hK := hKW.1
  have hx := B.exec
  have hb := B.bytes
  have hr := B.returns
  have hts := atoms_spec (ws := wsX6_notes) B.pre
  have hown : s.vm.findClass RX6 = some m.cls := findClass_of_methodNamed B.named
  have hlocks := B.notSynchronized
  subst hsz
  have hD := hD0.self (sz := s.heap.size)
  generalize hAe : va_A (pM g aM XM) s.heap.size = A at hD ⊢
  have hA : ∀ q : Nat, s.heap.size ≤ q → A q := fun q h => by rw [← hAe]; exact Or.inr h
  have hS : va_S A s.heap s.heap [] := va_S.rf
  have i_X6 : ∀ w ∈ wsX60, w ∈ wsX6_notes := fun w h => List.mem_cons_of_mem _ (List.mem_append_right _ h)
  have hent : entryFrame m args 4 = F0 m 0 ((lg_sl ([.ref (aM 0), .int p1, .int p2]) ++ List.replicate (4 - (lg_sl ([.ref (aM 0), .int p1, .int p2])).length) Slot.unset).toArray) [] := by rw [hargs]; exact lg_entry_eq _ _ _
  rw [hent]
  have hl := lv_entry ([.ref (aM 0), .int p1, .int p2]) (n := 4) (Nat.le_of_ble_eq_true rfl)
  generalize (lg_sl ([.ref (aM 0), .int p1, .int p2]) ++ List.replicate (4 - (lg_sl ([.ref (aM 0), .int p1, .int p2])).length) Slot.unset).toArray = ls at hl ⊢
  have hl : lv_has ls 4 [(0, .ref (aM 0)), (1, .int p1), (2, .int p2)] := hl
  generalize hQ0 : MQ below _ _ _ _ _ _ = Q0
  unfold fX6_notes at hf
  refine lv_aload_n hx hb dX6_notes_0 rfl (lv_at hl 0 rfl) ?_
  refine lv_iload_n hx hb dX6_notes_1 rfl (lv_at hl 1 rfl) ?_
  obtain ⟨r1, h2, hf⟩ := bnd_el hf
  refine rdV (As := [.int p1]) (rest := []) ⟨hx, hb, hml, hown, hts⟩ (c_X6_noteOf l g aM _ _ _ _ h2) (cwV 1 hts gX6_notes_X6_noteOf rfl rfl rfl (by decide +kernel) ⟨Nat.le_of_ble_eq_true rfl, Nat.le_of_ble_eq_true rfl⟩) hKW hP [0, 1, 2, 3, 4, 5, 6, 7, 8, 9, 10, 11] rfl (va_recv hK hP (ci := 6) (q0 := 0) rfl rfl) rfl hl.1 rfl (lv_room (Nat.le_of_ble_eq_true rfl)) dX6_notes_2 ⟨Nat.zero_le _, Nat.zero_le _⟩ (fun r3 q4 => ?_)
  obtain ⟨q4, nb5⟩ := q4
  refine lv_as q4.symm ?_
  refine lv_istore_n (lv' := [(3, .int r1), (0, .ref (aM 0)), (1, .int p1), (2, .int p2)]) hx hb dX6_notes_5 rfl hl (by decide) rfl (fun ls hl => ?_)
  refine lv_iload_n hx hb dX6_notes_6 rfl (lv_at hl 0 rfl) ?_
  refine lv_iconst (v := (-1)) hx hb dX6_notes_7 (by decide) ?_
  obtain ⟨j32, ej32, hf⟩ := sl_el hf
  have J_32 : ∀ (x1 x2 x3 : Int32) (XM : DM) (H : Heap) (locs : List Loc) (ls : Array Slot), va_P g.1 vwCl (pM g aM XM) H → va_D A (pM g aM XM) → va_S A s.heap H locs → lv_has ls 4 [(0, .ref (aM 0)), (1, .int x1), (2, .int x2), (3, .int x3)] → j32 x1 x2 x3 XM = some XMz → W p l e (headSpec wsX6_notes rmX6_notes).room s m args below meth c H locs 0 0 Q0 (F0 m 32 ls []) := by
    intro x1 x2 x3 XM H locs ls hP hD hS hl hf
    rw [ej32] at hf
    refine lv_aload_n hx hb dX6_notes_32 rfl (lv_at hl 0 rfl) ?_
    refine va_get (D := g.1) (ci := 6) (v := .ref (aM 1)) (C := RX6) (T := TX6) (N := 19) hx hb hts i_X6 hown hK hP 0 rfl rfl 0 (by decide) (hts (.fieldLink RX6 7 "WordFlasherModel" "d" "[I") (List.mem_of_getElem? (i := 1) rfl)) (fun _ h9 => h9) rfl dX6_notes_33 ?_
    refine lv_sipush (v := 310) hx hb dX6_notes_36 (by decide) ?_
    refine lv_iload_n hx hb dX6_notes_39 rfl (lv_at hl 3 rfl) ?_
    refine lv_iadd hx hb dX6_notes_40 ?_
    refine lv_iload_n hx hb dX6_notes_41 rfl (lv_at hl 1 rfl) ?_
    obtain ⟨h8, f6, e7, hf⟩ := wrA_el hf
    obtain ⟨X9, e10, hf⟩ := sl_el hf
    refine va_iast hx hb hK hP hD hS 1 0 rfl rfl h8 dX6_notes_42 (fun H locs hP hD hS => ?_)
    have hP : va_P g.1 vwCl (pM g aM X9) H := by subst e10; subst e7; exact hP
    have hD : va_D A (pM g aM X9) := by subst e10; subst e7; exact hD
    refine lv_aload_n hx hb dX6_notes_43 rfl (lv_at hl 0 rfl) ?_
    refine va_get (D := g.1) (ci := 6) (v := .ref (aM 1)) (C := RX6) (T := TX6) (N := 19) hx hb hts i_X6 hown hK hP 0 rfl rfl 0 (by decide) (hts (.fieldLink RX6 7 "WordFlasherModel" "d" "[I") (List.mem_of_getElem? (i := 1) rfl)) (fun _ h9 => h9) rfl dX6_notes_44 ?_
    refine lv_sipush (v := 320) hx hb dX6_notes_47 (by decide) ?_
    refine lv_iload_n hx hb dX6_notes_50 rfl (lv_at hl 3 rfl) ?_
    refine lv_iadd hx hb dX6_notes_51 ?_
    refine lv_iload_n hx hb dX6_notes_52 rfl (lv_at hl 2 rfl) ?_
    obtain ⟨h13, f11, e12, hf⟩ := wrA_el hf
    obtain ⟨X14, e15, hf⟩ := sl_el hf
    refine va_iast hx hb hK hP hD hS 1 0 rfl rfl h13 dX6_notes_53 (fun H locs hP hD hS => ?_)
    have hP : va_P g.1 vwCl (pM g aM X14) H := by subst e15; subst e12; exact hP
    have hD : va_D A (pM g aM X14) := by subst e15; subst e12; exact hD
    have er0 := Option.some.inj hf
    rw [← hQ0]; exact W.vret hx hb hr (fun t ht hW => ⟨⟨(), rfl, trivial, by dsimp only; rw [ht, ← er0]; exact hP⟩, hS.F ht⟩) hS.2.2 dX6_notes_54
  refine lv_icmp_ne (tgt := 32) hx hb dX6_notes_8 (by decide) (fun c16 => ?_) (fun c16 => ?_)
  · have hf := ite_f hf c16
    exact J_32 p1 p2 r1 XM _ _ ls hP hD hS (lv_sub hl [1, 2, 3, 0] rfl) hf
  · have hf := ite_t hf c16
    refine lv_aload_n hx hb dX6_notes_11 rfl (lv_at hl 1 rfl) ?_
    refine va_get (D := g.1) (ci := 6) (v := .ref (aM 1)) (C := RX6) (T := TX6) (N := 19) hx hb hts i_X6 hown hK hP 0 rfl rfl 0 (by decide) (hts (.fieldLink RX6 7 "WordFlasherModel" "d" "[I") (List.mem_of_getElem? (i := 1) rfl)) (fun _ h9 => h9) rfl dX6_notes_12 ?_
    refine lv_sipush (v := 309) hx hb dX6_notes_15 (by decide) ?_
    obtain ⟨h19, v17, e18, hf⟩ := rdA_el hf
    refine va_iald hx hb hK hP 1 0 rfl rfl h19 dX6_notes_18 ?_
    refine lv_as e18 ?_
    refine lv_istore_n (lv' := [(3, .int v17), (0, .ref (aM 0)), (1, .int p1), (2, .int p2)]) hx hb dX6_notes_19 rfl hl (by decide) rfl (fun ls hl => ?_)
    refine lv_aload_n hx hb dX6_notes_20 rfl (lv_at hl 1 rfl) ?_
    refine va_get (D := g.1) (ci := 6) (v := .ref (aM 1)) (C := RX6) (T := TX6) (N := 19) hx hb hts i_X6 hown hK hP 0 rfl rfl 0 (by decide) (hts (.fieldLink RX6 7 "WordFlasherModel" "d" "[I") (List.mem_of_getElem? (i := 1) rfl)) (fun _ h9 => h9) rfl dX6_notes_21 ?_
    refine lv_sipush (v := 309) hx hb dX6_notes_24 (by decide) ?_
    refine lv_dup2_11 hx hb dX6_notes_27 rfl rfl ?_
    obtain ⟨h22, v20, e21, hf⟩ := rdA_el hf
    refine va_iald hx hb hK hP 1 0 rfl rfl h22 dX6_notes_28 ?_
    refine lv_as e21 ?_
    refine lv_iconst (v := 1) hx hb dX6_notes_29 (by decide) ?_
    refine lv_iadd hx hb dX6_notes_30 ?_
    obtain ⟨h25, f23, e24, hf⟩ := wrA_el hf
    obtain ⟨X26, e27, hf⟩ := sl_el hf
    refine va_iast hx hb hK hP hD hS 1 0 rfl rfl h25 dX6_notes_31 (fun H locs hP hD hS => ?_)
    have hP : va_P g.1 vwCl (pM g aM X26) H := by subst e27; subst e24; exact hP
    have hD : va_D A (pM g aM X26) := by subst e27; subst e24; exact hD
    exact J_32 p1 p2 v17 X26 _ _ ls hP hD hS (lv_sub hl [1, 2, 3, 0] rfl) hf
abbrev rmX6_note : Room := { frames := 2, cells := 0, slots := 0, locals := 45 }
set_option maxHeartbeats 8000000 in
set_option maxRecDepth 100000 in
theorem c_X6_note (l : Launch) (g : GG) (aM : Nat → Nat) (sz : Nat) (n : Nat) (XM : DM) (p1 p2 : Int32) (r : Int32) (XMz : DM) (hf : fX6_note n XM p1 p2 = some (r, XMz)) : Met l yX6_note wsX6_note rmX6_note (va_Pc [.ref (aM 0), .int p1, .int p2] (fun U => U.heap.size = sz ∧ va_P g.1 vwCl (pM g aM XM) U.heap ∧ KW g U ∧ va_D (fun _ => True) (pM g aM XM))) (va_Qi (fun r' (_ : Unit) => r' = r ∧ True) (fun (_ : Unit) t => va_P g.1 vwCl (pM g aM XMz) t.heap) (va_A (pM g aM XM) sz)) 0 0 (va_A (pM g aM XM) sz) := by
  refine Met.ofW (cc := cX6_note) (maxL := 3) (ret := (some .int)) (by decide) rfl ?_
  intro p e s m args below meth c s₁ B hml hv
  obtain ⟨hargs, hsz, hP, hKW, hD0⟩ := hv
  have hK := hKW.1
  have hx := B.exec
  have hb := B.bytes
  have hr := B.returns
  have hts := atoms_spec (ws := wsX6_note) B.pre
  have hown : s.vm.findClass RX6 = some m.cls := findClass_of_methodNamed B.named
  have hlocks := B.notSynchronized
  subst hsz
  have hD := hD0.self (sz := s.heap.size)
  generalize hAe : va_A (pM g aM XM) s.heap.size = A at hD ⊢
  have hA : ∀ q : Nat, s.heap.size ≤ q → A q := fun q h => by rw [← hAe]; exact Or.inr h
  have hS : va_S A s.heap s.heap [] := va_S.rf
  have i_X6 : ∀ w ∈ wsX60, w ∈ wsX6_note := fun w h => List.mem_cons_of_mem _ (List.mem_append_right _ h)
  have hent : entryFrame m args 3 = F0 m 0 ((lg_sl ([.ref (aM 0), .int p1, .int p2]) ++ List.replicate (3 - (lg_sl ([.ref (aM 0), .int p1, .int p2])).length) Slot.unset).toArray) [] := by rw [hargs]; exact lg_entry_eq _ _ _
  rw [hent]
  have hl := lv_entry ([.ref (aM 0), .int p1, .int p2]) (n := 3) (Nat.le_of_ble_eq_true rfl)
  generalize (lg_sl ([.ref (aM 0), .int p1, .int p2]) ++ List.replicate (3 - (lg_sl ([.ref (aM 0), .int p1, .int p2])).length) Slot.unset).toArray = ls at hl ⊢
  have hl : lv_has ls 3 [(0, .ref (aM 0)), (1, .int p1), (2, .int p2)] := hl
  generalize hQ0 : MQ below _ _ _ _ _ _ = Q0
  unfold fX6_note at hf
  refine lv_aload_n hx hb dX6_note_0 rfl (lv_at hl 0 rfl) ?_
  refine lv_iload_n hx hb dX6_note_1 rfl (lv_at hl 1 rfl) ?_
  obtain ⟨r1, h2, hf⟩ := bnd_el hf
  refine rdV (As := [.int p1]) (rest := []) ⟨hx, hb, hml, hown, hts⟩ (c_X6_isWord l g aM _ _ _ h2) (cwV 1 hts gX6_note_X6_isWord rfl rfl rfl (by decide +kernel) ⟨Nat.le_of_ble_eq_true rfl, Nat.le_of_ble_eq_true rfl⟩) hKW hP [0, 1, 2, 3, 4, 5, 6, 7, 8, 9, 10, 11] rfl (va_recv hK hP (ci := 6) (q0 := 0) rfl rfl) rfl hl.1 rfl (lv_room (Nat.le_of_ble_eq_true rfl)) dX6_note_2 ⟨Nat.zero_le _, Nat.zero_le _⟩ (fun r3 q4 => ?_)
  obtain ⟨q4, nb5⟩ := q4
  refine lv_as q4.symm ?_
  rw [q4] at nb5
  refine lv_if_eq (tgt := 18) hx hb dX6_note_5 (by decide) (fun c6 => ?_) (fun c6 => ?_)
  · have hf := ite_t hf c6
    refine lv_iconst (v := (-1)) hx hb dX6_note_18 (by decide) ?_
    have er0 := Option.some.inj hf
    obtain ⟨er0, er1⟩ := Prod.mk.inj er0
    rw [← hQ0]; exact W.iret (v := (-1)) hx hb hr (fun t ht hW => ⟨⟨(-1), (), rfl, ⟨er0, trivial⟩, by dsimp only; rw [ht, ← er1]; exact hP⟩, hS.F ht⟩) hS.2.2 dX6_note_19
  · have hf := ite_f hf c6
    refine lv_iload_n hx hb dX6_note_8 rfl (lv_at hl 2 rfl) ?_
    refine lv_iconst (v := 1) hx hb dX6_note_9 (by decide) ?_
    refine lv_bipush (v := 99) hx hb dX6_note_10 (by decide) ?_
    obtain ⟨r7, h8, hf⟩ := bnd_el hf
    refine rdS (As := [.int p2, .int 1, .int 99]) (rest := []) ⟨hx, hb, hml, hown, hts⟩ (c_X6_in l g _ _ _ _ h8) (va_cwS 3 hts gX6_note_X6_in rfl rfl rfl (by decide +kernel) ⟨Nat.le_of_ble_eq_true rfl, Nat.le_of_ble_eq_true rfl⟩) hKW hP [] rfl rfl hl.1 rfl (lv_room (Nat.le_of_ble_eq_true rfl)) dX6_note_12 ⟨Nat.zero_le _, Nat.zero_le _⟩ (fun r9 q10 => ?_)
    obtain ⟨q10, nb11⟩ := q10
    refine lv_as q10.symm ?_
    rw [q10] at nb11
    refine lv_if_ne (tgt := 20) hx hb dX6_note_15 (by decide) (fun c12 => ?_) (fun c12 => ?_)
    · have hf := ite_f hf c12
      refine lv_aload_n hx hb dX6_note_20 rfl (lv_at hl 0 rfl) ?_
      refine lv_iload_n hx hb dX6_note_21 rfl (lv_at hl 1 rfl) ?_
      obtain ⟨r13, h14, hf⟩ := bnd_el hf
      refine rdV (As := [.int p1]) (rest := []) ⟨hx, hb, hml, hown, hts⟩ (c_X6_canNote l g aM _ _ _ _ h14) (cwV 1 hts gX6_note_X6_canNote rfl rfl rfl (by decide +kernel) ⟨Nat.le_of_ble_eq_true rfl, Nat.le_of_ble_eq_true rfl⟩) hKW hP [0, 1, 2, 3, 4, 5, 6, 7, 8, 9, 10, 11] rfl (va_recv hK hP (ci := 6) (q0 := 0) rfl rfl) rfl hl.1 rfl (lv_room (Nat.le_of_ble_eq_true rfl)) dX6_note_22 ⟨Nat.zero_le _, Nat.zero_le _⟩ (fun r15 q16 => ?_)
      obtain ⟨q16, nb17⟩ := q16
      refine lv_as q16.symm ?_
      rw [q16] at nb17
      refine lv_if_ne (tgt := 44) hx hb dX6_note_25 (by decide) (fun c18 => ?_) (fun c18 => ?_)
      · have hf := ite_f hf c18
        refine lv_aload_n hx hb dX6_note_44 rfl (lv_at hl 0 rfl) ?_
        obtain ⟨X19, h20, hf⟩ := bnd_el hf
        refine wr_v (rest := []) (wc := (pM g aM XM)) (wc' := (pM g aM X19)) (ws2 := (pM g aM X19)) hP hD hS hA [0, 1, 2, 3, 4, 5, 6, 7, 8, 9, 10, 11] rfl rfl (by rfl) (rnV (As := []) ⟨hx, hb, hml, hown, hts⟩ (c_X6_records l g aM _ _ _ _ h20) (cwV 0 hts gX6_note_X6_records rfl rfl rfl (by decide +kernel) ⟨Nat.le_of_ble_eq_true rfl, Nat.le_of_ble_eq_true rfl⟩) hKW hP hD [0, 1, 2, 3, 4, 5, 6, 7, 8, 9, 10, 11] (by decide) rfl (va_recv hK hP (ci := 6) (q0 := 0) rfl rfl) rfl hl.1 rfl (lv_room (Nat.le_of_ble_eq_true rfl)) dX6_note_45 ⟨Nat.zero_le _, Nat.zero_le _⟩) (fun H locs hP hD hS => ?_)
        refine lv_aload_n hx hb dX6_note_48 rfl (lv_at hl 0 rfl) ?_
        refine lv_iload_n hx hb dX6_note_49 rfl (lv_at hl 1 rfl) ?_
        refine lv_iload_n hx hb dX6_note_50 rfl (lv_at hl 2 rfl) ?_
        obtain ⟨X21, h22, hf⟩ := bnd_el hf
        refine wr_v (rest := []) (wc := (pM g aM X19)) (wc' := (pM g aM X21)) (ws2 := (pM g aM X21)) hP hD hS hA [0, 1, 2, 3, 4, 5, 6, 7, 8, 9, 10, 11] rfl rfl (by rfl) (rnV (As := [.int p1, .int p2]) ⟨hx, hb, hml, hown, hts⟩ (c_X6_notes l g aM _ _ _ _ _ _ h22) (cwV 2 hts gX6_note_X6_notes rfl rfl rfl (by decide +kernel) ⟨Nat.le_of_ble_eq_true rfl, Nat.le_of_ble_eq_true rfl⟩) hKW hP hD [0, 1, 2, 3, 4, 5, 6, 7, 8, 9, 10, 11] (by decide) rfl (va_recv hK hP (ci := 6) (q0 := 0) rfl rfl) rfl hl.1 rfl (lv_room (Nat.le_of_ble_eq_true rfl)) dX6_note_51 ⟨Nat.zero_le _, Nat.zero_le _⟩) (fun H locs hP hD hS => ?_)
        refine lv_aload_n hx hb dX6_note_54 rfl (lv_at hl 0 rfl) ?_
        refine va_get (D := g.1) (ci := 6) (v := .ref (aM 1)) (C := RX6) (T := TX6) (N := 19) hx hb hts i_X6 hown hK hP 0 rfl rfl 0 (by decide) (hts (.fieldLink RX6 7 "WordFlasherModel" "d" "[I") (List.mem_of_getElem? (i := 1) rfl)) (fun _ h9 => h9) rfl dX6_note_55 ?_
        refine lv_sipush (v := 309) hx hb dX6_note_58 (by decide) ?_
        obtain ⟨h25, v23, e24, hf⟩ := rdA_el hf
        refine va_iald hx hb hK hP 1 0 rfl rfl h25 dX6_note_61 ?_
        refine lv_as e24 ?_
        have er0 := Option.some.inj hf
        obtain ⟨er0, er1⟩ := Prod.mk.inj er0
        rw [← hQ0]; exact W.iret (v := v23) hx hb hr (fun t ht hW => ⟨⟨v23, (), rfl, ⟨er0, trivial⟩, by dsimp only; rw [ht, ← er1]; exact hP⟩, hS.F ht⟩) hS.2.2 dX6_note_62
      · have hf := ite_t hf c18
        refine lv_aload_n hx hb dX6_note_28 rfl (lv_at hl 0 rfl) ?_
        refine lv_iload_n hx hb dX6_note_29 rfl (lv_at hl 1 rfl) ?_
        obtain ⟨r26, h27, hf⟩ := bnd_el hf
        refine rdV (As := [.int p1]) (rest := []) ⟨hx, hb, hml, hown, hts⟩ (c_X6_isShown l g aM _ _ _ h27) (cwV 1 hts gX6_note_X6_isShown rfl rfl rfl (by decide +kernel) ⟨Nat.le_of_ble_eq_true rfl, Nat.le_of_ble_eq_true rfl⟩) hKW hP [0, 1, 2, 3, 4, 5, 6, 7, 8, 9, 10, 11] rfl (va_recv hK hP (ci := 6) (q0 := 0) rfl rfl) rfl hl.1 rfl (lv_room (Nat.le_of_ble_eq_true rfl)) dX6_note_30 ⟨Nat.zero_le _, Nat.zero_le _⟩ (fun r28 q29 => ?_)
        obtain ⟨q29, nb30⟩ := q29
        refine lv_as q29.symm ?_
        rw [q29] at nb30
        refine lv_if_eq (tgt := 41) hx hb dX6_note_33 (by decide) (fun c31 => ?_) (fun c31 => ?_)
        · have hf := ite_t hf c31
          refine lv_bipush (v := (-2)) hx hb dX6_note_41 (by decide) ?_
          have er0 := Option.some.inj hf
          obtain ⟨er0, er1⟩ := Prod.mk.inj er0
          rw [← hQ0]; exact W.iret (v := (-2)) hx hb hr (fun t ht hW => ⟨⟨(-2), (), rfl, ⟨er0, trivial⟩, by dsimp only; rw [ht, ← er1]; exact hP⟩, hS.F ht⟩) hS.2.2 dX6_note_43
        · have hf := ite_f hf c31
          refine lv_bipush (v := (-3)) hx hb dX6_note_36 (by decide) ?_
          refine lv_goto (tgt := 43) hx hb dX6_note_38 (by decide) ?_
          have er0 := Option.some.inj hf
          obtain ⟨er0, er1⟩ := Prod.mk.inj er0
          rw [← hQ0]; exact W.iret (v := (-3)) hx hb hr (fun t ht hW => ⟨⟨(-3), (), rfl, ⟨er0, trivial⟩, by dsimp only; rw [ht, ← er1]; exact hP⟩, hS.F ht⟩) hS.2.2 dX6_note_43
    · have hf := ite_t hf c12
      refine lv_iconst (v := (-1)) hx hb dX6_note_18 (by decide) ?_
      have er0 := Option.some.inj hf
      obtain ⟨er0, er1⟩ := Prod.mk.inj er0
      rw [← hQ0]; exact W.iret (v := (-1)) hx hb hr (fun t ht hW => ⟨⟨(-1), (), rfl, ⟨er0, trivial⟩, by dsimp only; rw [ht, ← er1]; exact hP⟩, hS.F ht⟩) hS.2.2 dX6_note_19
abbrev rmX6_unnote : Room := { frames := 2, cells := 0, slots := 0, locals := 43 }
set_option maxHeartbeats 8000000 in
set_option maxRecDepth 100000 in
theorem c_X6_unnote (l : Launch) (g : GG) (aM : Nat → Nat) (sz : Nat) (n : Nat) (XM : DM) (p1 : Int32) (r : Int32) (XMz : DM) (hf : fX6_unnote n XM p1 = some (r, XMz)) : Met l yX6_unnote wsX6_unnote rmX6_unnote (va_Pc [.ref (aM 0), .int p1] (fun U => U.heap.size = sz ∧ va_P g.1 vwCl (pM g aM XM) U.heap ∧ KW g U ∧ va_D (fun _ => True) (pM g aM XM))) (va_Qi (fun r' (_ : Unit) => r' = r ∧ True) (fun (_ : Unit) t => va_P g.1 vwCl (pM g aM XMz) t.heap) (va_A (pM g aM XM) sz)) 0 0 (va_A (pM g aM XM) sz) := by
  refine Met.ofW (cc := cX6_unnote) (maxL := 4) (ret := (some .int)) (by decide) rfl ?_
  intro p e s m args below meth c s₁ B hml hv
  obtain ⟨hargs, hsz, hP, hKW, hD0⟩ := hv
  have hK := hKW.1
  have hx := B.exec
  have hb := B.bytes
  have hr := B.returns
  have hts := atoms_spec (ws := wsX6_unnote) B.pre
  have hown : s.vm.findClass RX6 = some m.cls := findClass_of_methodNamed B.named
  have hlocks := B.notSynchronized
  subst hsz
  have hD := hD0.self (sz := s.heap.size)
  generalize hAe : va_A (pM g aM XM) s.heap.size = A at hD ⊢
  have hA : ∀ q : Nat, s.heap.size ≤ q → A q := fun q h => by rw [← hAe]; exact Or.inr h
  have hS : va_S A s.heap s.heap [] := va_S.rf
  have i_X6 : ∀ w ∈ wsX60, w ∈ wsX6_unnote := fun w h => List.mem_cons_of_mem _ (List.mem_append_right _ h)
  have hent : entryFrame m args 4 = F0 m 0 ((lg_sl ([.ref (aM 0), .int p1]) ++ List.replicate (4 - (lg_sl ([.ref (aM 0), .int p1])).length) Slot.unset).toArray) [] := by rw [hargs]; exact lg_entry_eq _ _ _
  rw [hent]
  have hl := lv_entry ([.ref (aM 0), .int p1]) (n := 4) (Nat.le_of_ble_eq_true rfl)
  generalize (lg_sl ([.ref (aM 0), .int p1]) ++ List.replicate (4 - (lg_sl ([.ref (aM 0), .int p1])).length) Slot.unset).toArray = ls at hl ⊢
  have hl : lv_has ls 4 [(0, .ref (aM 0)), (1, .int p1)] := hl
  generalize hQ0 : MQ below _ _ _ _ _ _ = Q0
  unfold fX6_unnote at hf
  refine lv_aload_n hx hb dX6_unnote_0 rfl (lv_at hl 0 rfl) ?_
  refine lv_iload_n hx hb dX6_unnote_1 rfl (lv_at hl 1 rfl) ?_
  obtain ⟨r1, h2, hf⟩ := bnd_el hf
  refine rdV (As := [.int p1]) (rest := []) ⟨hx, hb, hml, hown, hts⟩ (c_X6_isWord l g aM _ _ _ h2) (cwV 1 hts gX6_unnote_X6_isWord rfl rfl rfl (by decide +kernel) ⟨Nat.le_of_ble_eq_true rfl, Nat.le_of_ble_eq_true rfl⟩) hKW hP [0, 1, 2, 3, 4, 5, 6, 7, 8, 9, 10, 11] rfl (va_recv hK hP (ci := 6) (q0 := 0) rfl rfl) rfl hl.1 rfl (lv_room (Nat.le_of_ble_eq_true rfl)) dX6_unnote_2 ⟨Nat.zero_le _, Nat.zero_le _⟩ (fun r3 q4 => ?_)
  obtain ⟨q4, nb5⟩ := q4
  refine lv_as q4.symm ?_
  rw [q4] at nb5
  refine lv_if_ne (tgt := 10) hx hb dX6_unnote_5 (by decide) (fun c6 => ?_) (fun c6 => ?_)
  · have hf := ite_f hf c6
    refine lv_aload_n hx hb dX6_unnote_10 rfl (lv_at hl 0 rfl) ?_
    refine lv_iload_n hx hb dX6_unnote_11 rfl (lv_at hl 1 rfl) ?_
    obtain ⟨r7, h8, hf⟩ := bnd_el hf
    refine rdV (As := [.int p1]) (rest := []) ⟨hx, hb, hml, hown, hts⟩ (c_X6_noteOf l g aM _ _ _ _ h8) (cwV 1 hts gX6_unnote_X6_noteOf rfl rfl rfl (by decide +kernel) ⟨Nat.le_of_ble_eq_true rfl, Nat.le_of_ble_eq_true rfl⟩) hKW hP [0, 1, 2, 3, 4, 5, 6, 7, 8, 9, 10, 11] rfl (va_recv hK hP (ci := 6) (q0 := 0) rfl rfl) rfl hl.1 rfl (lv_room (Nat.le_of_ble_eq_true rfl)) dX6_unnote_12 ⟨Nat.zero_le _, Nat.zero_le _⟩ (fun r9 q10 => ?_)
    obtain ⟨q10, nb11⟩ := q10
    refine lv_as q10.symm ?_
    refine lv_istore_n (lv' := [(2, .int r7), (0, .ref (aM 0)), (1, .int p1)]) hx hb dX6_unnote_15 rfl hl (by decide) rfl (fun ls hl => ?_)
    refine lv_iload_n hx hb dX6_unnote_16 rfl (lv_at hl 0 rfl) ?_
    refine lv_iconst (v := (-1)) hx hb dX6_unnote_17 (by decide) ?_
    refine lv_icmp_ne (tgt := 24) hx hb dX6_unnote_18 (by decide) (fun c12 => ?_) (fun c12 => ?_)
    · have hf := ite_f hf c12
      refine lv_aload_n hx hb dX6_unnote_24 rfl (lv_at hl 1 rfl) ?_
      obtain ⟨X13, h14, hf⟩ := bnd_el hf
      refine wr_v (rest := []) (wc := (pM g aM XM)) (wc' := (pM g aM X13)) (ws2 := (pM g aM X13)) hP hD hS hA [0, 1, 2, 3, 4, 5, 6, 7, 8, 9, 10, 11] rfl rfl (by rfl) (rnV (As := []) ⟨hx, hb, hml, hown, hts⟩ (c_X6_records l g aM _ _ _ _ h14) (cwV 0 hts gX6_unnote_X6_records rfl rfl rfl (by decide +kernel) ⟨Nat.le_of_ble_eq_true rfl, Nat.le_of_ble_eq_true rfl⟩) hKW hP hD [0, 1, 2, 3, 4, 5, 6, 7, 8, 9, 10, 11] (by decide) rfl (va_recv hK hP (ci := 6) (q0 := 0) rfl rfl) rfl hl.1 rfl (lv_room (Nat.le_of_ble_eq_true rfl)) dX6_unnote_25 ⟨Nat.zero_le _, Nat.zero_le _⟩) (fun H locs hP hD hS => ?_)
      refine lv_aload_n hx hb dX6_unnote_28 rfl (lv_at hl 1 rfl) ?_
      refine va_get (D := g.1) (ci := 6) (v := .ref (aM 1)) (C := RX6) (T := TX6) (N := 19) hx hb hts i_X6 hown hK hP 0 rfl rfl 0 (by decide) (hts (.fieldLink RX6 7 "WordFlasherModel" "d" "[I") (List.mem_of_getElem? (i := 1) rfl)) (fun _ h9 => h9) rfl dX6_unnote_29 ?_
      refine lv_sipush (v := 320) hx hb dX6_unnote_32 (by decide) ?_
      refine lv_iload_n hx hb dX6_unnote_35 rfl (lv_at hl 0 rfl) ?_
      refine lv_iadd hx hb dX6_unnote_36 ?_
      obtain ⟨h17, v15, e16, hf⟩ := rdA_el hf
      refine va_iald hx hb hK hP 1 0 rfl rfl h17 dX6_unnote_37 ?_
      refine lv_as e16 ?_
      refine lv_istore_n (lv' := [(3, .int v15), (2, .int r7), (0, .ref (aM 0)), (1, .int p1)]) hx hb dX6_unnote_38 rfl hl (by decide) rfl (fun ls hl => ?_)
      refine lv_aload_n hx hb dX6_unnote_39 rfl (lv_at hl 2 rfl) ?_
      refine va_get (D := g.1) (ci := 6) (v := .ref (aM 1)) (C := RX6) (T := TX6) (N := 19) hx hb hts i_X6 hown hK hP 0 rfl rfl 0 (by decide) (hts (.fieldLink RX6 7 "WordFlasherModel" "d" "[I") (List.mem_of_getElem? (i := 1) rfl)) (fun _ h9 => h9) rfl dX6_unnote_40 ?_
      refine lv_sipush (v := 309) hx hb dX6_unnote_43 (by decide) ?_
      refine lv_dup2_11 hx hb dX6_unnote_46 rfl rfl ?_
      obtain ⟨h20, v18, e19, hf⟩ := rdA_el hf
      refine va_iald hx hb hK hP 1 0 rfl rfl h20 dX6_unnote_47 ?_
      refine lv_as e19 ?_
      refine lv_iconst (v := 1) hx hb dX6_unnote_48 (by decide) ?_
      refine lv_isub hx hb dX6_unnote_49 ?_
      obtain ⟨h23, f21, e22, hf⟩ := wrA_el hf
      obtain ⟨X24, e25, hf⟩ := sl_el hf
      refine va_iast hx hb hK hP hD hS 1 0 rfl rfl h23 dX6_unnote_50 (fun H locs hP hD hS => ?_)
      have hP : va_P g.1 vwCl (pM g aM X24) H := by subst e25; subst e22; exact hP
      have hD : va_D A (pM g aM X24) := by subst e25; subst e22; exact hD
      refine lv_aload_n hx hb dX6_unnote_51 rfl (lv_at hl 2 rfl) ?_
      refine va_get (D := g.1) (ci := 6) (v := .ref (aM 1)) (C := RX6) (T := TX6) (N := 19) hx hb hts i_X6 hown hK hP 0 rfl rfl 0 (by decide) (hts (.fieldLink RX6 7 "WordFlasherModel" "d" "[I") (List.mem_of_getElem? (i := 1) rfl)) (fun _ h9 => h9) rfl dX6_unnote_52 ?_
      refine lv_sipush (v := 310) hx hb dX6_unnote_55 (by decide) ?_
      refine lv_iload_n hx hb dX6_unnote_58 rfl (lv_at hl 1 rfl) ?_
      refine lv_iadd hx hb dX6_unnote_59 ?_
      refine lv_aload_n hx hb dX6_unnote_60 rfl (lv_at hl 2 rfl) ?_
      refine va_get (D := g.1) (ci := 6) (v := .ref (aM 1)) (C := RX6) (T := TX6) (N := 19) hx hb hts i_X6 hown hK hP 0 rfl rfl 0 (by decide) (hts (.fieldLink RX6 7 "WordFlasherModel" "d" "[I") (List.mem_of_getElem? (i := 1) rfl)) (fun _ h9 => h9) rfl dX6_unnote_61 ?_
      refine lv_sipush (v := 310) hx hb dX6_unnote_64 (by decide) ?_
      refine lv_aload_n hx hb dX6_unnote_67 rfl (lv_at hl 2 rfl) ?_
      refine va_get (D := g.1) (ci := 6) (v := .ref (aM 1)) (C := RX6) (T := TX6) (N := 19) hx hb hts i_X6 hown hK hP 0 rfl rfl 0 (by decide) (hts (.fieldLink RX6 7 "WordFlasherModel" "d" "[I") (List.mem_of_getElem? (i := 1) rfl)) (fun _ h9 => h9) rfl dX6_unnote_68 ?_
      refine lv_sipush (v := 309) hx hb dX6_unnote_71 (by decide) ?_
      obtain ⟨h28, v26, e27, hf⟩ := rdA_el hf
      refine va_iald hx hb hK hP 1 0 rfl rfl h28 dX6_unnote_74 ?_
      refine lv_as e27 ?_
      refine lv_iadd hx hb dX6_unnote_75 ?_
      obtain ⟨h31, v29, e30, hf⟩ := rdA_el hf
      refine va_iald hx hb hK hP 1 0 rfl rfl h31 dX6_unnote_76 ?_
      refine lv_as e30 ?_
      obtain ⟨h34, f32, e33, hf⟩ := wrA_el hf
      obtain ⟨X35, e36, hf⟩ := sl_el hf
      refine va_iast hx hb hK hP hD hS 1 0 rfl rfl h34 dX6_unnote_77 (fun H locs hP hD hS => ?_)
      have hP : va_P g.1 vwCl (pM g aM X35) H := by subst e36; subst e33; exact hP
      have hD : va_D A (pM g aM X35) := by subst e36; subst e33; exact hD
      refine lv_aload_n hx hb dX6_unnote_78 rfl (lv_at hl 2 rfl) ?_
      refine va_get (D := g.1) (ci := 6) (v := .ref (aM 1)) (C := RX6) (T := TX6) (N := 19) hx hb hts i_X6 hown hK hP 0 rfl rfl 0 (by decide) (hts (.fieldLink RX6 7 "WordFlasherModel" "d" "[I") (List.mem_of_getElem? (i := 1) rfl)) (fun _ h9 => h9) rfl dX6_unnote_79 ?_
      refine lv_sipush (v := 320) hx hb dX6_unnote_82 (by decide) ?_
      refine lv_iload_n hx hb dX6_unnote_85 rfl (lv_at hl 1 rfl) ?_
      refine lv_iadd hx hb dX6_unnote_86 ?_
      refine lv_aload_n hx hb dX6_unnote_87 rfl (lv_at hl 2 rfl) ?_
      refine va_get (D := g.1) (ci := 6) (v := .ref (aM 1)) (C := RX6) (T := TX6) (N := 19) hx hb hts i_X6 hown hK hP 0 rfl rfl 0 (by decide) (hts (.fieldLink RX6 7 "WordFlasherModel" "d" "[I") (List.mem_of_getElem? (i := 1) rfl)) (fun _ h9 => h9) rfl dX6_unnote_88 ?_
      refine lv_sipush (v := 320) hx hb dX6_unnote_91 (by decide) ?_
      refine lv_aload_n hx hb dX6_unnote_94 rfl (lv_at hl 2 rfl) ?_
      refine va_get (D := g.1) (ci := 6) (v := .ref (aM 1)) (C := RX6) (T := TX6) (N := 19) hx hb hts i_X6 hown hK hP 0 rfl rfl 0 (by decide) (hts (.fieldLink RX6 7 "WordFlasherModel" "d" "[I") (List.mem_of_getElem? (i := 1) rfl)) (fun _ h9 => h9) rfl dX6_unnote_95 ?_
      refine lv_sipush (v := 309) hx hb dX6_unnote_98 (by decide) ?_
      obtain ⟨h39, v37, e38, hf⟩ := rdA_el hf
      refine va_iald hx hb hK hP 1 0 rfl rfl h39 dX6_unnote_101 ?_
      refine lv_as e38 ?_
      refine lv_iadd hx hb dX6_unnote_102 ?_
      obtain ⟨h42, v40, e41, hf⟩ := rdA_el hf
      refine va_iald hx hb hK hP 1 0 rfl rfl h42 dX6_unnote_103 ?_
      refine lv_as e41 ?_
      obtain ⟨h45, f43, e44, hf⟩ := wrA_el hf
      obtain ⟨X46, e47, hf⟩ := sl_el hf
      refine va_iast hx hb hK hP hD hS 1 0 rfl rfl h45 dX6_unnote_104 (fun H locs hP hD hS => ?_)
      have hP : va_P g.1 vwCl (pM g aM X46) H := by subst e47; subst e44; exact hP
      have hD : va_D A (pM g aM X46) := by subst e47; subst e44; exact hD
      refine lv_iload_n hx hb dX6_unnote_105 rfl (lv_at hl 0 rfl) ?_
      have er0 := Option.some.inj hf
      obtain ⟨er0, er1⟩ := Prod.mk.inj er0
      rw [← hQ0]; exact W.iret (v := v15) hx hb hr (fun t ht hW => ⟨⟨v15, (), rfl, ⟨er0, trivial⟩, by dsimp only; rw [ht, ← er1]; exact hP⟩, hS.F ht⟩) hS.2.2 dX6_unnote_106
    · have hf := ite_t hf c12
      refine lv_bipush (v := (-4)) hx hb dX6_unnote_21 (by decide) ?_
      have er0 := Option.some.inj hf
      obtain ⟨er0, er1⟩ := Prod.mk.inj er0
      rw [← hQ0]; exact W.iret (v := (-4)) hx hb hr (fun t ht hW => ⟨⟨(-4), (), rfl, ⟨er0, trivial⟩, by dsimp only; rw [ht, ← er1]; exact hP⟩, hS.F ht⟩) hS.2.2 dX6_unnote_23
  · have hf := ite_t hf c6
    refine lv_iconst (v := (-1)) hx hb dX6_unnote_8 (by decide) ?_
    have er0 := Option.some.inj hf
    obtain ⟨er0, er1⟩ := Prod.mk.inj er0
    rw [← hQ0]; exact W.iret (v := (-1)) hx hb hr (fun t ht hW => ⟨⟨(-1), (), rfl, ⟨er0, trivial⟩, by dsimp only; rw [ht, ← er1]; exact hP⟩, hS.F ht⟩) hS.2.2 dX6_unnote_9
abbrev rmX6_noted : Room := { frames := 1, cells := 0, slots := 0, locals := 22 }
set_option maxHeartbeats 8000000 in
set_option maxRecDepth 100000 in
theorem c_X6_noted (l : Launch) (g : GG) (aM : Nat → Nat) (n : Nat) (XM : DM) (p1 p2 : Int32) (r : Int32) (hf : fX6_noted n XM p1 p2 = some r) : Met l yX6_noted wsX6_noted rmX6_noted (va_Pc [.ref (aM 0), .int p1, .int p2] (fun U => va_P g.1 vwCl (pM g aM XM) U.heap ∧ KW g U)) (vp_Si (fun r' => r' = r ∧ True)) 0 0 (fun _ => False) := by
  refine Met.ofW (cc := cX6_noted) (maxL := 7) (ret := (some .int)) (by decide) rfl ?_
  intro p e s m args below meth c s₁ B hml hv
  obtain ⟨hargs, hP, hKW⟩ := hv
  have hK := hKW.1
  have hx := B.exec
  have hb := B.bytes
  have hr := B.returns
  have hts := atoms_spec (ws := wsX6_noted) B.pre
  have hown : s.vm.findClass RX6 = some m.cls := findClass_of_methodNamed B.named
  have hlocks := B.notSynchronized
  have i_X6 : ∀ w ∈ wsX60, w ∈ wsX6_noted := fun w h => List.mem_cons_of_mem _ (List.mem_append_right _ h)
  have hent : entryFrame m args 7 = F0 m 0 ((lg_sl ([.ref (aM 0), .int p1, .int p2]) ++ List.replicate (7 - (lg_sl ([.ref (aM 0), .int p1, .int p2])).length) Slot.unset).toArray) [] := by rw [hargs]; exact lg_entry_eq _ _ _
  rw [hent]
  have hl := lv_entry ([.ref (aM 0), .int p1, .int p2]) (n := 7) (Nat.le_of_ble_eq_true rfl)
  generalize (lg_sl ([.ref (aM 0), .int p1, .int p2]) ++ List.replicate (7 - (lg_sl ([.ref (aM 0), .int p1, .int p2])).length) Slot.unset).toArray = ls at hl ⊢
  have hl : lv_has ls 7 [(0, .ref (aM 0)), (1, .int p1), (2, .int p2)] := hl
  generalize hQ0 : MQ below _ _ _ _ _ _ = Q0
  unfold fX6_noted at hf
  refine lv_iload_n hx hb dX6_noted_0 rfl (lv_at hl 1 rfl) ?_
  refine lv_if_lt (tgt := 13) hx hb dX6_noted_1 (by decide) (fun c1 => ?_) (fun c1 => ?_)
  · have hf := ite_t hf c1
    refine lv_iconst (v := (-1)) hx hb dX6_noted_13 (by decide) ?_
    have er0 := Option.some.inj hf
    rw [← hQ0]; exact W.iret (v := (-1)) hx hb hr (fun t ht hW => ⟨(-1), rfl, ⟨er0, trivial⟩, ht⟩) (fun q h => by cases h) dX6_noted_14
  · have hf := ite_f hf c1
    refine lv_iload_n hx hb dX6_noted_4 rfl (lv_at hl 2 rfl) ?_
    refine lv_iconst (v := 0) hx hb dX6_noted_5 (by decide) ?_
    refine lv_iconst (v := 1) hx hb dX6_noted_6 (by decide) ?_
    obtain ⟨r2, h3, hf⟩ := bnd_el hf
    refine rdS (As := [.int p2, .int 0, .int 1]) (rest := []) ⟨hx, hb, hml, hown, hts⟩ (c_X6_in l g _ _ _ _ h3) (va_cwS 3 hts gX6_noted_X6_in rfl rfl rfl (by decide +kernel) ⟨Nat.le_of_ble_eq_true rfl, Nat.le_of_ble_eq_true rfl⟩) hKW hP [] rfl rfl hl.1 rfl (lv_room (Nat.le_of_ble_eq_true rfl)) dX6_noted_7 ⟨Nat.zero_le _, Nat.zero_le _⟩ (fun r4 q5 => ?_)
    obtain ⟨q5, nb6⟩ := q5
    refine lv_as q5.symm ?_
    rw [q5] at nb6
    refine lv_if_ne (tgt := 15) hx hb dX6_noted_10 (by decide) (fun c7 => ?_) (fun c7 => ?_)
    · have hf := ite_f hf c7
      refine lv_bipush (v := (-4)) hx hb dX6_noted_15 (by decide) ?_
      refine lv_istore_n (lv' := [(3, .int (-4)), (0, .ref (aM 0)), (1, .int p1), (2, .int p2)]) hx hb dX6_noted_17 rfl hl (by decide) rfl (fun ls hl => ?_)
      refine lv_iconst (v := 0) hx hb dX6_noted_18 (by decide) ?_
      refine lv_istore (lv' := [(4, .int 0), (3, .int (-4)), (0, .ref (aM 0)), (1, .int p1), (2, .int p2)]) hx hb dX6_noted_19 hl (by decide) rfl (fun ls hl => ?_)
      have L_21 : ∀ fu : Nat, ∀ (x1 x2 x3 x4 : Int32) (ls : Array Slot), lv_has ls 7 [(0, .ref (aM 0)), (1, .int x1), (2, .int x2), (3, .int x3), (4, .int x4)] → fX6_noted_L21 n XM fu x1 x2 x3 x4 = some r → W p l e (headSpec wsX6_noted rmX6_noted).room s m args below meth c s.heap [] 0 0 Q0 (F0 m 21 ls []) := by
        intro fu
        induction fu with
        | zero => intros; rename_i hf; rw [fX6_noted_L21] at hf; cases hf
        | succ fu ih =>
          intro x1 x2 x3 x4 ls hl hf
          rw [fX6_noted_L21] at hf
          refine lv_iload hx hb dX6_noted_21 (lv_at hl 4 rfl) ?_
          refine lv_aload_n hx hb dX6_noted_23 rfl (lv_at hl 0 rfl) ?_
          refine va_get (D := g.1) (ci := 6) (v := .ref (aM 1)) (C := RX6) (T := TX6) (N := 19) hx hb hts i_X6 hown hK hP 0 rfl rfl 0 (by decide) (hts (.fieldLink RX6 7 "WordFlasherModel" "d" "[I") (List.mem_of_getElem? (i := 1) rfl)) (fun _ h9 => h9) rfl dX6_noted_24 ?_
          refine lv_sipush (v := 309) hx hb dX6_noted_27 (by decide) ?_
          obtain ⟨h10, v8, e9, hf⟩ := rdA_el hf
          refine va_iald hx hb hK hP 1 0 rfl rfl h10 dX6_noted_30 ?_
          refine lv_as e9 ?_
          refine lv_icmp_ge (tgt := 112) hx hb dX6_noted_31 (by decide) (fun c11 => ?_) (fun c11 => ?_)
          · have hf := ite_t hf c11
            refine lv_iload_n hx hb dX6_noted_112 rfl (lv_at hl 3 rfl) ?_
            have er0 := Option.some.inj hf
            rw [← hQ0]; exact W.iret (v := x3) hx hb hr (fun t ht hW => ⟨x3, rfl, ⟨er0, trivial⟩, ht⟩) (fun q h => by cases h) dX6_noted_113
          · have hf := ite_f hf c11
            refine lv_aload_n hx hb dX6_noted_34 rfl (lv_at hl 0 rfl) ?_
            refine va_get (D := g.1) (ci := 6) (v := .ref (aM 1)) (C := RX6) (T := TX6) (N := 19) hx hb hts i_X6 hown hK hP 0 rfl rfl 0 (by decide) (hts (.fieldLink RX6 7 "WordFlasherModel" "d" "[I") (List.mem_of_getElem? (i := 1) rfl)) (fun _ h9 => h9) rfl dX6_noted_35 ?_
            refine lv_sipush (v := 310) hx hb dX6_noted_38 (by decide) ?_
            refine lv_iload hx hb dX6_noted_41 (lv_at hl 4 rfl) ?_
            refine lv_iadd hx hb dX6_noted_43 ?_
            obtain ⟨h14, v12, e13, hf⟩ := rdA_el hf
            refine va_iald hx hb hK hP 1 0 rfl rfl h14 dX6_noted_44 ?_
            refine lv_as e13 ?_
            refine lv_istore (lv' := [(5, .int v12), (0, .ref (aM 0)), (1, .int x1), (2, .int x2), (3, .int x3), (4, .int x4)]) hx hb dX6_noted_45 hl (by decide) rfl (fun ls hl => ?_)
            refine lv_iload_n hx hb dX6_noted_47 rfl (lv_at hl 3 rfl) ?_
            obtain ⟨j92, ej92, hf⟩ := sl_el hf
            have J_92 : ∀ (x1 x2 x3 x4 x5 k0 : Int32) (ls : Array Slot), lv_has ls 7 [(0, .ref (aM 0)), (1, .int x1), (2, .int x2), (3, .int x3), (4, .int x4), (5, .int x5)] → j92 x1 x2 x3 x4 x5 k0 = some r → W p l e (headSpec wsX6_noted rmX6_noted).room s m args below meth c s.heap [] 0 0 Q0 (F0 m 92 ls [.int k0]) := by
              intro x1 x2 x3 x4 x5 k0 ls hl hf
              rw [ej92] at hf
              refine lv_istore (lv' := [(6, .int k0), (0, .ref (aM 0)), (1, .int x1), (2, .int x2), (3, .int x3), (4, .int x4), (5, .int x5)]) hx hb dX6_noted_92 hl (by decide) rfl (fun ls hl => ?_)
              refine lv_iload hx hb dX6_noted_94 (lv_at hl 0 rfl) ?_
              obtain ⟨j105, ej105, hf⟩ := sl_el hf
              have J_105 : ∀ (x1 x2 x4 k0 : Int32) (ls : Array Slot), lv_has ls 7 [(0, .ref (aM 0)), (1, .int x1), (2, .int x2), (4, .int x4)] → j105 x1 x2 x4 k0 = some r → W p l e (headSpec wsX6_noted rmX6_noted).room s m args below meth c s.heap [] 0 0 Q0 (F0 m 105 ls [.int k0]) := by
                intro x1 x2 x4 k0 ls hl hf
                rw [ej105] at hf
                refine lv_istore_n (lv' := [(3, .int k0), (0, .ref (aM 0)), (1, .int x1), (2, .int x2), (4, .int x4)]) hx hb dX6_noted_105 rfl hl (by decide) rfl (fun ls hl => ?_)
                obtain ⟨v15, e16, hf⟩ := sl_el hf
                refine lv_iinc (v := v15) (lv' := [(4, .int v15), (3, .int k0), (0, .ref (aM 0)), (1, .int x1), (2, .int x2)]) hx hb dX6_noted_106 hl (k := 4) rfl (by rw [e16]; rfl) (by decide) rfl (fun ls hl => ?_)
                refine lv_goto (tgt := 21) hx hb dX6_noted_109 (by decide) ?_
                exact ih x1 x2 k0 v15 ls (lv_sub hl [2, 3, 4, 1, 0] rfl) hf
              refine lv_if_eq (tgt := 104) hx hb dX6_noted_96 (by decide) (fun c17 => ?_) (fun c17 => ?_)
              · have hf := ite_t hf c17
                refine lv_iload_n hx hb dX6_noted_104 rfl (lv_at hl 4 rfl) ?_
                exact J_105 x1 x2 x4 x3 ls (lv_sub hl [1, 2, 3, 5] rfl) hf
              · have hf := ite_f hf c17
                refine lv_iload hx hb dX6_noted_99 (lv_at hl 6 rfl) ?_
                refine lv_goto (tgt := 105) hx hb dX6_noted_101 (by decide) ?_
                exact J_105 x1 x2 x4 x5 ls (lv_sub hl [1, 2, 3, 5] rfl) hf
            refine lv_if_ne (tgt := 75) hx hb dX6_noted_48 (by decide) (fun c18 => ?_) (fun c18 => ?_)
            · have hf := ite_f hf c18
              refine lv_iload hx hb dX6_noted_75 (lv_at hl 0 rfl) ?_
              refine lv_iload_n hx hb dX6_noted_77 rfl (lv_at hl 2 rfl) ?_
              obtain ⟨j91, ej91, hf⟩ := sl_el hf
              have J_91 : ∀ (x1 x2 x3 x4 x5 : Int32) (ls : Array Slot), lv_has ls 7 [(0, .ref (aM 0)), (1, .int x1), (2, .int x2), (3, .int x3), (4, .int x4), (5, .int x5)] → j91 x1 x2 x3 x4 x5 = some r → W p l e (headSpec wsX6_noted rmX6_noted).room s m args below meth c s.heap [] 0 0 Q0 (F0 m 91 ls []) := by
                intro x1 x2 x3 x4 x5 ls hl hf
                rw [ej91] at hf
                refine lv_iconst (v := 0) hx hb dX6_noted_91 (by decide) ?_
                exact J_92 x1 x2 x3 x4 x5 0 ls (lv_sub hl [0, 1, 2, 3, 4, 5] rfl) hf
              refine lv_icmp_ge (tgt := 91) hx hb dX6_noted_78 (by decide) (fun c19 => ?_) (fun c19 => ?_)
              · have hf := ite_t hf c19
                exact J_91 x1 x2 x3 x4 v12 ls (lv_sub hl [1, 2, 3, 4, 5, 0] rfl) hf
              · have hf := ite_f hf c19
                refine lv_iload hx hb dX6_noted_81 (lv_at hl 0 rfl) ?_
                refine lv_iload_n hx hb dX6_noted_83 rfl (lv_at hl 4 rfl) ?_
                refine lv_icmp_le (tgt := 91) hx hb dX6_noted_84 (by decide) (fun c20 => ?_) (fun c20 => ?_)
                · have hf := ite_t hf c20
                  exact J_91 x1 x2 x3 x4 v12 ls (lv_sub hl [1, 2, 3, 4, 5, 0] rfl) hf
                · have hf := ite_f hf c20
                  refine lv_iconst (v := 1) hx hb dX6_noted_87 (by decide) ?_
                  refine lv_goto (tgt := 92) hx hb dX6_noted_88 (by decide) ?_
                  exact J_92 x1 x2 x3 x4 v12 1 ls (lv_sub hl [1, 2, 3, 4, 5, 0] rfl) hf
            · have hf := ite_t hf c18
              refine lv_iload hx hb dX6_noted_51 (lv_at hl 0 rfl) ?_
              refine lv_iload_n hx hb dX6_noted_53 rfl (lv_at hl 2 rfl) ?_
              obtain ⟨j71, ej71, hf⟩ := sl_el hf
              have J_71 : ∀ (x1 x2 x3 x4 x5 : Int32) (ls : Array Slot), lv_has ls 7 [(0, .ref (aM 0)), (1, .int x1), (2, .int x2), (3, .int x3), (4, .int x4), (5, .int x5)] → j71 x1 x2 x3 x4 x5 = some r → W p l e (headSpec wsX6_noted rmX6_noted).room s m args below meth c s.heap [] 0 0 Q0 (F0 m 71 ls []) := by
                intro x1 x2 x3 x4 x5 ls hl hf
                rw [ej71] at hf
                refine lv_iconst (v := 0) hx hb dX6_noted_71 (by decide) ?_
                refine lv_goto (tgt := 92) hx hb dX6_noted_72 (by decide) ?_
                exact J_92 x1 x2 x3 x4 x5 0 ls (lv_sub hl [0, 1, 2, 3, 4, 5] rfl) hf
              refine lv_icmp_lt (tgt := 71) hx hb dX6_noted_54 (by decide) (fun c21 => ?_) (fun c21 => ?_)
              · have hf := ite_t hf c21
                exact J_71 x1 x2 x3 x4 v12 ls (lv_sub hl [1, 2, 3, 4, 5, 0] rfl) hf
              · have hf := ite_f hf c21
                refine lv_iload_n hx hb dX6_noted_57 rfl (lv_at hl 4 rfl) ?_
                obtain ⟨j67, ej67, hf⟩ := sl_el hf
                have J_67 : ∀ (x1 x2 x3 x4 x5 : Int32) (ls : Array Slot), lv_has ls 7 [(0, .ref (aM 0)), (1, .int x1), (2, .int x2), (3, .int x3), (4, .int x4), (5, .int x5)] → j67 x1 x2 x3 x4 x5 = some r → W p l e (headSpec wsX6_noted rmX6_noted).room s m args below meth c s.heap [] 0 0 Q0 (F0 m 67 ls []) := by
                  intro x1 x2 x3 x4 x5 ls hl hf
                  rw [ej67] at hf
                  refine lv_iconst (v := 1) hx hb dX6_noted_67 (by decide) ?_
                  refine lv_goto (tgt := 92) hx hb dX6_noted_68 (by decide) ?_
                  exact J_92 x1 x2 x3 x4 x5 1 ls (lv_sub hl [0, 1, 2, 3, 4, 5] rfl) hf
                refine lv_if_lt (tgt := 67) hx hb dX6_noted_58 (by decide) (fun c22 => ?_) (fun c22 => ?_)
                · have hf := ite_t hf c22
                  exact J_67 x1 x2 x3 x4 v12 ls (lv_sub hl [1, 2, 3, 4, 5, 0] rfl) hf
                · have hf := ite_f hf c22
                  refine lv_iload hx hb dX6_noted_61 (lv_at hl 0 rfl) ?_
                  refine lv_iload_n hx hb dX6_noted_63 rfl (lv_at hl 4 rfl) ?_
                  refine lv_icmp_ge (tgt := 71) hx hb dX6_noted_64 (by decide) (fun c23 => ?_) (fun c23 => ?_)
                  · have hf := ite_t hf c23
                    exact J_71 x1 x2 x3 x4 v12 ls (lv_sub hl [1, 2, 3, 4, 5, 0] rfl) hf
                  · have hf := ite_f hf c23
                    exact J_67 x1 x2 x3 x4 v12 ls (lv_sub hl [1, 2, 3, 4, 5, 0] rfl) hf
      exact L_21 n p1 p2 (-4) 0 ls (lv_sub hl [2, 3, 4, 1, 0] rfl) hf
    · have hf := ite_t hf c7
      refine lv_iconst (v := (-1)) hx hb dX6_noted_13 (by decide) ?_
      have er0 := Option.some.inj hf
      rw [← hQ0]; exact W.iret (v := (-1)) hx hb hr (fun t ht hW => ⟨(-1), rfl, ⟨er0, trivial⟩, ht⟩) (fun q h => by cases h) dX6_noted_14
abbrev rmX6_longest : Room := { frames := 3, cells := 0, slots := 0, locals := 67 }
set_option maxHeartbeats 8000000 in
set_option maxRecDepth 100000 in
theorem c_X6_longest (l : Launch) (g : GG) (aM : Nat → Nat) (n : Nat) (XM : DM) (p1 : Int32) (r : Int32) (hf : fX6_longest n XM p1 = some r) : Met l yX6_longest wsX6_longest rmX6_longest (va_Pc [.ref (aM 0), .int p1] (fun U => va_P g.1 vwCl (pM g aM XM) U.heap ∧ KW g U)) (vp_Si (fun r' => r' = r ∧ True)) 0 0 (fun _ => False) := by
  refine Met.ofW (cc := cX6_longest) (maxL := 5) (ret := (some .int)) (by decide) rfl ?_
  intro p e s m args below meth c s₁ B hml hv
  obtain ⟨hargs, hP, hKW⟩ := hv
  have hK := hKW.1
  have hx := B.exec
  have hb := B.bytes
  have hr := B.returns
  have hts := atoms_spec (ws := wsX6_longest) B.pre
  have hown : s.vm.findClass RX6 = some m.cls := findClass_of_methodNamed B.named
  have hlocks := B.notSynchronized
  have i_X6 : ∀ w ∈ wsX60, w ∈ wsX6_longest := fun w h => List.mem_cons_of_mem _ (List.mem_append_right _ h)
  have hent : entryFrame m args 5 = F0 m 0 ((lg_sl ([.ref (aM 0), .int p1]) ++ List.replicate (5 - (lg_sl ([.ref (aM 0), .int p1])).length) Slot.unset).toArray) [] := by rw [hargs]; exact lg_entry_eq _ _ _
  rw [hent]
  have hl := lv_entry ([.ref (aM 0), .int p1]) (n := 5) (Nat.le_of_ble_eq_true rfl)
  generalize (lg_sl ([.ref (aM 0), .int p1]) ++ List.replicate (5 - (lg_sl ([.ref (aM 0), .int p1])).length) Slot.unset).toArray = ls at hl ⊢
  have hl : lv_has ls 5 [(0, .ref (aM 0)), (1, .int p1)] := hl
  generalize hQ0 : MQ below _ _ _ _ _ _ = Q0
  unfold fX6_longest at hf
  refine lv_iload_n hx hb dX6_longest_0 rfl (lv_at hl 1 rfl) ?_
  refine lv_if_ge (tgt := 6) hx hb dX6_longest_1 (by decide) (fun c1 => ?_) (fun c1 => ?_)
  · have hf := ite_t hf c1
    refine lv_iconst (v := 0) hx hb dX6_longest_6 (by decide) ?_
    refine lv_istore_n (lv' := [(2, .int 0), (0, .ref (aM 0)), (1, .int p1)]) hx hb dX6_longest_7 rfl hl (by decide) rfl (fun ls hl => ?_)
    have L_8 : ∀ fu : Nat, ∀ (x1 x2 : Int32) (ls : Array Slot), lv_has ls 5 [(0, .ref (aM 0)), (1, .int x1), (2, .int x2)] → fX6_longest_L8 n XM fu x1 x2 = some r → W p l e (headSpec wsX6_longest rmX6_longest).room s m args below meth c s.heap [] 0 0 Q0 (F0 m 8 ls []) := by
      intro fu
      induction fu with
      | zero => intros; rename_i hf; rw [fX6_longest_L8] at hf; cases hf
      | succ fu ih =>
        intro x1 x2 ls hl hf
        rw [fX6_longest_L8] at hf
        refine lv_iload_n hx hb dX6_longest_8 rfl (lv_at hl 2 rfl) ?_
        refine lv_aload_n hx hb dX6_longest_9 rfl (lv_at hl 0 rfl) ?_
        refine va_get (D := g.1) (ci := 6) (v := .int (XM 9 0)) (C := RX6) (T := TX6) (N := 19) hx hb hts i_X6 hown hK hP 0 rfl rfl 9 (by decide) (hts (.fieldLink RX6 45 "WordFlasherModel" "words" "I") (List.mem_of_getElem? (i := 1) rfl)) (fun _ h9 => h9) rfl dX6_longest_10 ?_
        refine lv_icmp_ge (tgt := 108) hx hb dX6_longest_13 (by decide) (fun c2 => ?_) (fun c2 => ?_)
        · have hf := ite_t hf c2
          refine lv_bipush (v := (-4)) hx hb dX6_longest_108 (by decide) ?_
          have er0 := Option.some.inj hf
          rw [← hQ0]; exact W.iret (v := (-4)) hx hb hr (fun t ht hW => ⟨(-4), rfl, ⟨er0, trivial⟩, ht⟩) (fun q h => by cases h) dX6_longest_110
        · have hf := ite_f hf c2
          refine lv_iconst (v := 0) hx hb dX6_longest_16 (by decide) ?_
          refine lv_istore_n (lv' := [(3, .int 0), (0, .ref (aM 0)), (1, .int x1), (2, .int x2)]) hx hb dX6_longest_17 rfl hl (by decide) rfl (fun ls hl => ?_)
          refine lv_iconst (v := 0) hx hb dX6_longest_18 (by decide) ?_
          refine lv_istore (lv' := [(4, .int 0), (3, .int 0), (0, .ref (aM 0)), (1, .int x1), (2, .int x2)]) hx hb dX6_longest_19 hl (by decide) rfl (fun ls hl => ?_)
          obtain ⟨j87, ej87, hf⟩ := sl_el hf
          have J_87 : ∀ (x1 x2 x3 : Int32) (ls : Array Slot), lv_has ls 5 [(0, .ref (aM 0)), (1, .int x1), (2, .int x2), (3, .int x3)] → j87 x1 x2 x3 = some r → W p l e (headSpec wsX6_longest rmX6_longest).room s m args below meth c s.heap [] 0 0 Q0 (F0 m 87 ls []) := by
            intro x1 x2 x3 ls hl hf
            rw [ej87] at hf
            refine lv_aload_n hx hb dX6_longest_87 rfl (lv_at hl 0 rfl) ?_
            refine lv_iload_n hx hb dX6_longest_88 rfl (lv_at hl 2 rfl) ?_
            obtain ⟨r3, h4, hf⟩ := bnd_el hf
            refine rdV (As := [.int x2]) (rest := []) ⟨hx, hb, hml, hown, hts⟩ (c_X6_isShown l g aM _ _ _ h4) (cwV 1 hts gX6_longest_X6_isShown rfl rfl rfl (by decide +kernel) ⟨Nat.le_of_ble_eq_true rfl, Nat.le_of_ble_eq_true rfl⟩) hKW hP [0, 1, 2, 3, 4, 5, 6, 7, 8, 9, 10, 11] rfl (va_recv hK hP (ci := 6) (q0 := 0) rfl rfl) rfl hl.1 rfl (lv_room (Nat.le_of_ble_eq_true rfl)) dX6_longest_89 ⟨Nat.zero_le _, Nat.zero_le _⟩ (fun r5 q6 => ?_)
            obtain ⟨q6, nb7⟩ := q6
            refine lv_as q6.symm ?_
            rw [q6] at nb7
            obtain ⟨j102, ej102, hf⟩ := sl_el hf
            have J_102 : ∀ (x1 x2 : Int32) (ls : Array Slot), lv_has ls 5 [(0, .ref (aM 0)), (1, .int x1), (2, .int x2)] → j102 x1 x2 = some r → W p l e (headSpec wsX6_longest rmX6_longest).room s m args below meth c s.heap [] 0 0 Q0 (F0 m 102 ls []) := by
              intro x1 x2 ls hl hf
              rw [ej102] at hf
              obtain ⟨v8, e9, hf⟩ := sl_el hf
              refine lv_iinc (v := v8) (lv' := [(2, .int v8), (0, .ref (aM 0)), (1, .int x1)]) hx hb dX6_longest_102 hl (k := 2) rfl (by rw [e9]; rfl) (by decide) rfl (fun ls hl => ?_)
              refine lv_goto (tgt := 8) hx hb dX6_longest_105 (by decide) ?_
              exact ih x1 v8 ls (lv_sub hl [1, 2, 0] rfl) hf
            refine lv_if_eq (tgt := 102) hx hb dX6_longest_92 (by decide) (fun c10 => ?_) (fun c10 => ?_)
            · have hf := ite_t hf c10
              exact J_102 x1 x2 ls (lv_sub hl [0, 1, 2] rfl) hf
            · have hf := ite_f hf c10
              refine lv_iload_n hx hb dX6_longest_95 rfl (lv_at hl 3 rfl) ?_
              refine lv_iload_n hx hb dX6_longest_96 rfl (lv_at hl 1 rfl) ?_
              refine lv_icmp_ne (tgt := 102) hx hb dX6_longest_97 (by decide) (fun c11 => ?_) (fun c11 => ?_)
              · have hf := ite_f hf c11
                exact J_102 x1 x2 ls (lv_sub hl [0, 1, 2] rfl) hf
              · have hf := ite_t hf c11
                refine lv_iload_n hx hb dX6_longest_100 rfl (lv_at hl 2 rfl) ?_
                have er0 := Option.some.inj hf
                rw [← hQ0]; exact W.iret (v := x2) hx hb hr (fun t ht hW => ⟨x2, rfl, ⟨er0, trivial⟩, ht⟩) (fun q h => by cases h) dX6_longest_101
          have L_21 : ∀ fu : Nat, ∀ (x1 x2 x3 x4 : Int32) (ls : Array Slot), lv_has ls 5 [(0, .ref (aM 0)), (1, .int x1), (2, .int x2), (3, .int x3), (4, .int x4)] → fX6_longest_L21 n XM j87 fu x1 x2 x3 x4 = some r → W p l e (headSpec wsX6_longest rmX6_longest).room s m args below meth c s.heap [] 0 0 Q0 (F0 m 21 ls []) := by
            intro fu
            induction fu with
            | zero => intros; rename_i hf; rw [fX6_longest_L21] at hf; cases hf
            | succ fu ih =>
              intro x1 x2 x3 x4 ls hl hf
              rw [fX6_longest_L21] at hf
              refine lv_iload hx hb dX6_longest_21 (lv_at hl 4 rfl) ?_
              refine lv_aload_n hx hb dX6_longest_23 rfl (lv_at hl 0 rfl) ?_
              refine va_get (D := g.1) (ci := 6) (v := .int (XM 9 0)) (C := RX6) (T := TX6) (N := 19) hx hb hts i_X6 hown hK hP 0 rfl rfl 9 (by decide) (hts (.fieldLink RX6 45 "WordFlasherModel" "words" "I") (List.mem_of_getElem? (i := 1) rfl)) (fun _ h9 => h9) rfl dX6_longest_24 ?_
              refine lv_icmp_ge (tgt := 87) hx hb dX6_longest_27 (by decide) (fun c12 => ?_) (fun c12 => ?_)
              · have hf := ite_t hf c12
                exact J_87 x1 x2 x3 ls (lv_sub hl [0, 1, 2, 3] rfl) hf
              · have hf := ite_f hf c12
                refine lv_iload_n hx hb dX6_longest_30 rfl (lv_at hl 3 rfl) ?_
                refine lv_aload_n hx hb dX6_longest_31 rfl (lv_at hl 0 rfl) ?_
                refine lv_iload hx hb dX6_longest_32 (lv_at hl 4 rfl) ?_
                obtain ⟨r13, h14, hf⟩ := bnd_el hf
                refine rdV (As := [.int x4]) (rest := [.int x3]) ⟨hx, hb, hml, hown, hts⟩ (c_X6_isShown l g aM _ _ _ h14) (cwV 1 hts gX6_longest_X6_isShown rfl rfl rfl (by decide +kernel) ⟨Nat.le_of_ble_eq_true rfl, Nat.le_of_ble_eq_true rfl⟩) hKW hP [0, 1, 2, 3, 4, 5, 6, 7, 8, 9, 10, 11] rfl (va_recv hK hP (ci := 6) (q0 := 0) rfl rfl) rfl hl.1 rfl (lv_room (Nat.le_of_ble_eq_true rfl)) dX6_longest_34 ⟨Nat.zero_le _, Nat.zero_le _⟩ (fun r15 q16 => ?_)
                obtain ⟨q16, nb17⟩ := q16
                refine lv_as q16.symm ?_
                rw [q16] at nb17
                obtain ⟨j79, ej79, hf⟩ := sl_el hf
                have J_79 : ∀ (x1 x2 x4 k0 k1 : Int32) (ls : Array Slot), lv_has ls 5 [(0, .ref (aM 0)), (1, .int x1), (2, .int x2), (4, .int x4)] → j79 x1 x2 x4 k0 k1 = some r → W p l e (headSpec wsX6_longest rmX6_longest).room s m args below meth c s.heap [] 0 0 Q0 (F0 m 79 ls [.int k1, .int k0]) := by
                  intro x1 x2 x4 k0 k1 ls hl hf
                  rw [ej79] at hf
                  refine lv_iadd hx hb dX6_longest_79 ?_
                  obtain ⟨v18, e19, hf⟩ := sl_el hf
                  refine lv_as e19 ?_
                  refine lv_istore_n (lv' := [(3, .int v18), (0, .ref (aM 0)), (1, .int x1), (2, .int x2), (4, .int x4)]) hx hb dX6_longest_80 rfl hl (by decide) rfl (fun ls hl => ?_)
                  obtain ⟨v20, e21, hf⟩ := sl_el hf
                  refine lv_iinc (v := v20) (lv' := [(4, .int v20), (3, .int v18), (0, .ref (aM 0)), (1, .int x1), (2, .int x2)]) hx hb dX6_longest_81 hl (k := 4) rfl (by rw [e21]; rfl) (by decide) rfl (fun ls hl => ?_)
                  refine lv_goto (tgt := 21) hx hb dX6_longest_84 (by decide) ?_
                  exact ih x1 x2 v18 v20 ls (lv_sub hl [2, 3, 4, 1, 0] rfl) hf
                obtain ⟨j78, ej78, hf⟩ := sl_el hf
                have J_78 : ∀ (x1 x2 x4 k0 : Int32) (ls : Array Slot), lv_has ls 5 [(0, .ref (aM 0)), (1, .int x1), (2, .int x2), (4, .int x4)] → j78 x1 x2 x4 k0 = some r → W p l e (headSpec wsX6_longest rmX6_longest).room s m args below meth c s.heap [] 0 0 Q0 (F0 m 78 ls [.int k0]) := by
                  intro x1 x2 x4 k0 ls hl hf
                  rw [ej78] at hf
                  refine lv_iconst (v := 0) hx hb dX6_longest_78 (by decide) ?_
                  exact J_79 x1 x2 x4 k0 0 ls (lv_sub hl [0, 1, 2, 3] rfl) hf
                refine lv_if_eq (tgt := 78) hx hb dX6_longest_37 (by decide) (fun c22 => ?_) (fun c22 => ?_)
                · have hf := ite_t hf c22
                  exact J_78 x1 x2 x4 x3 ls (lv_sub hl [0, 1, 2, 4] rfl) hf
                · have hf := ite_f hf c22
                  refine lv_aload_n hx hb dX6_longest_40 rfl (lv_at hl 0 rfl) ?_
                  refine lv_iload hx hb dX6_longest_41 (lv_at hl 4 rfl) ?_
                  obtain ⟨r23, h24, hf⟩ := bnd_el hf
                  refine rdV (As := [.int x4]) (rest := [.int x3]) ⟨hx, hb, hml, hown, hts⟩ (c_X6_timeOf l g aM _ _ _ h24) (cwV 1 hts gX6_longest_X6_timeOf rfl rfl rfl (by decide +kernel) ⟨Nat.le_of_ble_eq_true rfl, Nat.le_of_ble_eq_true rfl⟩) hKW hP [0, 1, 2, 3, 4, 5, 6, 7, 8, 9, 10, 11] rfl (va_recv hK hP (ci := 6) (q0 := 0) rfl rfl) rfl hl.1 rfl (lv_room (Nat.le_of_ble_eq_true rfl)) dX6_longest_43 ⟨Nat.zero_le _, Nat.zero_le _⟩ (fun r25 q26 => ?_)
                  obtain ⟨q26, nb27⟩ := q26
                  refine lv_as q26.symm ?_
                  refine lv_aload_n hx hb dX6_longest_46 rfl (lv_at hl 0 rfl) ?_
                  refine lv_iload_n hx hb dX6_longest_47 rfl (lv_at hl 2 rfl) ?_
                  obtain ⟨r28, h29, hf⟩ := bnd_el hf
                  refine rdV (As := [.int x2]) (rest := [.int r23, .int x3]) ⟨hx, hb, hml, hown, hts⟩ (c_X6_timeOf l g aM _ _ _ h29) (cwV 1 hts gX6_longest_X6_timeOf rfl rfl rfl (by decide +kernel) ⟨Nat.le_of_ble_eq_true rfl, Nat.le_of_ble_eq_true rfl⟩) hKW hP [0, 1, 2, 3, 4, 5, 6, 7, 8, 9, 10, 11] rfl (va_recv hK hP (ci := 6) (q0 := 0) rfl rfl) rfl hl.1 rfl (lv_room (Nat.le_of_ble_eq_true rfl)) dX6_longest_48 ⟨Nat.zero_le _, Nat.zero_le _⟩ (fun r30 q31 => ?_)
                  obtain ⟨q31, nb32⟩ := q31
                  refine lv_as q31.symm ?_
                  obtain ⟨j74, ej74, hf⟩ := sl_el hf
                  have J_74 : ∀ (x1 x2 x4 k0 : Int32) (ls : Array Slot), lv_has ls 5 [(0, .ref (aM 0)), (1, .int x1), (2, .int x2), (4, .int x4)] → j74 x1 x2 x4 k0 = some r → W p l e (headSpec wsX6_longest rmX6_longest).room s m args below meth c s.heap [] 0 0 Q0 (F0 m 74 ls [.int k0]) := by
                    intro x1 x2 x4 k0 ls hl hf
                    rw [ej74] at hf
                    refine lv_iconst (v := 1) hx hb dX6_longest_74 (by decide) ?_
                    refine lv_goto (tgt := 79) hx hb dX6_longest_75 (by decide) ?_
                    exact J_79 x1 x2 x4 k0 1 ls (lv_sub hl [0, 1, 2, 3] rfl) hf
                  refine lv_icmp_gt (tgt := 74) hx hb dX6_longest_51 (by decide) (fun c33 => ?_) (fun c33 => ?_)
                  · have hf := ite_t hf c33
                    exact J_74 x1 x2 x4 x3 ls (lv_sub hl [0, 1, 2, 4] rfl) hf
                  · have hf := ite_f hf c33
                    refine lv_aload_n hx hb dX6_longest_54 rfl (lv_at hl 0 rfl) ?_
                    refine lv_iload hx hb dX6_longest_55 (lv_at hl 4 rfl) ?_
                    obtain ⟨r34, h35, hf⟩ := bnd_el hf
                    refine rdV (As := [.int x4]) (rest := [.int x3]) ⟨hx, hb, hml, hown, hts⟩ (c_X6_timeOf l g aM _ _ _ h35) (cwV 1 hts gX6_longest_X6_timeOf rfl rfl rfl (by decide +kernel) ⟨Nat.le_of_ble_eq_true rfl, Nat.le_of_ble_eq_true rfl⟩) hKW hP [0, 1, 2, 3, 4, 5, 6, 7, 8, 9, 10, 11] rfl (va_recv hK hP (ci := 6) (q0 := 0) rfl rfl) rfl hl.1 rfl (lv_room (Nat.le_of_ble_eq_true rfl)) dX6_longest_57 ⟨Nat.zero_le _, Nat.zero_le _⟩ (fun r36 q37 => ?_)
                    obtain ⟨q37, nb38⟩ := q37
                    refine lv_as q37.symm ?_
                    refine lv_aload_n hx hb dX6_longest_60 rfl (lv_at hl 0 rfl) ?_
                    refine lv_iload_n hx hb dX6_longest_61 rfl (lv_at hl 2 rfl) ?_
                    obtain ⟨r39, h40, hf⟩ := bnd_el hf
                    refine rdV (As := [.int x2]) (rest := [.int r34, .int x3]) ⟨hx, hb, hml, hown, hts⟩ (c_X6_timeOf l g aM _ _ _ h40) (cwV 1 hts gX6_longest_X6_timeOf rfl rfl rfl (by decide +kernel) ⟨Nat.le_of_ble_eq_true rfl, Nat.le_of_ble_eq_true rfl⟩) hKW hP [0, 1, 2, 3, 4, 5, 6, 7, 8, 9, 10, 11] rfl (va_recv hK hP (ci := 6) (q0 := 0) rfl rfl) rfl hl.1 rfl (lv_room (Nat.le_of_ble_eq_true rfl)) dX6_longest_62 ⟨Nat.zero_le _, Nat.zero_le _⟩ (fun r41 q42 => ?_)
                    obtain ⟨q42, nb43⟩ := q42
                    refine lv_as q42.symm ?_
                    refine lv_icmp_ne (tgt := 78) hx hb dX6_longest_65 (by decide) (fun c44 => ?_) (fun c44 => ?_)
                    · have hf := ite_f hf c44
                      exact J_78 x1 x2 x4 x3 ls (lv_sub hl [0, 1, 2, 4] rfl) hf
                    · have hf := ite_t hf c44
                      refine lv_iload hx hb dX6_longest_68 (lv_at hl 4 rfl) ?_
                      refine lv_iload_n hx hb dX6_longest_70 rfl (lv_at hl 2 rfl) ?_
                      refine lv_icmp_ge (tgt := 78) hx hb dX6_longest_71 (by decide) (fun c45 => ?_) (fun c45 => ?_)
                      · have hf := ite_t hf c45
                        exact J_78 x1 x2 x4 x3 ls (lv_sub hl [0, 1, 2, 4] rfl) hf
                      · have hf := ite_f hf c45
                        exact J_74 x1 x2 x4 x3 ls (lv_sub hl [0, 1, 2, 4] rfl) hf
          exact L_21 n x1 x2 0 0 ls (lv_sub hl [2, 3, 4, 1, 0] rfl) hf
    exact L_8 n p1 0 ls (lv_sub hl [1, 2, 0] rfl) hf
  · have hf := ite_f hf c1
    refine lv_iconst (v := (-1)) hx hb dX6_longest_4 (by decide) ?_
    have er0 := Option.some.inj hf
    rw [← hQ0]; exact W.iret (v := (-1)) hx hb hr (fun t ht hW => ⟨(-1), rfl, ⟨er0, trivial⟩, ht⟩) (fun q h => by cases h) dX6_longest_5
abbrev rmX6_speedFor : Room := { frames := 2, cells := 0, slots := 0, locals := 46 }
set_option maxHeartbeats 8000000 in
set_option maxRecDepth 100000 in
theorem c_X6_speedFor (l : Launch) (g : GG) (aM : Nat → Nat) (n : Nat) (XM : DM) (p1 p2 : Int32) (r : Int32) (hf : fX6_speedFor n XM p1 p2 = some r) : Met l yX6_speedFor wsX6_speedFor rmX6_speedFor (va_Pc [.ref (aM 0), .int p1, .int p2] (fun U => va_P g.1 vwCl (pM g aM XM) U.heap ∧ KW g U)) (vp_Si (fun r' => r' = r ∧ True)) 0 0 (fun _ => False) := by
  refine Met.ofW (cc := cX6_speedFor) (maxL := 6) (ret := (some .int)) (by decide) rfl ?_
  intro p e s m args below meth c s₁ B hml hv
  obtain ⟨hargs, hP, hKW⟩ := hv
  have hK := hKW.1
  have hx := B.exec
  have hb := B.bytes
  have hr := B.returns
  have hts := atoms_spec (ws := wsX6_speedFor) B.pre
  have hown : s.vm.findClass RX6 = some m.cls := findClass_of_methodNamed B.named
  have hlocks := B.notSynchronized
  have i_X6 : ∀ w ∈ wsX60, w ∈ wsX6_speedFor := fun w h => List.mem_cons_of_mem _ (List.mem_append_right _ h)
  have hent : entryFrame m args 6 = F0 m 0 ((lg_sl ([.ref (aM 0), .int p1, .int p2]) ++ List.replicate (6 - (lg_sl ([.ref (aM 0), .int p1, .int p2])).length) Slot.unset).toArray) [] := by rw [hargs]; exact lg_entry_eq _ _ _
  rw [hent]
  have hl := lv_entry ([.ref (aM 0), .int p1, .int p2]) (n := 6) (Nat.le_of_ble_eq_true rfl)
  generalize (lg_sl ([.ref (aM 0), .int p1, .int p2]) ++ List.replicate (6 - (lg_sl ([.ref (aM 0), .int p1, .int p2])).length) Slot.unset).toArray = ls at hl ⊢
  have hl : lv_has ls 6 [(0, .ref (aM 0)), (1, .int p1), (2, .int p2)] := hl
  generalize hQ0 : MQ below _ _ _ _ _ _ = Q0
  unfold fX6_speedFor at hf
  refine lv_aload_n hx hb dX6_speedFor_0 rfl (lv_at hl 0 rfl) ?_
  refine lv_iload_n hx hb dX6_speedFor_1 rfl (lv_at hl 1 rfl) ?_
  obtain ⟨r1, h2, hf⟩ := bnd_el hf
  refine rdV (As := [.int p1]) (rest := []) ⟨hx, hb, hml, hown, hts⟩ (c_X6_isPage l g aM _ _ _ h2) (cwV 1 hts gX6_speedFor_X6_isPage rfl rfl rfl (by decide +kernel) ⟨Nat.le_of_ble_eq_true rfl, Nat.le_of_ble_eq_true rfl⟩) hKW hP [0, 1, 2, 3, 4, 5, 6, 7, 8, 9, 10, 11] rfl (va_recv hK hP (ci := 6) (q0 := 0) rfl rfl) rfl hl.1 rfl (lv_room (Nat.le_of_ble_eq_true rfl)) dX6_speedFor_2 ⟨Nat.zero_le _, Nat.zero_le _⟩ (fun r3 q4 => ?_)
  obtain ⟨q4, nb5⟩ := q4
  refine lv_as q4.symm ?_
  rw [q4] at nb5
  refine lv_if_eq (tgt := 18) hx hb dX6_speedFor_5 (by decide) (fun c6 => ?_) (fun c6 => ?_)
  · have hf := ite_t hf c6
    refine lv_iconst (v := (-1)) hx hb dX6_speedFor_18 (by decide) ?_
    have er0 := Option.some.inj hf
    rw [← hQ0]; exact W.iret (v := (-1)) hx hb hr (fun t ht hW => ⟨(-1), rfl, ⟨er0, trivial⟩, ht⟩) (fun q h => by cases h) dX6_speedFor_19
  · have hf := ite_f hf c6
    refine lv_iload_n hx hb dX6_speedFor_8 rfl (lv_at hl 2 rfl) ?_
    refine lv_iconst (v := 0) hx hb dX6_speedFor_9 (by decide) ?_
    refine lv_ldc (v := 100000) hx hb hown (hts (.constant RX6 168 (100000)) (List.mem_of_getElem? (i := 1) rfl)) dX6_speedFor_10 ?_
    obtain ⟨r7, h8, hf⟩ := bnd_el hf
    refine rdS (As := [.int p2, .int 0, .int 100000]) (rest := []) ⟨hx, hb, hml, hown, hts⟩ (c_X6_in l g _ _ _ _ h8) (va_cwS 3 hts gX6_speedFor_X6_in rfl rfl rfl (by decide +kernel) ⟨Nat.le_of_ble_eq_true rfl, Nat.le_of_ble_eq_true rfl⟩) hKW hP [] rfl rfl hl.1 rfl (lv_room (Nat.le_of_ble_eq_true rfl)) dX6_speedFor_12 ⟨Nat.zero_le _, Nat.zero_le _⟩ (fun r9 q10 => ?_)
    obtain ⟨q10, nb11⟩ := q10
    refine lv_as q10.symm ?_
    rw [q10] at nb11
    refine lv_if_ne (tgt := 20) hx hb dX6_speedFor_15 (by decide) (fun c12 => ?_) (fun c12 => ?_)
    · have hf := ite_f hf c12
      refine lv_bipush (v := 50) hx hb dX6_speedFor_20 (by decide) ?_
      refine lv_istore_n (lv' := [(3, .int 50), (0, .ref (aM 0)), (1, .int p1), (2, .int p2)]) hx hb dX6_speedFor_22 rfl hl (by decide) rfl (fun ls hl => ?_)
      have L_23 : ∀ fu : Nat, ∀ (x1 x2 x3 : Int32) (ls : Array Slot), lv_has ls 6 [(0, .ref (aM 0)), (1, .int x1), (2, .int x2), (3, .int x3)] → fX6_speedFor_L23 n XM fu x1 x2 x3 = some r → W p l e (headSpec wsX6_speedFor rmX6_speedFor).room s m args below meth c s.heap [] 0 0 Q0 (F0 m 23 ls []) := by
        intro fu
        induction fu with
        | zero => intros; rename_i hf; rw [fX6_speedFor_L23] at hf; cases hf
        | succ fu ih =>
          intro x1 x2 x3 ls hl hf
          rw [fX6_speedFor_L23] at hf
          refine lv_iload_n hx hb dX6_speedFor_23 rfl (lv_at hl 3 rfl) ?_
          refine lv_sipush (v := 400) hx hb dX6_speedFor_24 (by decide) ?_
          refine lv_icmp_gt (tgt := 92) hx hb dX6_speedFor_27 (by decide) (fun c13 => ?_) (fun c13 => ?_)
          · have hf := ite_t hf c13
            refine lv_bipush (v := (-4)) hx hb dX6_speedFor_92 (by decide) ?_
            have er0 := Option.some.inj hf
            rw [← hQ0]; exact W.iret (v := (-4)) hx hb hr (fun t ht hW => ⟨(-4), rfl, ⟨er0, trivial⟩, ht⟩) (fun q h => by cases h) dX6_speedFor_94
          · have hf := ite_f hf c13
            refine lv_iconst (v := 0) hx hb dX6_speedFor_30 (by decide) ?_
            refine lv_istore (lv' := [(4, .int 0), (0, .ref (aM 0)), (1, .int x1), (2, .int x2), (3, .int x3)]) hx hb dX6_speedFor_31 hl (by decide) rfl (fun ls hl => ?_)
            refine lv_iconst (v := 0) hx hb dX6_speedFor_33 (by decide) ?_
            refine lv_istore (lv' := [(5, .int 0), (4, .int 0), (0, .ref (aM 0)), (1, .int x1), (2, .int x2), (3, .int x3)]) hx hb dX6_speedFor_34 hl (by decide) rfl (fun ls hl => ?_)
            obtain ⟨j78, ej78, hf⟩ := sl_el hf
            have J_78 : ∀ (x1 x2 x3 x4 : Int32) (ls : Array Slot), lv_has ls 6 [(0, .ref (aM 0)), (1, .int x1), (2, .int x2), (3, .int x3), (4, .int x4)] → j78 x1 x2 x3 x4 = some r → W p l e (headSpec wsX6_speedFor rmX6_speedFor).room s m args below meth c s.heap [] 0 0 Q0 (F0 m 78 ls []) := by
              intro x1 x2 x3 x4 ls hl hf
              rw [ej78] at hf
              refine lv_iload hx hb dX6_speedFor_78 (lv_at hl 4 rfl) ?_
              refine lv_iload_n hx hb dX6_speedFor_80 rfl (lv_at hl 2 rfl) ?_
              refine lv_icmp_gt (tgt := 86) hx hb dX6_speedFor_81 (by decide) (fun c14 => ?_) (fun c14 => ?_)
              · have hf := ite_t hf c14
                obtain ⟨v15, e16, hf⟩ := sl_el hf
                refine lv_iinc (v := v15) (lv' := [(3, .int v15), (0, .ref (aM 0)), (1, .int x1), (2, .int x2), (4, .int x4)]) hx hb dX6_speedFor_86 hl (k := 3) rfl (by rw [e16]; rfl) (by decide) rfl (fun ls hl => ?_)
                refine lv_goto (tgt := 23) hx hb dX6_speedFor_89 (by decide) ?_
                exact ih x1 x2 v15 ls (lv_sub hl [1, 2, 3, 0] rfl) hf
              · have hf := ite_f hf c14
                refine lv_iload_n hx hb dX6_speedFor_84 rfl (lv_at hl 3 rfl) ?_
                have er0 := Option.some.inj hf
                rw [← hQ0]; exact W.iret (v := x3) hx hb hr (fun t ht hW => ⟨x3, rfl, ⟨er0, trivial⟩, ht⟩) (fun q h => by cases h) dX6_speedFor_85
            have L_36 : ∀ fu : Nat, ∀ (x1 x2 x3 x4 x5 : Int32) (ls : Array Slot), lv_has ls 6 [(0, .ref (aM 0)), (1, .int x1), (2, .int x2), (3, .int x3), (4, .int x4), (5, .int x5)] → fX6_speedFor_L36 n XM j78 fu x1 x2 x3 x4 x5 = some r → W p l e (headSpec wsX6_speedFor rmX6_speedFor).room s m args below meth c s.heap [] 0 0 Q0 (F0 m 36 ls []) := by
              intro fu
              induction fu with
              | zero => intros; rename_i hf; rw [fX6_speedFor_L36] at hf; cases hf
              | succ fu ih =>
                intro x1 x2 x3 x4 x5 ls hl hf
                rw [fX6_speedFor_L36] at hf
                refine lv_iload hx hb dX6_speedFor_36 (lv_at hl 5 rfl) ?_
                refine lv_aload_n hx hb dX6_speedFor_38 rfl (lv_at hl 0 rfl) ?_
                refine va_get (D := g.1) (ci := 6) (v := .int (XM 9 0)) (C := RX6) (T := TX6) (N := 19) hx hb hts i_X6 hown hK hP 0 rfl rfl 9 (by decide) (hts (.fieldLink RX6 45 "WordFlasherModel" "words" "I") (List.mem_of_getElem? (i := 2) rfl)) (fun _ h9 => h9) rfl dX6_speedFor_39 ?_
                refine lv_icmp_ge (tgt := 78) hx hb dX6_speedFor_42 (by decide) (fun c17 => ?_) (fun c17 => ?_)
                · have hf := ite_t hf c17
                  exact J_78 x1 x2 x3 x4 ls (lv_sub hl [0, 1, 2, 3, 4] rfl) hf
                · have hf := ite_f hf c17
                  refine lv_iload hx hb dX6_speedFor_45 (lv_at hl 4 rfl) ?_
                  refine lv_aload_n hx hb dX6_speedFor_47 rfl (lv_at hl 0 rfl) ?_
                  refine va_get (D := g.1) (ci := 6) (v := .ref (aM 11)) (C := RX6) (T := TX6) (N := 19) hx hb hts i_X6 hown hK hP 0 rfl rfl 18 (by decide) (hts (.fieldLink RX6 42 "WordFlasherModel" "pageOf" "[I") (List.mem_of_getElem? (i := 3) rfl)) (fun _ h9 => h9) rfl dX6_speedFor_48 ?_
                  refine lv_iload hx hb dX6_speedFor_51 (lv_at hl 5 rfl) ?_
                  obtain ⟨h20, v18, e19, hf⟩ := rdA_el hf
                  refine va_iald hx hb hK hP 11 0 rfl rfl h20 dX6_speedFor_53 ?_
                  refine lv_as e19 ?_
                  refine lv_iload_n hx hb dX6_speedFor_54 rfl (lv_at hl 1 rfl) ?_
                  obtain ⟨j69, ej69, hf⟩ := sl_el hf
                  have J_69 : ∀ (x1 x2 x3 x5 k0 k1 : Int32) (ls : Array Slot), lv_has ls 6 [(0, .ref (aM 0)), (1, .int x1), (2, .int x2), (3, .int x3), (5, .int x5)] → j69 x1 x2 x3 x5 k0 k1 = some r → W p l e (headSpec wsX6_speedFor rmX6_speedFor).room s m args below meth c s.heap [] 0 0 Q0 (F0 m 69 ls [.int k1, .int k0]) := by
                    intro x1 x2 x3 x5 k0 k1 ls hl hf
                    rw [ej69] at hf
                    refine lv_iadd hx hb dX6_speedFor_69 ?_
                    obtain ⟨v21, e22, hf⟩ := sl_el hf
                    refine lv_as e22 ?_
                    refine lv_istore (lv' := [(4, .int v21), (0, .ref (aM 0)), (1, .int x1), (2, .int x2), (3, .int x3), (5, .int x5)]) hx hb dX6_speedFor_70 hl (by decide) rfl (fun ls hl => ?_)
                    obtain ⟨v23, e24, hf⟩ := sl_el hf
                    refine lv_iinc (v := v23) (lv' := [(5, .int v23), (4, .int v21), (0, .ref (aM 0)), (1, .int x1), (2, .int x2), (3, .int x3)]) hx hb dX6_speedFor_72 hl (k := 5) rfl (by rw [e24]; rfl) (by decide) rfl (fun ls hl => ?_)
                    refine lv_goto (tgt := 36) hx hb dX6_speedFor_75 (by decide) ?_
                    exact ih x1 x2 x3 v21 v23 ls (lv_sub hl [2, 3, 4, 5, 1, 0] rfl) hf
                  refine lv_icmp_ne (tgt := 68) hx hb dX6_speedFor_55 (by decide) (fun c25 => ?_) (fun c25 => ?_)
                  · have hf := ite_f hf c25
                    refine lv_iconst (v := 0) hx hb dX6_speedFor_68 (by decide) ?_
                    exact J_69 x1 x2 x3 x5 x4 0 ls (lv_sub hl [0, 1, 2, 3, 5] rfl) hf
                  · have hf := ite_t hf c25
                    refine lv_aload_n hx hb dX6_speedFor_58 rfl (lv_at hl 0 rfl) ?_
                    refine lv_iload hx hb dX6_speedFor_59 (lv_at hl 5 rfl) ?_
                    refine lv_iload_n hx hb dX6_speedFor_61 rfl (lv_at hl 3 rfl) ?_
                    obtain ⟨r26, h27, hf⟩ := bnd_el hf
                    refine rdV (As := [.int x5, .int x3]) (rest := [.int x4]) ⟨hx, hb, hml, hown, hts⟩ (c_X6_timeBy l g aM _ _ _ _ h27) (cwV 2 hts gX6_speedFor_X6_timeBy rfl rfl rfl (by decide +kernel) ⟨Nat.le_of_ble_eq_true rfl, Nat.le_of_ble_eq_true rfl⟩) hKW hP [0, 1, 2, 3, 4, 5, 6, 7, 8, 9, 10, 11] rfl (va_recv hK hP (ci := 6) (q0 := 0) rfl rfl) rfl hl.1 rfl (lv_room (Nat.le_of_ble_eq_true rfl)) dX6_speedFor_62 ⟨Nat.zero_le _, Nat.zero_le _⟩ (fun r28 q29 => ?_)
                    obtain ⟨q29, nb30⟩ := q29
                    refine lv_as q29.symm ?_
                    refine lv_goto (tgt := 69) hx hb dX6_speedFor_65 (by decide) ?_
                    exact J_69 x1 x2 x3 x5 x4 r26 ls (lv_sub hl [0, 1, 2, 3, 5] rfl) hf
            exact L_36 n x1 x2 x3 0 0 ls (lv_sub hl [2, 3, 4, 5, 1, 0] rfl) hf
      exact L_23 n p1 p2 50 ls (lv_sub hl [1, 2, 3, 0] rfl) hf
    · have hf := ite_t hf c12
      refine lv_iconst (v := (-1)) hx hb dX6_speedFor_18 (by decide) ?_
      have er0 := Option.some.inj hf
      rw [← hQ0]; exact W.iret (v := (-1)) hx hb hr (fun t ht hW => ⟨(-1), rfl, ⟨er0, trivial⟩, ht⟩) (fun q h => by cases h) dX6_speedFor_19
abbrev rmX6_order : Room := { frames := 1, cells := 0, slots := 0, locals := 22 }
set_option maxHeartbeats 8000000 in
set_option maxRecDepth 100000 in
theorem c_X6_order (l : Launch) (g : GG) (aM : Nat → Nat) (sz : Nat) (XM : DM) (p1 : Int32) (r : Int32) (XMz : DM) (hf : fX6_order XM p1 = some (r, XMz)) : Met l yX6_order wsX6_order rmX6_order (va_Pc [.ref (aM 0), .int p1] (fun U => U.heap.size = sz ∧ va_P g.1 vwCl (pM g aM XM) U.heap ∧ KW g U ∧ va_D (fun _ => True) (pM g aM XM))) (va_Qi (fun r' (_ : Unit) => r' = r ∧ True) (fun (_ : Unit) t => va_P g.1 vwCl (pM g aM XMz) t.heap) (va_A (pM g aM XM) sz)) 0 0 (va_A (pM g aM XM) sz) := by
  refine Met.ofW (cc := cX6_order) (maxL := 2) (ret := (some .int)) (by decide) rfl ?_
  intro p e s m args below meth c s₁ B hml hv
  obtain ⟨hargs, hsz, hP, hKW, hD0⟩ := hv
  have hK := hKW.1
  have hx := B.exec
  have hb := B.bytes
  have hr := B.returns
  have hts := atoms_spec (ws := wsX6_order) B.pre
  have hown : s.vm.findClass RX6 = some m.cls := findClass_of_methodNamed B.named
  have hlocks := B.notSynchronized
  subst hsz
  have hD := hD0.self (sz := s.heap.size)
  generalize hAe : va_A (pM g aM XM) s.heap.size = A at hD ⊢
  have hA : ∀ q : Nat, s.heap.size ≤ q → A q := fun q h => by rw [← hAe]; exact Or.inr h
  have hS : va_S A s.heap s.heap [] := va_S.rf
  have i_X6 : ∀ w ∈ wsX60, w ∈ wsX6_order := fun w h => List.mem_cons_of_mem _ (List.mem_append_right _ h)
  have hent : entryFrame m args 2 = F0 m 0 ((lg_sl ([.ref (aM 0), .int p1]) ++ List.replicate (2 - (lg_sl ([.ref (aM 0), .int p1])).length) Slot.unset).toArray) [] := by rw [hargs]; exact lg_entry_eq _ _ _
  rw [hent]
  have hl := lv_entry ([.ref (aM 0), .int p1]) (n := 2) (Nat.le_of_ble_eq_true rfl)
  generalize (lg_sl ([.ref (aM 0), .int p1]) ++ List.replicate (2 - (lg_sl ([.ref (aM 0), .int p1])).length) Slot.unset).toArray = ls at hl ⊢
  have hl : lv_has ls 2 [(0, .ref (aM 0)), (1, .int p1)] := hl
  generalize hQ0 : MQ below _ _ _ _ _ _ = Q0
  unfold fX6_order at hf
  refine lv_iload_n hx hb dX6_order_0 rfl (lv_at hl 1 rfl) ?_
  refine lv_bipush (v := 32) hx hb dX6_order_1 (by decide) ?_
  refine lv_bipush (v := 126) hx hb dX6_order_3 (by decide) ?_
  obtain ⟨r1, h2, hf⟩ := bnd_el hf
  refine rdS (As := [.int p1, .int 32, .int 126]) (rest := []) ⟨hx, hb, hml, hown, hts⟩ (c_X6_in l g _ _ _ _ h2) (va_cwS 3 hts gX6_order_X6_in rfl rfl rfl (by decide +kernel) ⟨Nat.le_of_ble_eq_true rfl, Nat.le_of_ble_eq_true rfl⟩) hKW hP [] rfl rfl hl.1 rfl (lv_room (Nat.le_of_ble_eq_true rfl)) dX6_order_5 ⟨Nat.zero_le _, Nat.zero_le _⟩ (fun r3 q4 => ?_)
  obtain ⟨q4, nb5⟩ := q4
  refine lv_as q4.symm ?_
  rw [q4] at nb5
  refine lv_if_ne (tgt := 13) hx hb dX6_order_8 (by decide) (fun c6 => ?_) (fun c6 => ?_)
  · have hf := ite_f hf c6
    refine lv_aload_n hx hb dX6_order_13 rfl (lv_at hl 0 rfl) ?_
    refine va_get (D := g.1) (ci := 6) (v := .int (XM 5 0)) (C := RX6) (T := TX6) (N := 19) hx hb hts i_X6 hown hK hP 0 rfl rfl 5 (by decide) (hts (.fieldLink RX6 131 "WordFlasherModel" "ordered" "I") (List.mem_of_getElem? (i := 1) rfl)) (fun _ h9 => h9) rfl dX6_order_14 ?_
    refine lv_bipush (v := 60) hx hb dX6_order_17 (by decide) ?_
    refine lv_icmp_ne (tgt := 25) hx hb dX6_order_19 (by decide) (fun c7 => ?_) (fun c7 => ?_)
    · have hf := ite_f hf c7
      refine lv_aload_n hx hb dX6_order_25 rfl (lv_at hl 0 rfl) ?_
      refine va_get (D := g.1) (ci := 6) (v := .ref (aM 4)) (C := RX6) (T := TX6) (N := 19) hx hb hts i_X6 hown hK hP 0 rfl rfl 4 (by decide) (hts (.fieldLink RX6 19 "WordFlasherModel" "orders" "[C") (List.mem_of_getElem? (i := 2) rfl)) (fun _ h9 => h9) rfl dX6_order_26 ?_
      refine lv_aload_n hx hb dX6_order_29 rfl (lv_at hl 0 rfl) ?_
      refine va_get (D := g.1) (ci := 6) (v := .int (XM 5 0)) (C := RX6) (T := TX6) (N := 19) hx hb hts i_X6 hown hK hP 0 rfl rfl 5 (by decide) (hts (.fieldLink RX6 131 "WordFlasherModel" "ordered" "I") (List.mem_of_getElem? (i := 1) rfl)) (fun _ h9 => h9) rfl dX6_order_30 ?_
      refine lv_iload_n hx hb dX6_order_33 rfl (lv_at hl 1 rfl) ?_
      refine lv_i2c (v := (p1.toUInt32 % 65536).toInt32) hx hb dX6_order_34 rfl ?_
      obtain ⟨h10, f8, e9, hf⟩ := wrA_el hf
      obtain ⟨X11, e12, hf⟩ := sl_el hf
      refine va_cast hx hb hK hP hD hS 4 1 rfl rfl h10 dX6_order_35 (fun H locs hP hD hS => ?_)
      have hP : va_P g.1 vwCl (pM g aM X11) H := by subst e12; subst e9; exact hP
      have hD : va_D A (pM g aM X11) := by subst e12; subst e9; exact hD
      refine lv_aload_n hx hb dX6_order_36 rfl (lv_at hl 0 rfl) ?_
      refine lv_dup hx hb dX6_order_37 rfl ?_
      refine va_get (D := g.1) (ci := 6) (v := .int (X11 5 0)) (C := RX6) (T := TX6) (N := 19) hx hb hts i_X6 hown hK hP 0 rfl rfl 5 (by decide) (hts (.fieldLink RX6 131 "WordFlasherModel" "ordered" "I") (List.mem_of_getElem? (i := 1) rfl)) (fun _ h9 => h9) rfl dX6_order_38 ?_
      refine lv_iconst (v := 1) hx hb dX6_order_41 (by decide) ?_
      refine lv_iadd hx hb dX6_order_42 ?_
      obtain ⟨X13, e14, hf⟩ := sl_el hf
      refine va_put (D := g.1) (ci := 6) (v := .int ((X11 5 0) + 1)) (ty := .int) (C := RX6) (T := TX6) (N := 19) hx hb hts i_X6 tyX6 tyX6_ok nmX6 hown hK hP hD hS 0 rfl rfl 5 (by decide) (hts (.fieldLink RX6 131 "WordFlasherModel" "ordered" "I") (List.mem_of_getElem? (i := 1) rfl)) (fun _ h9 => h9) rfl (by decide +kernel) rfl rfl (Nat.le_of_ble_eq_true rfl) dX6_order_43 (fun H locs hP hD hS => ?_)
      have hP : va_P g.1 vwCl (pM g aM X13) H := by subst e14; exact hP
      have hD : va_D A (pM g aM X13) := by subst e14; exact hD
      refine lv_aload_n hx hb dX6_order_46 rfl (lv_at hl 0 rfl) ?_
      refine va_get (D := g.1) (ci := 6) (v := .int (X13 5 0)) (C := RX6) (T := TX6) (N := 19) hx hb hts i_X6 hown hK hP 0 rfl rfl 5 (by decide) (hts (.fieldLink RX6 131 "WordFlasherModel" "ordered" "I") (List.mem_of_getElem? (i := 1) rfl)) (fun _ h9 => h9) rfl dX6_order_47 ?_
      have er0 := Option.some.inj hf
      obtain ⟨er0, er1⟩ := Prod.mk.inj er0
      rw [← hQ0]; exact W.iret (v := (X13 5 0)) hx hb hr (fun t ht hW => ⟨⟨(X13 5 0), (), rfl, ⟨er0, trivial⟩, by dsimp only; rw [ht, ← er1]; exact hP⟩, hS.F ht⟩) hS.2.2 dX6_order_50
    · have hf := ite_t hf c7
      refine lv_bipush (v := (-3)) hx hb dX6_order_22 (by decide) ?_
      have er0 := Option.some.inj hf
      obtain ⟨er0, er1⟩ := Prod.mk.inj er0
      rw [← hQ0]; exact W.iret (v := (-3)) hx hb hr (fun t ht hW => ⟨⟨(-3), (), rfl, ⟨er0, trivial⟩, by dsimp only; rw [ht, ← er1]; exact hP⟩, hS.F ht⟩) hS.2.2 dX6_order_24
  · have hf := ite_t hf c6
    refine lv_iconst (v := (-1)) hx hb dX6_order_11 (by decide) ?_
    have er0 := Option.some.inj hf
    obtain ⟨er0, er1⟩ := Prod.mk.inj er0
    rw [← hQ0]; exact W.iret (v := (-1)) hx hb hr (fun t ht hW => ⟨⟨(-1), (), rfl, ⟨er0, trivial⟩, by dsimp only; rw [ht, ← er1]; exact hP⟩, hS.F ht⟩) hS.2.2 dX6_order_12
abbrev rmX6_clearOrders : Room := { frames := 0, cells := 0, slots := 0, locals := 0 }
set_option maxHeartbeats 8000000 in
set_option maxRecDepth 100000 in
theorem c_X6_clearOrders (l : Launch) (g : GG) (aM : Nat → Nat) (sz : Nat) (XM : DM) (r : Int32) (XMz : DM) (hf : fX6_clearOrders XM = some (r, XMz)) : Met l yX6_clearOrders wsX6_clearOrders rmX6_clearOrders (va_Pc [.ref (aM 0)] (fun U => U.heap.size = sz ∧ va_P g.1 vwCl (pM g aM XM) U.heap ∧ KW g U ∧ va_D (fun _ => True) (pM g aM XM))) (va_Qi (fun r' (_ : Unit) => r' = r ∧ True) (fun (_ : Unit) t => va_P g.1 vwCl (pM g aM XMz) t.heap) (va_A (pM g aM XM) sz)) 0 0 (va_A (pM g aM XM) sz) := by
  refine Met.ofW (cc := cX6_clearOrders) (maxL := 2) (ret := (some .int)) (by decide) rfl ?_
  intro p e s m args below meth c s₁ B hml hv
  obtain ⟨hargs, hsz, hP, hKW, hD0⟩ := hv
  have hK := hKW.1
  have hx := B.exec
  have hb := B.bytes
  have hr := B.returns
  have hts := atoms_spec (ws := wsX6_clearOrders) B.pre
  have hown : s.vm.findClass RX6 = some m.cls := findClass_of_methodNamed B.named
  have hlocks := B.notSynchronized
  subst hsz
  have hD := hD0.self (sz := s.heap.size)
  generalize hAe : va_A (pM g aM XM) s.heap.size = A at hD ⊢
  have hA : ∀ q : Nat, s.heap.size ≤ q → A q := fun q h => by rw [← hAe]; exact Or.inr h
  have hS : va_S A s.heap s.heap [] := va_S.rf
  have i_X6 : ∀ w ∈ wsX60, w ∈ wsX6_clearOrders := fun w h => List.mem_cons_of_mem _ (List.mem_append_right _ h)
  have hent : entryFrame m args 2 = F0 m 0 ((lg_sl ([.ref (aM 0)]) ++ List.replicate (2 - (lg_sl ([.ref (aM 0)])).length) Slot.unset).toArray) [] := by rw [hargs]; exact lg_entry_eq _ _ _
  rw [hent]
  have hl := lv_entry ([.ref (aM 0)]) (n := 2) (Nat.le_of_ble_eq_true rfl)
  generalize (lg_sl ([.ref (aM 0)]) ++ List.replicate (2 - (lg_sl ([.ref (aM 0)])).length) Slot.unset).toArray = ls at hl ⊢
  have hl : lv_has ls 2 [(0, .ref (aM 0))] := hl
  generalize hQ0 : MQ below _ _ _ _ _ _ = Q0
  unfold fX6_clearOrders at hf
  refine lv_aload_n hx hb dX6_clearOrders_0 rfl (lv_at hl 0 rfl) ?_
  refine va_get (D := g.1) (ci := 6) (v := .int (XM 5 0)) (C := RX6) (T := TX6) (N := 19) hx hb hts i_X6 hown hK hP 0 rfl rfl 5 (by decide) (hts (.fieldLink RX6 131 "WordFlasherModel" "ordered" "I") (List.mem_of_getElem? (i := 1) rfl)) (fun _ h9 => h9) rfl dX6_clearOrders_1 ?_
  refine lv_istore_n (lv' := [(1, .int (XM 5 0)), (0, .ref (aM 0))]) hx hb dX6_clearOrders_4 rfl hl (by decide) rfl (fun ls hl => ?_)
  refine lv_aload_n hx hb dX6_clearOrders_5 rfl (lv_at hl 1 rfl) ?_
  refine lv_iconst (v := 0) hx hb dX6_clearOrders_6 (by decide) ?_
  obtain ⟨X1, e2, hf⟩ := sl_el hf
  refine va_put (D := g.1) (ci := 6) (v := .int 0) (ty := .int) (C := RX6) (T := TX6) (N := 19) hx hb hts i_X6 tyX6 tyX6_ok nmX6 hown hK hP hD hS 0 rfl rfl 5 (by decide) (hts (.fieldLink RX6 131 "WordFlasherModel" "ordered" "I") (List.mem_of_getElem? (i := 1) rfl)) (fun _ h9 => h9) rfl (by decide +kernel) rfl rfl (Nat.le_of_ble_eq_true rfl) dX6_clearOrders_7 (fun H locs hP hD hS => ?_)
  have hP : va_P g.1 vwCl (pM g aM X1) H := by subst e2; exact hP
  have hD : va_D A (pM g aM X1) := by subst e2; exact hD
  refine lv_iload_n hx hb dX6_clearOrders_10 rfl (lv_at hl 0 rfl) ?_
  have er0 := Option.some.inj hf
  obtain ⟨er0, er1⟩ := Prod.mk.inj er0
  rw [← hQ0]; exact W.iret (v := (XM 5 0)) hx hb hr (fun t ht hW => ⟨⟨(XM 5 0), (), rfl, ⟨er0, trivial⟩, by dsimp only; rw [ht, ← er1]; exact hP⟩, hS.F ht⟩) hS.2.2 dX6_clearOrders_11
abbrev rmX6_readsNumber : Room := { frames := 2, cells := 0, slots := 0, locals := 42 }
set_option maxHeartbeats 8000000 in
set_option maxRecDepth 100000 in
theorem c_X6_readsNumber (l : Launch) (g : GG) (aM : Nat → Nat) (sz : Nat) (n : Nat) (XM : DM) (p1 p2 : Int32) (r : Int32) (XMz : DM) (hf : fX6_readsNumber n XM p1 p2 = some (r, XMz)) : Met l yX6_readsNumber wsX6_readsNumber rmX6_readsNumber (va_Pc [.ref (aM 0), .int p1, .int p2] (fun U => U.heap.size = sz ∧ va_P g.1 vwCl (pM g aM XM) U.heap ∧ KW g U ∧ va_D (fun _ => True) (pM g aM XM))) (va_Qi (fun r' (_ : Unit) => r' = r ∧ narrow .boolean (.int r') = .int r') (fun (_ : Unit) t => va_P g.1 vwCl (pM g aM XMz) t.heap) (va_A (pM g aM XM) sz)) 0 0 (va_A (pM g aM XM) sz) := by
  refine Met.ofW (cc := cX6_readsNumber) (maxL := 4) (ret := (some .boolean)) (by decide) rfl ?_
  intro p e s m args below meth c s₁ B hml hv
  obtain ⟨hargs, hsz, hP, hKW, hD0⟩ := hv
  have hK := hKW.1
  have hx := B.exec
  have hb := B.bytes
  have hr := B.returns
  have hts := atoms_spec (ws := wsX6_readsNumber) B.pre
  have hown : s.vm.findClass RX6 = some m.cls := findClass_of_methodNamed B.named
  have hlocks := B.notSynchronized
  subst hsz
  have hD := hD0.self (sz := s.heap.size)
  generalize hAe : va_A (pM g aM XM) s.heap.size = A at hD ⊢
  have hA : ∀ q : Nat, s.heap.size ≤ q → A q := fun q h => by rw [← hAe]; exact Or.inr h
  have hS : va_S A s.heap s.heap [] := va_S.rf
  have i_X6 : ∀ w ∈ wsX60, w ∈ wsX6_readsNumber := fun w h => List.mem_cons_of_mem _ (List.mem_append_right _ h)
  have hent : entryFrame m args 4 = F0 m 0 ((lg_sl ([.ref (aM 0), .int p1, .int p2]) ++ List.replicate (4 - (lg_sl ([.ref (aM 0), .int p1, .int p2])).length) Slot.unset).toArray) [] := by rw [hargs]; exact lg_entry_eq _ _ _
  rw [hent]
  have hl := lv_entry ([.ref (aM 0), .int p1, .int p2]) (n := 4) (Nat.le_of_ble_eq_true rfl)
  generalize (lg_sl ([.ref (aM 0), .int p1, .int p2]) ++ List.replicate (4 - (lg_sl ([.ref (aM 0), .int p1, .int p2])).length) Slot.unset).toArray = ls at hl ⊢
  have hl : lv_has ls 4 [(0, .ref (aM 0)), (1, .int p1), (2, .int p2)] := hl
  generalize hQ0 : MQ below _ _ _ _ _ _ = Q0
  unfold fX6_readsNumber at hf
  refine lv_aload_n hx hb dX6_readsNumber_0 rfl (lv_at hl 0 rfl) ?_
  refine va_get (D := g.1) (ci := 6) (v := .int (XM 6 0)) (C := RX6) (T := TX6) (N := 19) hx hb hts i_X6 hown hK hP 0 rfl rfl 6 (by decide) (hts (.fieldLink RX6 169 "WordFlasherModel" "at" "I") (List.mem_of_getElem? (i := 1) rfl)) (fun _ h9 => h9) rfl dX6_readsNumber_1 ?_
  refine lv_istore_n (lv' := [(3, .int (XM 6 0)), (0, .ref (aM 0)), (1, .int p1), (2, .int p2)]) hx hb dX6_readsNumber_4 rfl hl (by decide) rfl (fun ls hl => ?_)
  refine lv_aload_n hx hb dX6_readsNumber_5 rfl (lv_at hl 1 rfl) ?_
  refine lv_iconst (v := 0) hx hb dX6_readsNumber_6 (by decide) ?_
  obtain ⟨X1, e2, hf⟩ := sl_el hf
  refine va_put (D := g.1) (ci := 6) (v := .int 0) (ty := .int) (C := RX6) (T := TX6) (N := 19) hx hb hts i_X6 tyX6 tyX6_ok nmX6 hown hK hP hD hS 0 rfl rfl 8 (by decide) (hts (.fieldLink RX6 172 "WordFlasherModel" "number" "I") (List.mem_of_getElem? (i := 2) rfl)) (fun _ h9 => h9) rfl (by decide +kernel) rfl rfl (Nat.le_of_ble_eq_true rfl) dX6_readsNumber_7 (fun H locs hP hD hS => ?_)
  have hP : va_P g.1 vwCl (pM g aM X1) H := by subst e2; exact hP
  have hD : va_D A (pM g aM X1) := by subst e2; exact hD
  obtain ⟨j83, ej83, hf⟩ := sl_el hf
  have J_83 : ∀ (x1 x2 x3 : Int32) (XM : DM) (H : Heap) (locs : List Loc) (ls : Array Slot), va_P g.1 vwCl (pM g aM XM) H → va_D A (pM g aM XM) → va_S A s.heap H locs → lv_has ls 4 [(0, .ref (aM 0)), (1, .int x1), (2, .int x2), (3, .int x3)] → j83 x1 x2 x3 XM = some (r, XMz) → W p l e (headSpec wsX6_readsNumber rmX6_readsNumber).room s m args below meth c H locs 0 0 Q0 (F0 m 83 ls []) := by
    intro x1 x2 x3 XM H locs ls hP hD hS hl hf
    rw [ej83] at hf
    refine lv_aload_n hx hb dX6_readsNumber_83 rfl (lv_at hl 0 rfl) ?_
    refine va_get (D := g.1) (ci := 6) (v := .int (XM 6 0)) (C := RX6) (T := TX6) (N := 19) hx hb hts i_X6 hown hK hP 0 rfl rfl 6 (by decide) (hts (.fieldLink RX6 169 "WordFlasherModel" "at" "I") (List.mem_of_getElem? (i := 1) rfl)) (fun _ h9 => h9) rfl dX6_readsNumber_84 ?_
    refine lv_iload_n hx hb dX6_readsNumber_87 rfl (lv_at hl 3 rfl) ?_
    refine lv_icmp_le (tgt := 107) hx hb dX6_readsNumber_88 (by decide) (fun c3 => ?_) (fun c3 => ?_)
    · have hf := ite_t hf c3
      refine lv_iconst (v := 0) hx hb dX6_readsNumber_107 (by decide) ?_
      have er0 := Option.some.inj hf
      obtain ⟨er0, er1⟩ := Prod.mk.inj er0
      rw [← hQ0]; exact W.zret (v := 0) hx hb hr rfl (fun t ht hW => ⟨⟨0, (), rfl, ⟨er0, rfl⟩, by dsimp only; rw [ht, ← er1]; exact hP⟩, hS.F ht⟩) hS.2.2 dX6_readsNumber_108
    · have hf := ite_f hf c3
      refine lv_aload_n hx hb dX6_readsNumber_91 rfl (lv_at hl 0 rfl) ?_
      refine va_get (D := g.1) (ci := 6) (v := .int (XM 8 0)) (C := RX6) (T := TX6) (N := 19) hx hb hts i_X6 hown hK hP 0 rfl rfl 8 (by decide) (hts (.fieldLink RX6 172 "WordFlasherModel" "number" "I") (List.mem_of_getElem? (i := 2) rfl)) (fun _ h9 => h9) rfl dX6_readsNumber_92 ?_
      refine lv_iload_n hx hb dX6_readsNumber_95 rfl (lv_at hl 1 rfl) ?_
      refine lv_iload_n hx hb dX6_readsNumber_96 rfl (lv_at hl 2 rfl) ?_
      obtain ⟨r4, h5, hf⟩ := bnd_el hf
      refine rdS (As := [.int (XM 8 0), .int x1, .int x2]) (rest := []) ⟨hx, hb, hml, hown, hts⟩ (c_X6_in l g _ _ _ _ h5) (va_cwS 3 hts gX6_readsNumber_X6_in rfl rfl rfl (by decide +kernel) ⟨Nat.le_of_ble_eq_true rfl, Nat.le_of_ble_eq_true rfl⟩) hKW hP [] rfl rfl hl.1 rfl (lv_room (Nat.le_of_ble_eq_true rfl)) dX6_readsNumber_97 ⟨Nat.zero_le _, Nat.zero_le _⟩ (fun r6 q7 => ?_)
      obtain ⟨q7, nb8⟩ := q7
      refine lv_as q7.symm ?_
      rw [q7] at nb8
      refine lv_if_eq (tgt := 107) hx hb dX6_readsNumber_100 (by decide) (fun c9 => ?_) (fun c9 => ?_)
      · have hf := ite_t hf c9
        refine lv_iconst (v := 0) hx hb dX6_readsNumber_107 (by decide) ?_
        have er0 := Option.some.inj hf
        obtain ⟨er0, er1⟩ := Prod.mk.inj er0
        rw [← hQ0]; exact W.zret (v := 0) hx hb hr rfl (fun t ht hW => ⟨⟨0, (), rfl, ⟨er0, rfl⟩, by dsimp only; rw [ht, ← er1]; exact hP⟩, hS.F ht⟩) hS.2.2 dX6_readsNumber_108
      · have hf := ite_f hf c9
        refine lv_iconst (v := 1) hx hb dX6_readsNumber_103 (by decide) ?_
        refine lv_goto (tgt := 108) hx hb dX6_readsNumber_104 (by decide) ?_
        have er0 := Option.some.inj hf
        obtain ⟨er0, er1⟩ := Prod.mk.inj er0
        rw [← hQ0]; exact W.zret (v := 1) hx hb hr rfl (fun t ht hW => ⟨⟨1, (), rfl, ⟨er0, rfl⟩, by dsimp only; rw [ht, ← er1]; exact hP⟩, hS.F ht⟩) hS.2.2 dX6_readsNumber_108
  have L_10 : ∀ fu : Nat, ∀ (x1 x2 x3 : Int32) (XM : DM) (H : Heap) (locs : List Loc) (ls : Array Slot), va_P g.1 vwCl (pM g aM XM) H → va_D A (pM g aM XM) → va_S A s.heap H locs → lv_has ls 4 [(0, .ref (aM 0)), (1, .int x1), (2, .int x2), (3, .int x3)] → fX6_readsNumber_L10 n j83 fu x1 x2 x3 XM = some (r, XMz) → W p l e (headSpec wsX6_readsNumber rmX6_readsNumber).room s m args below meth c H locs 0 0 Q0 (F0 m 10 ls []) := by
    intro fu
    induction fu with
    | zero => intros; rename_i hf; rw [fX6_readsNumber_L10] at hf; cases hf
    | succ fu ih =>
      intro x1 x2 x3 XM H locs ls hP hD hS hl hf
      rw [fX6_readsNumber_L10] at hf
      refine lv_aload_n hx hb dX6_readsNumber_10 rfl (lv_at hl 0 rfl) ?_
      refine va_get (D := g.1) (ci := 6) (v := .int (XM 6 0)) (C := RX6) (T := TX6) (N := 19) hx hb hts i_X6 hown hK hP 0 rfl rfl 6 (by decide) (hts (.fieldLink RX6 169 "WordFlasherModel" "at" "I") (List.mem_of_getElem? (i := 1) rfl)) (fun _ h9 => h9) rfl dX6_readsNumber_11 ?_
      refine lv_aload_n hx hb dX6_readsNumber_14 rfl (lv_at hl 0 rfl) ?_
      refine va_get (D := g.1) (ci := 6) (v := .int (XM 5 0)) (C := RX6) (T := TX6) (N := 19) hx hb hts i_X6 hown hK hP 0 rfl rfl 5 (by decide) (hts (.fieldLink RX6 131 "WordFlasherModel" "ordered" "I") (List.mem_of_getElem? (i := 3) rfl)) (fun _ h9 => h9) rfl dX6_readsNumber_15 ?_
      refine lv_icmp_ge (tgt := 83) hx hb dX6_readsNumber_18 (by decide) (fun c10 => ?_) (fun c10 => ?_)
      · have hf := ite_t hf c10
        exact J_83 x1 x2 x3 XM _ _ ls hP hD hS (lv_sub hl [0, 1, 2, 3] rfl) hf
      · have hf := ite_f hf c10
        refine lv_aload_n hx hb dX6_readsNumber_21 rfl (lv_at hl 0 rfl) ?_
        refine va_get (D := g.1) (ci := 6) (v := .int (XM 6 0)) (C := RX6) (T := TX6) (N := 19) hx hb hts i_X6 hown hK hP 0 rfl rfl 6 (by decide) (hts (.fieldLink RX6 169 "WordFlasherModel" "at" "I") (List.mem_of_getElem? (i := 1) rfl)) (fun _ h9 => h9) rfl dX6_readsNumber_22 ?_
        refine lv_iload_n hx hb dX6_readsNumber_25 rfl (lv_at hl 3 rfl) ?_
        refine lv_iconst (v := 3) hx hb dX6_readsNumber_26 (by decide) ?_
        refine lv_iadd hx hb dX6_readsNumber_27 ?_
        refine lv_icmp_ge (tgt := 83) hx hb dX6_readsNumber_28 (by decide) (fun c11 => ?_) (fun c11 => ?_)
        · have hf := ite_t hf c11
          exact J_83 x1 x2 x3 XM _ _ ls hP hD hS (lv_sub hl [0, 1, 2, 3] rfl) hf
        · have hf := ite_f hf c11
          refine lv_aload_n hx hb dX6_readsNumber_31 rfl (lv_at hl 0 rfl) ?_
          refine va_get (D := g.1) (ci := 6) (v := .ref (aM 4)) (C := RX6) (T := TX6) (N := 19) hx hb hts i_X6 hown hK hP 0 rfl rfl 4 (by decide) (hts (.fieldLink RX6 19 "WordFlasherModel" "orders" "[C") (List.mem_of_getElem? (i := 4) rfl)) (fun _ h9 => h9) rfl dX6_readsNumber_32 ?_
          refine lv_aload_n hx hb dX6_readsNumber_35 rfl (lv_at hl 0 rfl) ?_
          refine va_get (D := g.1) (ci := 6) (v := .int (XM 6 0)) (C := RX6) (T := TX6) (N := 19) hx hb hts i_X6 hown hK hP 0 rfl rfl 6 (by decide) (hts (.fieldLink RX6 169 "WordFlasherModel" "at" "I") (List.mem_of_getElem? (i := 1) rfl)) (fun _ h9 => h9) rfl dX6_readsNumber_36 ?_
          obtain ⟨h14, v12, e13, hf⟩ := rdA_el hf
          refine va_cald hx hb hK hP 4 1 rfl rfl h14 dX6_readsNumber_39 ?_
          refine lv_as e13 ?_
          obtain ⟨r15, h16, hf⟩ := bnd_el hf
          refine rdS (As := [.int v12]) (rest := []) ⟨hx, hb, hml, hown, hts⟩ (c_X6_isFigure l g _ _ h16) (va_cwS 1 hts gX6_readsNumber_X6_isFigure rfl rfl rfl (by decide +kernel) ⟨Nat.le_of_ble_eq_true rfl, Nat.le_of_ble_eq_true rfl⟩) hKW hP [] rfl rfl hl.1 rfl (lv_room (Nat.le_of_ble_eq_true rfl)) dX6_readsNumber_40 ⟨Nat.zero_le _, Nat.zero_le _⟩ (fun r17 q18 => ?_)
          obtain ⟨q18, nb19⟩ := q18
          refine lv_as q18.symm ?_
          rw [q18] at nb19
          refine lv_if_eq (tgt := 83) hx hb dX6_readsNumber_43 (by decide) (fun c20 => ?_) (fun c20 => ?_)
          · have hf := ite_t hf c20
            exact J_83 x1 x2 x3 XM _ _ ls hP hD hS (lv_sub hl [0, 1, 2, 3] rfl) hf
          · have hf := ite_f hf c20
            refine lv_aload_n hx hb dX6_readsNumber_46 rfl (lv_at hl 0 rfl) ?_
            refine lv_bipush (v := 10) hx hb dX6_readsNumber_47 (by decide) ?_
            refine lv_aload_n hx hb dX6_readsNumber_49 rfl (lv_at hl 0 rfl) ?_
            refine va_get (D := g.1) (ci := 6) (v := .int (XM 8 0)) (C := RX6) (T := TX6) (N := 19) hx hb hts i_X6 hown hK hP 0 rfl rfl 8 (by decide) (hts (.fieldLink RX6 172 "WordFlasherModel" "number" "I") (List.mem_of_getElem? (i := 2) rfl)) (fun _ h9 => h9) rfl dX6_readsNumber_50 ?_
            refine lv_imul hx hb dX6_readsNumber_53 ?_
            refine lv_aload_n hx hb dX6_readsNumber_54 rfl (lv_at hl 0 rfl) ?_
            refine va_get (D := g.1) (ci := 6) (v := .ref (aM 4)) (C := RX6) (T := TX6) (N := 19) hx hb hts i_X6 hown hK hP 0 rfl rfl 4 (by decide) (hts (.fieldLink RX6 19 "WordFlasherModel" "orders" "[C") (List.mem_of_getElem? (i := 4) rfl)) (fun _ h9 => h9) rfl dX6_readsNumber_55 ?_
            refine lv_aload_n hx hb dX6_readsNumber_58 rfl (lv_at hl 0 rfl) ?_
            refine va_get (D := g.1) (ci := 6) (v := .int (XM 6 0)) (C := RX6) (T := TX6) (N := 19) hx hb hts i_X6 hown hK hP 0 rfl rfl 6 (by decide) (hts (.fieldLink RX6 169 "WordFlasherModel" "at" "I") (List.mem_of_getElem? (i := 1) rfl)) (fun _ h9 => h9) rfl dX6_readsNumber_59 ?_
            obtain ⟨h23, v21, e22, hf⟩ := rdA_el hf
            refine va_cald hx hb hK hP 4 1 rfl rfl h23 dX6_readsNumber_62 ?_
            refine lv_as e22 ?_
            refine lv_iadd hx hb dX6_readsNumber_63 ?_
            refine lv_bipush (v := 48) hx hb dX6_readsNumber_64 (by decide) ?_
            refine lv_isub hx hb dX6_readsNumber_66 ?_
            obtain ⟨X24, e25, hf⟩ := sl_el hf
            refine va_put (D := g.1) (ci := 6) (v := .int (((10 * (XM 8 0)) + v21) - 48)) (ty := .int) (C := RX6) (T := TX6) (N := 19) hx hb hts i_X6 tyX6 tyX6_ok nmX6 hown hK hP hD hS 0 rfl rfl 8 (by decide) (hts (.fieldLink RX6 172 "WordFlasherModel" "number" "I") (List.mem_of_getElem? (i := 2) rfl)) (fun _ h9 => h9) rfl (by decide +kernel) rfl rfl (Nat.le_of_ble_eq_true rfl) dX6_readsNumber_67 (fun H locs hP hD hS => ?_)
            have hP : va_P g.1 vwCl (pM g aM X24) H := by subst e25; exact hP
            have hD : va_D A (pM g aM X24) := by subst e25; exact hD
            refine lv_aload_n hx hb dX6_readsNumber_70 rfl (lv_at hl 0 rfl) ?_
            refine lv_dup hx hb dX6_readsNumber_71 rfl ?_
            refine va_get (D := g.1) (ci := 6) (v := .int (X24 6 0)) (C := RX6) (T := TX6) (N := 19) hx hb hts i_X6 hown hK hP 0 rfl rfl 6 (by decide) (hts (.fieldLink RX6 169 "WordFlasherModel" "at" "I") (List.mem_of_getElem? (i := 1) rfl)) (fun _ h9 => h9) rfl dX6_readsNumber_72 ?_
            refine lv_iconst (v := 1) hx hb dX6_readsNumber_75 (by decide) ?_
            refine lv_iadd hx hb dX6_readsNumber_76 ?_
            obtain ⟨X26, e27, hf⟩ := sl_el hf
            refine va_put (D := g.1) (ci := 6) (v := .int ((X24 6 0) + 1)) (ty := .int) (C := RX6) (T := TX6) (N := 19) hx hb hts i_X6 tyX6 tyX6_ok nmX6 hown hK hP hD hS 0 rfl rfl 6 (by decide) (hts (.fieldLink RX6 169 "WordFlasherModel" "at" "I") (List.mem_of_getElem? (i := 1) rfl)) (fun _ h9 => h9) rfl (by decide +kernel) rfl rfl (Nat.le_of_ble_eq_true rfl) dX6_readsNumber_77 (fun H locs hP hD hS => ?_)
            have hP : va_P g.1 vwCl (pM g aM X26) H := by subst e27; exact hP
            have hD : va_D A (pM g aM X26) := by subst e27; exact hD
            refine lv_goto (tgt := 10) hx hb dX6_readsNumber_80 (by decide) ?_
            exact ih x1 x2 x3 X26 _ _ ls hP hD hS (lv_sub hl [0, 1, 2, 3] rfl) hf
  exact L_10 n p1 p2 (XM 6 0) X1 _ _ ls hP hD hS (lv_sub hl [1, 2, 3, 0] rfl) hf
abbrev rmX6_readsOrder : Room := { frames := 3, cells := 0, slots := 0, locals := 65 }
set_option maxHeartbeats 8000000 in
set_option maxRecDepth 100000 in
theorem c_X6_readsOrder (l : Launch) (g : GG) (aM : Nat → Nat) (sz : Nat) (n : Nat) (XM : DM) (r : Int32) (XMz : DM) (hf : fX6_readsOrder n XM = some (r, XMz)) : Met l yX6_readsOrder wsX6_readsOrder rmX6_readsOrder (va_Pc [.ref (aM 0)] (fun U => U.heap.size = sz ∧ va_P g.1 vwCl (pM g aM XM) U.heap ∧ KW g U ∧ va_D (fun _ => True) (pM g aM XM))) (va_Qi (fun r' (_ : Unit) => r' = r ∧ narrow .boolean (.int r') = .int r') (fun (_ : Unit) t => va_P g.1 vwCl (pM g aM XMz) t.heap) (va_A (pM g aM XM) sz)) 0 0 (va_A (pM g aM XM) sz) := by
  refine Met.ofW (cc := cX6_readsOrder) (maxL := 2) (ret := (some .boolean)) (by decide) rfl ?_
  intro p e s m args below meth c s₁ B hml hv
  obtain ⟨hargs, hsz, hP, hKW, hD0⟩ := hv
  have hK := hKW.1
  have hx := B.exec
  have hb := B.bytes
  have hr := B.returns
  have hts := atoms_spec (ws := wsX6_readsOrder) B.pre
  have hown : s.vm.findClass RX6 = some m.cls := findClass_of_methodNamed B.named
  have hlocks := B.notSynchronized
  subst hsz
  have hD := hD0.self (sz := s.heap.size)
  generalize hAe : va_A (pM g aM XM) s.heap.size = A at hD ⊢
  have hA : ∀ q : Nat, s.heap.size ≤ q → A q := fun q h => by rw [← hAe]; exact Or.inr h
  have hS : va_S A s.heap s.heap [] := va_S.rf
  have i_X6 : ∀ w ∈ wsX60, w ∈ wsX6_readsOrder := fun w h => List.mem_cons_of_mem _ (List.mem_append_right _ h)
  have hent : entryFrame m args 2 = F0 m 0 ((lg_sl ([.ref (aM 0)]) ++ List.replicate (2 - (lg_sl ([.ref (aM 0)])).length) Slot.unset).toArray) [] := by rw [hargs]; exact lg_entry_eq _ _ _
  rw [hent]
  have hl := lv_entry ([.ref (aM 0)]) (n := 2) (Nat.le_of_ble_eq_true rfl)
  generalize (lg_sl ([.ref (aM 0)]) ++ List.replicate (2 - (lg_sl ([.ref (aM 0)])).length) Slot.unset).toArray = ls at hl ⊢
  have hl : lv_has ls 2 [(0, .ref (aM 0))] := hl
  generalize hQ0 : MQ below _ _ _ _ _ _ = Q0
  unfold fX6_readsOrder at hf
  refine lv_aload_n hx hb dX6_readsOrder_0 rfl (lv_at hl 0 rfl) ?_
  refine lv_aload_n hx hb dX6_readsOrder_1 rfl (lv_at hl 0 rfl) ?_
  refine va_get (D := g.1) (ci := 6) (v := .ref (aM 4)) (C := RX6) (T := TX6) (N := 19) hx hb hts i_X6 hown hK hP 0 rfl rfl 4 (by decide) (hts (.fieldLink RX6 19 "WordFlasherModel" "orders" "[C") (List.mem_of_getElem? (i := 1) rfl)) (fun _ h9 => h9) rfl dX6_readsOrder_2 ?_
  refine lv_aload_n hx hb dX6_readsOrder_5 rfl (lv_at hl 0 rfl) ?_
  refine va_get (D := g.1) (ci := 6) (v := .int (XM 6 0)) (C := RX6) (T := TX6) (N := 19) hx hb hts i_X6 hown hK hP 0 rfl rfl 6 (by decide) (hts (.fieldLink RX6 169 "WordFlasherModel" "at" "I") (List.mem_of_getElem? (i := 2) rfl)) (fun _ h9 => h9) rfl dX6_readsOrder_6 ?_
  obtain ⟨h3, v1, e2, hf⟩ := rdA_el hf
  refine va_cald hx hb hK hP 4 1 rfl rfl h3 dX6_readsOrder_9 ?_
  refine lv_as e2 ?_
  obtain ⟨X4, e5, hf⟩ := sl_el hf
  refine va_put (D := g.1) (ci := 6) (v := .int v1) (ty := .int) (C := RX6) (T := TX6) (N := 19) hx hb hts i_X6 tyX6 tyX6_ok nmX6 hown hK hP hD hS 0 rfl rfl 7 (by decide) (hts (.fieldLink RX6 175 "WordFlasherModel" "sign" "I") (List.mem_of_getElem? (i := 3) rfl)) (fun _ h9 => h9) rfl (by decide +kernel) rfl rfl (Nat.le_of_ble_eq_true rfl) dX6_readsOrder_10 (fun H locs hP hD hS => ?_)
  have hP : va_P g.1 vwCl (pM g aM X4) H := by subst e5; exact hP
  have hD : va_D A (pM g aM X4) := by subst e5; exact hD
  refine lv_aload_n hx hb dX6_readsOrder_13 rfl (lv_at hl 0 rfl) ?_
  refine lv_dup hx hb dX6_readsOrder_14 rfl ?_
  refine va_get (D := g.1) (ci := 6) (v := .int (X4 6 0)) (C := RX6) (T := TX6) (N := 19) hx hb hts i_X6 hown hK hP 0 rfl rfl 6 (by decide) (hts (.fieldLink RX6 169 "WordFlasherModel" "at" "I") (List.mem_of_getElem? (i := 2) rfl)) (fun _ h9 => h9) rfl dX6_readsOrder_15 ?_
  refine lv_iconst (v := 1) hx hb dX6_readsOrder_18 (by decide) ?_
  refine lv_iadd hx hb dX6_readsOrder_19 ?_
  obtain ⟨X6, e7, hf⟩ := sl_el hf
  refine va_put (D := g.1) (ci := 6) (v := .int ((X4 6 0) + 1)) (ty := .int) (C := RX6) (T := TX6) (N := 19) hx hb hts i_X6 tyX6 tyX6_ok nmX6 hown hK hP hD hS 0 rfl rfl 6 (by decide) (hts (.fieldLink RX6 169 "WordFlasherModel" "at" "I") (List.mem_of_getElem? (i := 2) rfl)) (fun _ h9 => h9) rfl (by decide +kernel) rfl rfl (Nat.le_of_ble_eq_true rfl) dX6_readsOrder_20 (fun H locs hP hD hS => ?_)
  have hP : va_P g.1 vwCl (pM g aM X6) H := by subst e7; exact hP
  have hD : va_D A (pM g aM X6) := by subst e7; exact hD
  refine lv_aload_n hx hb dX6_readsOrder_23 rfl (lv_at hl 0 rfl) ?_
  refine va_get (D := g.1) (ci := 6) (v := .int (X6 7 0)) (C := RX6) (T := TX6) (N := 19) hx hb hts i_X6 hown hK hP 0 rfl rfl 7 (by decide) (hts (.fieldLink RX6 175 "WordFlasherModel" "sign" "I") (List.mem_of_getElem? (i := 3) rfl)) (fun _ h9 => h9) rfl dX6_readsOrder_24 ?_
  refine lv_bipush (v := 98) hx hb dX6_readsOrder_27 (by decide) ?_
  obtain ⟨j105, ej105, hf⟩ := sl_el hf
  have J_105 : ∀ (k0 : Int32) (XM : DM) (H : Heap) (locs : List Loc) (ls : Array Slot), va_P g.1 vwCl (pM g aM XM) H → va_D A (pM g aM XM) → va_S A s.heap H locs → lv_has ls 2 [(0, .ref (aM 0))] → j105 k0 XM = some (r, XMz) → W p l e (headSpec wsX6_readsOrder rmX6_readsOrder).room s m args below meth c H locs 0 0 Q0 (F0 m 105 ls [.int k0]) := by
    intro k0 XM H locs ls hP hD hS hl hf
    rw [ej105] at hf
    refine lv_istore_n (lv' := [(1, .int k0), (0, .ref (aM 0))]) hx hb dX6_readsOrder_105 rfl hl (by decide) rfl (fun ls hl => ?_)
    refine lv_iload_n hx hb dX6_readsOrder_106 rfl (lv_at hl 0 rfl) ?_
    refine lv_if_eq (tgt := 135) hx hb dX6_readsOrder_107 (by decide) (fun c8 => ?_) (fun c8 => ?_)
    · have hf := ite_t hf c8
      refine lv_iconst (v := 0) hx hb dX6_readsOrder_135 (by decide) ?_
      have er0 := Option.some.inj hf
      obtain ⟨er0, er1⟩ := Prod.mk.inj er0
      rw [← hQ0]; exact W.zret (v := 0) hx hb hr rfl (fun t ht hW => ⟨⟨0, (), rfl, ⟨er0, rfl⟩, by dsimp only; rw [ht, ← er1]; exact hP⟩, hS.F ht⟩) hS.2.2 dX6_readsOrder_136
    · have hf := ite_f hf c8
      refine lv_aload_n hx hb dX6_readsOrder_110 rfl (lv_at hl 1 rfl) ?_
      refine va_get (D := g.1) (ci := 6) (v := .int (XM 6 0)) (C := RX6) (T := TX6) (N := 19) hx hb hts i_X6 hown hK hP 0 rfl rfl 6 (by decide) (hts (.fieldLink RX6 169 "WordFlasherModel" "at" "I") (List.mem_of_getElem? (i := 2) rfl)) (fun _ h9 => h9) rfl dX6_readsOrder_111 ?_
      refine lv_aload_n hx hb dX6_readsOrder_114 rfl (lv_at hl 1 rfl) ?_
      refine va_get (D := g.1) (ci := 6) (v := .int (XM 5 0)) (C := RX6) (T := TX6) (N := 19) hx hb hts i_X6 hown hK hP 0 rfl rfl 5 (by decide) (hts (.fieldLink RX6 131 "WordFlasherModel" "ordered" "I") (List.mem_of_getElem? (i := 4) rfl)) (fun _ h9 => h9) rfl dX6_readsOrder_115 ?_
      refine lv_icmp_ge (tgt := 135) hx hb dX6_readsOrder_118 (by decide) (fun c9 => ?_) (fun c9 => ?_)
      · have hf := ite_t hf c9
        refine lv_iconst (v := 0) hx hb dX6_readsOrder_135 (by decide) ?_
        have er0 := Option.some.inj hf
        obtain ⟨er0, er1⟩ := Prod.mk.inj er0
        rw [← hQ0]; exact W.zret (v := 0) hx hb hr rfl (fun t ht hW => ⟨⟨0, (), rfl, ⟨er0, rfl⟩, by dsimp only; rw [ht, ← er1]; exact hP⟩, hS.F ht⟩) hS.2.2 dX6_readsOrder_136
      · have hf := ite_f hf c9
        refine lv_aload_n hx hb dX6_readsOrder_121 rfl (lv_at hl 1 rfl) ?_
        refine va_get (D := g.1) (ci := 6) (v := .ref (aM 4)) (C := RX6) (T := TX6) (N := 19) hx hb hts i_X6 hown hK hP 0 rfl rfl 4 (by decide) (hts (.fieldLink RX6 19 "WordFlasherModel" "orders" "[C") (List.mem_of_getElem? (i := 1) rfl)) (fun _ h9 => h9) rfl dX6_readsOrder_122 ?_
        refine lv_aload_n hx hb dX6_readsOrder_125 rfl (lv_at hl 1 rfl) ?_
        refine va_get (D := g.1) (ci := 6) (v := .int (XM 6 0)) (C := RX6) (T := TX6) (N := 19) hx hb hts i_X6 hown hK hP 0 rfl rfl 6 (by decide) (hts (.fieldLink RX6 169 "WordFlasherModel" "at" "I") (List.mem_of_getElem? (i := 2) rfl)) (fun _ h9 => h9) rfl dX6_readsOrder_126 ?_
        obtain ⟨h12, v10, e11, hf⟩ := rdA_el hf
        refine va_cald hx hb hK hP 4 1 rfl rfl h12 dX6_readsOrder_129 ?_
        refine lv_as e11 ?_
        refine lv_bipush (v := 59) hx hb dX6_readsOrder_130 (by decide) ?_
        refine lv_icmp_eq (tgt := 137) hx hb dX6_readsOrder_132 (by decide) (fun c13 => ?_) (fun c13 => ?_)
        · have hf := ite_t hf c13
          refine lv_aload_n hx hb dX6_readsOrder_137 rfl (lv_at hl 1 rfl) ?_
          refine lv_dup hx hb dX6_readsOrder_138 rfl ?_
          refine va_get (D := g.1) (ci := 6) (v := .int (XM 6 0)) (C := RX6) (T := TX6) (N := 19) hx hb hts i_X6 hown hK hP 0 rfl rfl 6 (by decide) (hts (.fieldLink RX6 169 "WordFlasherModel" "at" "I") (List.mem_of_getElem? (i := 2) rfl)) (fun _ h9 => h9) rfl dX6_readsOrder_139 ?_
          refine lv_iconst (v := 1) hx hb dX6_readsOrder_142 (by decide) ?_
          refine lv_iadd hx hb dX6_readsOrder_143 ?_
          obtain ⟨X14, e15, hf⟩ := sl_el hf
          refine va_put (D := g.1) (ci := 6) (v := .int ((XM 6 0) + 1)) (ty := .int) (C := RX6) (T := TX6) (N := 19) hx hb hts i_X6 tyX6 tyX6_ok nmX6 hown hK hP hD hS 0 rfl rfl 6 (by decide) (hts (.fieldLink RX6 169 "WordFlasherModel" "at" "I") (List.mem_of_getElem? (i := 2) rfl)) (fun _ h9 => h9) rfl (by decide +kernel) rfl rfl (Nat.le_of_ble_eq_true rfl) dX6_readsOrder_144 (fun H locs hP hD hS => ?_)
          have hP : va_P g.1 vwCl (pM g aM X14) H := by subst e15; exact hP
          have hD : va_D A (pM g aM X14) := by subst e15; exact hD
          refine lv_iconst (v := 1) hx hb dX6_readsOrder_147 (by decide) ?_
          have er0 := Option.some.inj hf
          obtain ⟨er0, er1⟩ := Prod.mk.inj er0
          rw [← hQ0]; exact W.zret (v := 1) hx hb hr rfl (fun t ht hW => ⟨⟨1, (), rfl, ⟨er0, rfl⟩, by dsimp only; rw [ht, ← er1]; exact hP⟩, hS.F ht⟩) hS.2.2 dX6_readsOrder_148
        · have hf := ite_f hf c13
          refine lv_iconst (v := 0) hx hb dX6_readsOrder_135 (by decide) ?_
          have er0 := Option.some.inj hf
          obtain ⟨er0, er1⟩ := Prod.mk.inj er0
          rw [← hQ0]; exact W.zret (v := 0) hx hb hr rfl (fun t ht hW => ⟨⟨0, (), rfl, ⟨er0, rfl⟩, by dsimp only; rw [ht, ← er1]; exact hP⟩, hS.F ht⟩) hS.2.2 dX6_readsOrder_136
  obtain ⟨j100, ej100, hf⟩ := sl_el hf
  have J_100 : ∀ (XM : DM) (H : Heap) (locs : List Loc) (ls : Array Slot), va_P g.1 vwCl (pM g aM XM) H → va_D A (pM g aM XM) → va_S A s.heap H locs → lv_has ls 2 [(0, .ref (aM 0))] → j100 XM = some (r, XMz) → W p l e (headSpec wsX6_readsOrder rmX6_readsOrder).room s m args below meth c H locs 0 0 Q0 (F0 m 100 ls []) := by
    intro XM H locs ls hP hD hS hl hf
    rw [ej100] at hf
    refine lv_iconst (v := 1) hx hb dX6_readsOrder_100 (by decide) ?_
    refine lv_goto (tgt := 105) hx hb dX6_readsOrder_101 (by decide) ?_
    exact J_105 1 XM _ _ ls hP hD hS (lv_sub hl [0] rfl) hf
  refine lv_icmp_eq (tgt := 100) hx hb dX6_readsOrder_29 (by decide) (fun c16 => ?_) (fun c16 => ?_)
  · have hf := ite_t hf c16
    exact J_100 X6 _ _ ls hP hD hS (lv_sub hl [0] rfl) hf
  · have hf := ite_f hf c16
    refine lv_aload_n hx hb dX6_readsOrder_32 rfl (lv_at hl 0 rfl) ?_
    refine va_get (D := g.1) (ci := 6) (v := .int (X6 7 0)) (C := RX6) (T := TX6) (N := 19) hx hb hts i_X6 hown hK hP 0 rfl rfl 7 (by decide) (hts (.fieldLink RX6 175 "WordFlasherModel" "sign" "I") (List.mem_of_getElem? (i := 3) rfl)) (fun _ h9 => h9) rfl dX6_readsOrder_33 ?_
    refine lv_bipush (v := 117) hx hb dX6_readsOrder_36 (by decide) ?_
    refine lv_icmp_eq (tgt := 100) hx hb dX6_readsOrder_38 (by decide) (fun c17 => ?_) (fun c17 => ?_)
    · have hf := ite_t hf c17
      exact J_100 X6 _ _ ls hP hD hS (lv_sub hl [0] rfl) hf
    · have hf := ite_f hf c17
      refine lv_aload_n hx hb dX6_readsOrder_41 rfl (lv_at hl 0 rfl) ?_
      refine va_get (D := g.1) (ci := 6) (v := .int (X6 7 0)) (C := RX6) (T := TX6) (N := 19) hx hb hts i_X6 hown hK hP 0 rfl rfl 7 (by decide) (hts (.fieldLink RX6 175 "WordFlasherModel" "sign" "I") (List.mem_of_getElem? (i := 3) rfl)) (fun _ h9 => h9) rfl dX6_readsOrder_42 ?_
      refine lv_bipush (v := 114) hx hb dX6_readsOrder_45 (by decide) ?_
      obtain ⟨j61, ej61, hf⟩ := sl_el hf
      have J_61 : ∀ (XM : DM) (H : Heap) (locs : List Loc) (ls : Array Slot), va_P g.1 vwCl (pM g aM XM) H → va_D A (pM g aM XM) → va_S A s.heap H locs → lv_has ls 2 [(0, .ref (aM 0))] → j61 XM = some (r, XMz) → W p l e (headSpec wsX6_readsOrder rmX6_readsOrder).room s m args below meth c H locs 0 0 Q0 (F0 m 61 ls []) := by
        intro XM H locs ls hP hD hS hl hf
        rw [ej61] at hf
        refine lv_aload_n hx hb dX6_readsOrder_61 rfl (lv_at hl 0 rfl) ?_
        refine va_get (D := g.1) (ci := 6) (v := .int (XM 7 0)) (C := RX6) (T := TX6) (N := 19) hx hb hts i_X6 hown hK hP 0 rfl rfl 7 (by decide) (hts (.fieldLink RX6 175 "WordFlasherModel" "sign" "I") (List.mem_of_getElem? (i := 3) rfl)) (fun _ h9 => h9) rfl dX6_readsOrder_62 ?_
        refine lv_bipush (v := 106) hx hb dX6_readsOrder_65 (by decide) ?_
        obtain ⟨j81, ej81, hf⟩ := sl_el hf
        have J_81 : ∀ (XM : DM) (H : Heap) (locs : List Loc) (ls : Array Slot), va_P g.1 vwCl (pM g aM XM) H → va_D A (pM g aM XM) → va_S A s.heap H locs → lv_has ls 2 [(0, .ref (aM 0))] → j81 XM = some (r, XMz) → W p l e (headSpec wsX6_readsOrder rmX6_readsOrder).room s m args below meth c H locs 0 0 Q0 (F0 m 81 ls []) := by
          intro XM H locs ls hP hD hS hl hf
          rw [ej81] at hf
          refine lv_aload_n hx hb dX6_readsOrder_81 rfl (lv_at hl 0 rfl) ?_
          refine va_get (D := g.1) (ci := 6) (v := .int (XM 7 0)) (C := RX6) (T := TX6) (N := 19) hx hb hts i_X6 hown hK hP 0 rfl rfl 7 (by decide) (hts (.fieldLink RX6 175 "WordFlasherModel" "sign" "I") (List.mem_of_getElem? (i := 3) rfl)) (fun _ h9 => h9) rfl dX6_readsOrder_82 ?_
          refine lv_bipush (v := 110) hx hb dX6_readsOrder_85 (by decide) ?_
          obtain ⟨j104, ej104, hf⟩ := sl_el hf
          have J_104 : ∀ (XM : DM) (H : Heap) (locs : List Loc) (ls : Array Slot), va_P g.1 vwCl (pM g aM XM) H → va_D A (pM g aM XM) → va_S A s.heap H locs → lv_has ls 2 [(0, .ref (aM 0))] → j104 XM = some (r, XMz) → W p l e (headSpec wsX6_readsOrder rmX6_readsOrder).room s m args below meth c H locs 0 0 Q0 (F0 m 104 ls []) := by
            intro XM H locs ls hP hD hS hl hf
            rw [ej104] at hf
            refine lv_iconst (v := 0) hx hb dX6_readsOrder_104 (by decide) ?_
            exact J_105 0 XM _ _ ls hP hD hS (lv_sub hl [0] rfl) hf
          refine lv_icmp_ne (tgt := 104) hx hb dX6_readsOrder_87 (by decide) (fun c18 => ?_) (fun c18 => ?_)
          · have hf := ite_f hf c18
            exact J_104 XM _ _ ls hP hD hS (lv_sub hl [0] rfl) hf
          · have hf := ite_t hf c18
            refine lv_aload_n hx hb dX6_readsOrder_90 rfl (lv_at hl 0 rfl) ?_
            refine lv_iconst (v := 1) hx hb dX6_readsOrder_91 (by decide) ?_
            refine lv_bipush (v := 99) hx hb dX6_readsOrder_92 (by decide) ?_
            obtain ⟨u22, h21, hf⟩ := bnd_el hf
            refine wr_i (rest := []) (wc := (pM g aM XM)) (wc' := (pM g aM u22.2)) (ws2 := (pM g aM u22.2)) hP hD hS hA [0, 1, 2, 3, 4, 5, 6, 7, 8, 9, 10, 11] rfl rfl (by rfl) (rnV (As := [.int 1, .int 99]) ⟨hx, hb, hml, hown, hts⟩ (c_X6_readsNumber l g aM _ _ _ _ _ _ _ h21) (cwV 2 hts gX6_readsOrder_X6_readsNumber rfl rfl rfl (by decide +kernel) ⟨Nat.le_of_ble_eq_true rfl, Nat.le_of_ble_eq_true rfl⟩) hKW hP hD [0, 1, 2, 3, 4, 5, 6, 7, 8, 9, 10, 11] (by decide) rfl (va_recv hK hP (ci := 6) (q0 := 0) rfl rfl) rfl hl.1 rfl (lv_room (Nat.le_of_ble_eq_true rfl)) dX6_readsOrder_94 ⟨Nat.zero_le _, Nat.zero_le _⟩) (fun r23 H locs q24 hP hD hS => ?_)
            obtain ⟨q24, nb25⟩ := q24
            refine lv_as q24.symm ?_
            rw [q24] at nb25
            refine lv_if_eq (tgt := 104) hx hb dX6_readsOrder_97 (by decide) (fun c26 => ?_) (fun c26 => ?_)
            · have hf := ite_t hf c26
              exact J_104 u22.2 _ _ ls hP hD hS (lv_sub hl [0] rfl) hf
            · have hf := ite_f hf c26
              exact J_100 u22.2 _ _ ls hP hD hS (lv_sub hl [0] rfl) hf
        refine lv_icmp_ne (tgt := 81) hx hb dX6_readsOrder_67 (by decide) (fun c27 => ?_) (fun c27 => ?_)
        · have hf := ite_f hf c27
          exact J_81 XM _ _ ls hP hD hS (lv_sub hl [0] rfl) hf
        · have hf := ite_t hf c27
          refine lv_aload_n hx hb dX6_readsOrder_70 rfl (lv_at hl 0 rfl) ?_
          refine lv_iconst (v := 0) hx hb dX6_readsOrder_71 (by decide) ?_
          refine lv_sipush (v := 999) hx hb dX6_readsOrder_72 (by decide) ?_
          obtain ⟨u31, h30, hf⟩ := bnd_el hf
          refine wr_i (rest := []) (wc := (pM g aM XM)) (wc' := (pM g aM u31.2)) (ws2 := (pM g aM u31.2)) hP hD hS hA [0, 1, 2, 3, 4, 5, 6, 7, 8, 9, 10, 11] rfl rfl (by rfl) (rnV (As := [.int 0, .int 999]) ⟨hx, hb, hml, hown, hts⟩ (c_X6_readsNumber l g aM _ _ _ _ _ _ _ h30) (cwV 2 hts gX6_readsOrder_X6_readsNumber rfl rfl rfl (by decide +kernel) ⟨Nat.le_of_ble_eq_true rfl, Nat.le_of_ble_eq_true rfl⟩) hKW hP hD [0, 1, 2, 3, 4, 5, 6, 7, 8, 9, 10, 11] (by decide) rfl (va_recv hK hP (ci := 6) (q0 := 0) rfl rfl) rfl hl.1 rfl (lv_room (Nat.le_of_ble_eq_true rfl)) dX6_readsOrder_75 ⟨Nat.zero_le _, Nat.zero_le _⟩) (fun r32 H locs q33 hP hD hS => ?_)
          obtain ⟨q33, nb34⟩ := q33
          refine lv_as q33.symm ?_
          rw [q33] at nb34
          refine lv_if_ne (tgt := 100) hx hb dX6_readsOrder_78 (by decide) (fun c35 => ?_) (fun c35 => ?_)
          · have hf := ite_f hf c35
            exact J_100 u31.2 _ _ ls hP hD hS (lv_sub hl [0] rfl) hf
          · have hf := ite_t hf c35
            exact J_81 u31.2 _ _ ls hP hD hS (lv_sub hl [0] rfl) hf
      refine lv_icmp_ne (tgt := 61) hx hb dX6_readsOrder_47 (by decide) (fun c36 => ?_) (fun c36 => ?_)
      · have hf := ite_f hf c36
        exact J_61 X6 _ _ ls hP hD hS (lv_sub hl [0] rfl) hf
      · have hf := ite_t hf c36
        refine lv_aload_n hx hb dX6_readsOrder_50 rfl (lv_at hl 0 rfl) ?_
        refine lv_iconst (v := 1) hx hb dX6_readsOrder_51 (by decide) ?_
        refine lv_sipush (v := 999) hx hb dX6_readsOrder_52 (by decide) ?_
        obtain ⟨u40, h39, hf⟩ := bnd_el hf
        refine wr_i (rest := []) (wc := (pM g aM X6)) (wc' := (pM g aM u40.2)) (ws2 := (pM g aM u40.2)) hP hD hS hA [0, 1, 2, 3, 4, 5, 6, 7, 8, 9, 10, 11] rfl rfl (by rfl) (rnV (As := [.int 1, .int 999]) ⟨hx, hb, hml, hown, hts⟩ (c_X6_readsNumber l g aM _ _ _ _ _ _ _ h39) (cwV 2 hts gX6_readsOrder_X6_readsNumber rfl rfl rfl (by decide +kernel) ⟨Nat.le_of_ble_eq_true rfl, Nat.le_of_ble_eq_true rfl⟩) hKW hP hD [0, 1, 2, 3, 4, 5, 6, 7, 8, 9, 10, 11] (by decide) rfl (va_recv hK hP (ci := 6) (q0 := 0) rfl rfl) rfl hl.1 rfl (lv_room (Nat.le_of_ble_eq_true rfl)) dX6_readsOrder_55 ⟨Nat.zero_le _, Nat.zero_le _⟩) (fun r41 H locs q42 hP hD hS => ?_)
        obtain ⟨q42, nb43⟩ := q42
        refine lv_as q42.symm ?_
        rw [q42] at nb43
        refine lv_if_ne (tgt := 100) hx hb dX6_readsOrder_58 (by decide) (fun c44 => ?_) (fun c44 => ?_)
        · have hf := ite_f hf c44
          exact J_100 u40.2 _ _ ls hP hD hS (lv_sub hl [0] rfl) hf
        · have hf := ite_t hf c44
          exact J_61 u40.2 _ _ ls hP hD hS (lv_sub hl [0] rfl) hf
abbrev rmX6_fault : Room := { frames := 4, cells := 0, slots := 0, locals := 86 }
set_option maxHeartbeats 8000000 in
set_option maxRecDepth 100000 in
theorem c_X6_fault (l : Launch) (g : GG) (aM : Nat → Nat) (sz : Nat) (n : Nat) (XM : DM) (r : Int32) (XMz : DM) (hf : fX6_fault n XM = some (r, XMz)) : Met l yX6_fault wsX6_fault rmX6_fault (va_Pc [.ref (aM 0)] (fun U => U.heap.size = sz ∧ va_P g.1 vwCl (pM g aM XM) U.heap ∧ KW g U ∧ va_D (fun _ => True) (pM g aM XM))) (va_Qi (fun r' (_ : Unit) => r' = r ∧ True) (fun (_ : Unit) t => va_P g.1 vwCl (pM g aM XMz) t.heap) (va_A (pM g aM XM) sz)) 0 0 (va_A (pM g aM XM) sz) := by
  refine Met.ofW (cc := cX6_fault) (maxL := 2) (ret := (some .int)) (by decide) rfl ?_
  intro p e s m args below meth c s₁ B hml hv
  obtain ⟨hargs, hsz, hP, hKW, hD0⟩ := hv
  have hK := hKW.1
  have hx := B.exec
  have hb := B.bytes
  have hr := B.returns
  have hts := atoms_spec (ws := wsX6_fault) B.pre
  have hown : s.vm.findClass RX6 = some m.cls := findClass_of_methodNamed B.named
  have hlocks := B.notSynchronized
  subst hsz
  have hD := hD0.self (sz := s.heap.size)
  generalize hAe : va_A (pM g aM XM) s.heap.size = A at hD ⊢
  have hA : ∀ q : Nat, s.heap.size ≤ q → A q := fun q h => by rw [← hAe]; exact Or.inr h
  have hS : va_S A s.heap s.heap [] := va_S.rf
  have i_X6 : ∀ w ∈ wsX60, w ∈ wsX6_fault := fun w h => List.mem_cons_of_mem _ (List.mem_append_right _ h)
  have hent : entryFrame m args 2 = F0 m 0 ((lg_sl ([.ref (aM 0)]) ++ List.replicate (2 - (lg_sl ([.ref (aM 0)])).length) Slot.unset).toArray) [] := by rw [hargs]; exact lg_entry_eq _ _ _
  rw [hent]
  have hl := lv_entry ([.ref (aM 0)]) (n := 2) (Nat.le_of_ble_eq_true rfl)
  generalize (lg_sl ([.ref (aM 0)]) ++ List.replicate (2 - (lg_sl ([.ref (aM 0)])).length) Slot.unset).toArray = ls at hl ⊢
  have hl : lv_has ls 2 [(0, .ref (aM 0))] := hl
  generalize hQ0 : MQ below _ _ _ _ _ _ = Q0
  unfold fX6_fault at hf
  refine lv_aload_n hx hb dX6_fault_0 rfl (lv_at hl 0 rfl) ?_
  refine lv_iconst (v := 0) hx hb dX6_fault_1 (by decide) ?_
  obtain ⟨X1, e2, hf⟩ := sl_el hf
  refine va_put (D := g.1) (ci := 6) (v := .int 0) (ty := .int) (C := RX6) (T := TX6) (N := 19) hx hb hts i_X6 tyX6 tyX6_ok nmX6 hown hK hP hD hS 0 rfl rfl 6 (by decide) (hts (.fieldLink RX6 169 "WordFlasherModel" "at" "I") (List.mem_of_getElem? (i := 1) rfl)) (fun _ h9 => h9) rfl (by decide +kernel) rfl rfl (Nat.le_of_ble_eq_true rfl) dX6_fault_2 (fun H locs hP hD hS => ?_)
  have hP : va_P g.1 vwCl (pM g aM X1) H := by subst e2; exact hP
  have hD : va_D A (pM g aM X1) := by subst e2; exact hD
  have L_5 : ∀ fu : Nat, ∀ (XM : DM) (H : Heap) (locs : List Loc) (ls : Array Slot), va_P g.1 vwCl (pM g aM XM) H → va_D A (pM g aM XM) → va_S A s.heap H locs → lv_has ls 2 [(0, .ref (aM 0))] → fX6_fault_L5 n fu XM = some (r, XMz) → W p l e (headSpec wsX6_fault rmX6_fault).room s m args below meth c H locs 0 0 Q0 (F0 m 5 ls []) := by
    intro fu
    induction fu with
    | zero => intros; rename_i hf; rw [fX6_fault_L5] at hf; cases hf
    | succ fu ih =>
      intro XM H locs ls hP hD hS hl hf
      rw [fX6_fault_L5] at hf
      refine lv_aload_n hx hb dX6_fault_5 rfl (lv_at hl 0 rfl) ?_
      refine va_get (D := g.1) (ci := 6) (v := .int (XM 6 0)) (C := RX6) (T := TX6) (N := 19) hx hb hts i_X6 hown hK hP 0 rfl rfl 6 (by decide) (hts (.fieldLink RX6 169 "WordFlasherModel" "at" "I") (List.mem_of_getElem? (i := 1) rfl)) (fun _ h9 => h9) rfl dX6_fault_6 ?_
      refine lv_aload_n hx hb dX6_fault_9 rfl (lv_at hl 0 rfl) ?_
      refine va_get (D := g.1) (ci := 6) (v := .int (XM 5 0)) (C := RX6) (T := TX6) (N := 19) hx hb hts i_X6 hown hK hP 0 rfl rfl 5 (by decide) (hts (.fieldLink RX6 131 "WordFlasherModel" "ordered" "I") (List.mem_of_getElem? (i := 2) rfl)) (fun _ h9 => h9) rfl dX6_fault_10 ?_
      refine lv_icmp_ge (tgt := 33) hx hb dX6_fault_13 (by decide) (fun c3 => ?_) (fun c3 => ?_)
      · have hf := ite_t hf c3
        refine lv_bipush (v := (-4)) hx hb dX6_fault_33 (by decide) ?_
        have er0 := Option.some.inj hf
        obtain ⟨er0, er1⟩ := Prod.mk.inj er0
        rw [← hQ0]; exact W.iret (v := (-4)) hx hb hr (fun t ht hW => ⟨⟨(-4), (), rfl, ⟨er0, trivial⟩, by dsimp only; rw [ht, ← er1]; exact hP⟩, hS.F ht⟩) hS.2.2 dX6_fault_35
      · have hf := ite_f hf c3
        refine lv_aload_n hx hb dX6_fault_16 rfl (lv_at hl 0 rfl) ?_
        refine va_get (D := g.1) (ci := 6) (v := .int (XM 6 0)) (C := RX6) (T := TX6) (N := 19) hx hb hts i_X6 hown hK hP 0 rfl rfl 6 (by decide) (hts (.fieldLink RX6 169 "WordFlasherModel" "at" "I") (List.mem_of_getElem? (i := 1) rfl)) (fun _ h9 => h9) rfl dX6_fault_17 ?_
        refine lv_istore_n (lv' := [(1, .int (XM 6 0)), (0, .ref (aM 0))]) hx hb dX6_fault_20 rfl hl (by decide) rfl (fun ls hl => ?_)
        refine lv_aload_n hx hb dX6_fault_21 rfl (lv_at hl 1 rfl) ?_
        obtain ⟨u7, h6, hf⟩ := bnd_el hf
        refine wr_i (rest := []) (wc := (pM g aM XM)) (wc' := (pM g aM u7.2)) (ws2 := (pM g aM u7.2)) hP hD hS hA [0, 1, 2, 3, 4, 5, 6, 7, 8, 9, 10, 11] rfl rfl (by rfl) (rnV (As := []) ⟨hx, hb, hml, hown, hts⟩ (c_X6_readsOrder l g aM _ _ _ _ _ h6) (cwV 0 hts gX6_fault_X6_readsOrder rfl rfl rfl (by decide +kernel) ⟨Nat.le_of_ble_eq_true rfl, Nat.le_of_ble_eq_true rfl⟩) hKW hP hD [0, 1, 2, 3, 4, 5, 6, 7, 8, 9, 10, 11] (by decide) rfl (va_recv hK hP (ci := 6) (q0 := 0) rfl rfl) rfl hl.1 rfl (lv_room (Nat.le_of_ble_eq_true rfl)) dX6_fault_22 ⟨Nat.zero_le _, Nat.zero_le _⟩) (fun r8 H locs q9 hP hD hS => ?_)
        obtain ⟨q9, nb10⟩ := q9
        refine lv_as q9.symm ?_
        rw [q9] at nb10
        refine lv_if_ne (tgt := 30) hx hb dX6_fault_25 (by decide) (fun c11 => ?_) (fun c11 => ?_)
        · have hf := ite_f hf c11
          refine lv_goto (tgt := 5) hx hb dX6_fault_30 (by decide) ?_
          exact ih u7.2 _ _ ls hP hD hS (lv_sub hl [1] rfl) hf
        · have hf := ite_t hf c11
          refine lv_iload_n hx hb dX6_fault_28 rfl (lv_at hl 0 rfl) ?_
          have er0 := Option.some.inj hf
          obtain ⟨er0, er1⟩ := Prod.mk.inj er0
          rw [← hQ0]; exact W.iret (v := (XM 6 0)) hx hb hr (fun t ht hW => ⟨⟨(XM 6 0), (), rfl, ⟨er0, trivial⟩, by dsimp only; rw [ht, ← er1]; exact hP⟩, hS.F ht⟩) hS.2.2 dX6_fault_29
  exact L_5 n X1 _ _ ls hP hD hS (lv_sub hl [0] rfl) hf
abbrev rmX6_carries : Room := { frames := 6, cells := 0, slots := 0, locals := 134 }
set_option maxHeartbeats 8000000 in
set_option maxRecDepth 100000 in
theorem c_X6_carries (l : Launch) (g : GG) (aM : Nat → Nat) (sz : Nat) (n : Nat) (XM : DM) (r : Int32) (XMz : DM) (hf : fX6_carries n XM = some (r, XMz)) : Met l yX6_carries wsX6_carries rmX6_carries (va_Pc [.ref (aM 0)] (fun U => U.heap.size = sz ∧ va_P g.1 vwCl (pM g aM XM) U.heap ∧ KW g U ∧ va_D (fun _ => True) (pM g aM XM))) (va_Qi (fun r' (_ : Unit) => r' = r ∧ narrow .boolean (.int r') = .int r') (fun (_ : Unit) t => va_P g.1 vwCl (pM g aM XMz) t.heap) (va_A (pM g aM XM) sz)) 0 0 (va_A (pM g aM XM) sz) := by
  refine Met.ofW (cc := cX6_carries) (maxL := 1) (ret := (some .boolean)) (by decide) rfl ?_
  intro p e s m args below meth c s₁ B hml hv
  obtain ⟨hargs, hsz, hP, hKW, hD0⟩ := hv
  have hK := hKW.1
  have hx := B.exec
  have hb := B.bytes
  have hr := B.returns
  have hts := atoms_spec (ws := wsX6_carries) B.pre
  have hown : s.vm.findClass RX6 = some m.cls := findClass_of_methodNamed B.named
  have hlocks := B.notSynchronized
  subst hsz
  have hD := hD0.self (sz := s.heap.size)
  generalize hAe : va_A (pM g aM XM) s.heap.size = A at hD ⊢
  have hA : ∀ q : Nat, s.heap.size ≤ q → A q := fun q h => by rw [← hAe]; exact Or.inr h
  have hS : va_S A s.heap s.heap [] := va_S.rf
  have i_X6 : ∀ w ∈ wsX60, w ∈ wsX6_carries := fun w h => List.mem_cons_of_mem _ (List.mem_append_right _ h)
  have hent : entryFrame m args 1 = F0 m 0 ((lg_sl ([.ref (aM 0)]) ++ List.replicate (1 - (lg_sl ([.ref (aM 0)])).length) Slot.unset).toArray) [] := by rw [hargs]; exact lg_entry_eq _ _ _
  rw [hent]
  have hl := lv_entry ([.ref (aM 0)]) (n := 1) (Nat.le_of_ble_eq_true rfl)
  generalize (lg_sl ([.ref (aM 0)]) ++ List.replicate (1 - (lg_sl ([.ref (aM 0)])).length) Slot.unset).toArray = ls at hl ⊢
  have hl : lv_has ls 1 [(0, .ref (aM 0))] := hl
  generalize hQ0 : MQ below _ _ _ _ _ _ = Q0
  unfold fX6_carries at hf
  refine lv_aload_n hx hb dX6_carries_0 rfl (lv_at hl 0 rfl) ?_
  refine va_get (D := g.1) (ci := 6) (v := .int (XM 7 0)) (C := RX6) (T := TX6) (N := 19) hx hb hts i_X6 hown hK hP 0 rfl rfl 7 (by decide) (hts (.fieldLink RX6 175 "WordFlasherModel" "sign" "I") (List.mem_of_getElem? (i := 1) rfl)) (fun _ h9 => h9) rfl dX6_carries_1 ?_
  by_cases c1 : (XM 7 0) = 98
  · have hf := ite_t hf c1
    refine lv_lookup (tgt := 73) (off := 69) hx hb dX6_carries_4 (by decide) (by rw [c1]; rfl) (by decide) ?_
    refine lv_aload_n hx hb dX6_carries_73 rfl (lv_at hl 0 rfl) ?_
    obtain ⟨r2, h3, hf⟩ := bnd_el hf
    refine rdV (As := []) (rest := []) ⟨hx, hb, hml, hown, hts⟩ (c_X6_firstShown l g aM _ _ _ h3) (cwV 0 hts gX6_carries_X6_firstShown rfl rfl rfl (by decide +kernel) ⟨Nat.le_of_ble_eq_true rfl, Nat.le_of_ble_eq_true rfl⟩) hKW hP [0, 1, 2, 3, 4, 5, 6, 7, 8, 9, 10, 11] rfl (va_recv hK hP (ci := 6) (q0 := 0) rfl rfl) rfl hl.1 rfl (lv_room (Nat.le_of_ble_eq_true rfl)) dX6_carries_74 ⟨Nat.zero_le _, Nat.zero_le _⟩ (fun r4 q5 => ?_)
    obtain ⟨q5, nb6⟩ := q5
    refine lv_as q5.symm ?_
    refine lv_iconst (v := (-1)) hx hb dX6_carries_77 (by decide) ?_
    refine lv_icmp_ne (tgt := 83) hx hb dX6_carries_78 (by decide) (fun c7 => ?_) (fun c7 => ?_)
    · have hf := ite_f hf c7
      refine lv_aload_n hx hb dX6_carries_83 rfl (lv_at hl 0 rfl) ?_
      obtain ⟨X8, h9, hf⟩ := bnd_el hf
      refine wr_v (rest := []) (wc := (pM g aM XM)) (wc' := (pM g aM X8)) (ws2 := (pM g aM X8)) hP hD hS hA [0, 1, 2, 3, 4, 5, 6, 7, 8, 9, 10, 11] rfl rfl (by rfl) (rnV (As := []) ⟨hx, hb, hml, hown, hts⟩ (c_X6_asks l g aM _ _ _ _ h9) (cwV 0 hts gX6_carries_X6_asks rfl rfl rfl (by decide +kernel) ⟨Nat.le_of_ble_eq_true rfl, Nat.le_of_ble_eq_true rfl⟩) hKW hP hD [0, 1, 2, 3, 4, 5, 6, 7, 8, 9, 10, 11] (by decide) rfl (va_recv hK hP (ci := 6) (q0 := 0) rfl rfl) rfl hl.1 rfl (lv_room (Nat.le_of_ble_eq_true rfl)) dX6_carries_84 ⟨Nat.zero_le _, Nat.zero_le _⟩) (fun H locs hP hD hS => ?_)
      refine lv_iconst (v := 1) hx hb dX6_carries_87 (by decide) ?_
      have er0 := Option.some.inj hf
      obtain ⟨er0, er1⟩ := Prod.mk.inj er0
      rw [← hQ0]; exact W.zret (v := 1) hx hb hr rfl (fun t ht hW => ⟨⟨1, (), rfl, ⟨er0, rfl⟩, by dsimp only; rw [ht, ← er1]; exact hP⟩, hS.F ht⟩) hS.2.2 dX6_carries_88
    · have hf := ite_t hf c7
      refine lv_iconst (v := 0) hx hb dX6_carries_81 (by decide) ?_
      have er0 := Option.some.inj hf
      obtain ⟨er0, er1⟩ := Prod.mk.inj er0
      rw [← hQ0]; exact W.zret (v := 0) hx hb hr rfl (fun t ht hW => ⟨⟨0, (), rfl, ⟨er0, rfl⟩, by dsimp only; rw [ht, ← er1]; exact hP⟩, hS.F ht⟩) hS.2.2 dX6_carries_82
  have hf := ite_f hf c1
  have q10 := i32_nk (z := 98) (by decide) c1
  by_cases c11 : (XM 7 0) = 106
  · have hf := ite_t hf c11
    refine lv_lookup (tgt := 89) (off := 85) hx hb dX6_carries_4 (by decide) (by rw [c11]; rfl) (by decide) ?_
    refine lv_aload_n hx hb dX6_carries_89 rfl (lv_at hl 0 rfl) ?_
    refine lv_aload_n hx hb dX6_carries_90 rfl (lv_at hl 0 rfl) ?_
    refine va_get (D := g.1) (ci := 6) (v := .int (XM 8 0)) (C := RX6) (T := TX6) (N := 19) hx hb hts i_X6 hown hK hP 0 rfl rfl 8 (by decide) (hts (.fieldLink RX6 172 "WordFlasherModel" "number" "I") (List.mem_of_getElem? (i := 3) rfl)) (fun _ h9 => h9) rfl dX6_carries_91 ?_
    obtain ⟨r12, h13, hf⟩ := bnd_el hf
    refine rdV (As := [.int (XM 8 0)]) (rest := []) ⟨hx, hb, hml, hown, hts⟩ (c_X6_canJump l g aM _ _ _ _ h13) (cwV 1 hts gX6_carries_X6_canJump rfl rfl rfl (by decide +kernel) ⟨Nat.le_of_ble_eq_true rfl, Nat.le_of_ble_eq_true rfl⟩) hKW hP [0, 1, 2, 3, 4, 5, 6, 7, 8, 9, 10, 11] rfl (va_recv hK hP (ci := 6) (q0 := 0) rfl rfl) rfl hl.1 rfl (lv_room (Nat.le_of_ble_eq_true rfl)) dX6_carries_94 ⟨Nat.zero_le _, Nat.zero_le _⟩ (fun r14 q15 => ?_)
    obtain ⟨q15, nb16⟩ := q15
    refine lv_as q15.symm ?_
    rw [q15] at nb16
    refine lv_if_ne (tgt := 102) hx hb dX6_carries_97 (by decide) (fun c17 => ?_) (fun c17 => ?_)
    · have hf := ite_f hf c17
      refine lv_aload_n hx hb dX6_carries_102 rfl (lv_at hl 0 rfl) ?_
      refine lv_aload_n hx hb dX6_carries_103 rfl (lv_at hl 0 rfl) ?_
      refine va_get (D := g.1) (ci := 6) (v := .int (XM 8 0)) (C := RX6) (T := TX6) (N := 19) hx hb hts i_X6 hown hK hP 0 rfl rfl 8 (by decide) (hts (.fieldLink RX6 172 "WordFlasherModel" "number" "I") (List.mem_of_getElem? (i := 3) rfl)) (fun _ h9 => h9) rfl dX6_carries_104 ?_
      obtain ⟨X18, h19, hf⟩ := bnd_el hf
      refine wr_v (rest := []) (wc := (pM g aM XM)) (wc' := (pM g aM X18)) (ws2 := (pM g aM X18)) hP hD hS hA [0, 1, 2, 3, 4, 5, 6, 7, 8, 9, 10, 11] rfl rfl (by rfl) (rnV (As := [.int (XM 8 0)]) ⟨hx, hb, hml, hown, hts⟩ (c_X6_jumps l g aM _ _ _ _ _ h19) (cwV 1 hts gX6_carries_X6_jumps rfl rfl rfl (by decide +kernel) ⟨Nat.le_of_ble_eq_true rfl, Nat.le_of_ble_eq_true rfl⟩) hKW hP hD [0, 1, 2, 3, 4, 5, 6, 7, 8, 9, 10, 11] (by decide) rfl (va_recv hK hP (ci := 6) (q0 := 0) rfl rfl) rfl hl.1 rfl (lv_room (Nat.le_of_ble_eq_true rfl)) dX6_carries_107 ⟨Nat.zero_le _, Nat.zero_le _⟩) (fun H locs hP hD hS => ?_)
      refine lv_iconst (v := 1) hx hb dX6_carries_110 (by decide) ?_
      have er0 := Option.some.inj hf
      obtain ⟨er0, er1⟩ := Prod.mk.inj er0
      rw [← hQ0]; exact W.zret (v := 1) hx hb hr rfl (fun t ht hW => ⟨⟨1, (), rfl, ⟨er0, rfl⟩, by dsimp only; rw [ht, ← er1]; exact hP⟩, hS.F ht⟩) hS.2.2 dX6_carries_111
    · have hf := ite_t hf c17
      refine lv_iconst (v := 0) hx hb dX6_carries_100 (by decide) ?_
      have er0 := Option.some.inj hf
      obtain ⟨er0, er1⟩ := Prod.mk.inj er0
      rw [← hQ0]; exact W.zret (v := 0) hx hb hr rfl (fun t ht hW => ⟨⟨0, (), rfl, ⟨er0, rfl⟩, by dsimp only; rw [ht, ← er1]; exact hP⟩, hS.F ht⟩) hS.2.2 dX6_carries_101
  have hf := ite_f hf c11
  have q20 := i32_nk (z := 106) (by decide) c11
  by_cases c21 : (XM 7 0) = 114
  · have hf := ite_t hf c21
    refine lv_lookup (tgt := 48) (off := 44) hx hb dX6_carries_4 (by decide) (by rw [c21]; rfl) (by decide) ?_
    refine lv_aload_n hx hb dX6_carries_48 rfl (lv_at hl 0 rfl) ?_
    refine va_get (D := g.1) (ci := 6) (v := .ref (aM 1)) (C := RX6) (T := TX6) (N := 19) hx hb hts i_X6 hown hK hP 0 rfl rfl 0 (by decide) (hts (.fieldLink RX6 7 "WordFlasherModel" "d" "[I") (List.mem_of_getElem? (i := 2) rfl)) (fun _ h9 => h9) rfl dX6_carries_49 ?_
    refine lv_sipush (v := 301) hx hb dX6_carries_52 (by decide) ?_
    obtain ⟨h24, v22, e23, hf⟩ := rdA_el hf
    refine va_iald hx hb hK hP 1 0 rfl rfl h24 dX6_carries_55 ?_
    refine lv_as e23 ?_
    refine lv_iconst (v := (-1)) hx hb dX6_carries_56 (by decide) ?_
    refine lv_icmp_ne (tgt := 62) hx hb dX6_carries_57 (by decide) (fun c25 => ?_) (fun c25 => ?_)
    · have hf := ite_f hf c25
      refine lv_aload_n hx hb dX6_carries_62 rfl (lv_at hl 0 rfl) ?_
      refine lv_aload_n hx hb dX6_carries_63 rfl (lv_at hl 0 rfl) ?_
      refine va_get (D := g.1) (ci := 6) (v := .int (XM 8 0)) (C := RX6) (T := TX6) (N := 19) hx hb hts i_X6 hown hK hP 0 rfl rfl 8 (by decide) (hts (.fieldLink RX6 172 "WordFlasherModel" "number" "I") (List.mem_of_getElem? (i := 3) rfl)) (fun _ h9 => h9) rfl dX6_carries_64 ?_
      obtain ⟨u29, h28, hf⟩ := bnd_el hf
      refine wr_i (rest := []) (wc := (pM g aM XM)) (wc' := (pM g aM u29.2)) (ws2 := (pM g aM u29.2)) hP hD hS hA [0, 1, 2, 3, 4, 5, 6, 7, 8, 9, 10, 11] rfl rfl (by rfl) (rnV (As := [.int (XM 8 0)]) ⟨hx, hb, hml, hown, hts⟩ (c_X6_goes l g aM _ _ _ _ _ _ h28) (cwV 1 hts gX6_carries_X6_goes rfl rfl rfl (by decide +kernel) ⟨Nat.le_of_ble_eq_true rfl, Nat.le_of_ble_eq_true rfl⟩) hKW hP hD [0, 1, 2, 3, 4, 5, 6, 7, 8, 9, 10, 11] (by decide) rfl (va_recv hK hP (ci := 6) (q0 := 0) rfl rfl) rfl hl.1 rfl (lv_room (Nat.le_of_ble_eq_true rfl)) dX6_carries_67 ⟨Nat.zero_le _, Nat.zero_le _⟩) (fun r30 H locs q31 hP hD hS => ?_)
      obtain ⟨q31, nb32⟩ := q31
      refine lv_as q31.symm ?_
      refine lv_pop hx hb dX6_carries_70 rfl ?_
      refine lv_iconst (v := 1) hx hb dX6_carries_71 (by decide) ?_
      have er0 := Option.some.inj hf
      obtain ⟨er0, er1⟩ := Prod.mk.inj er0
      rw [← hQ0]; exact W.zret (v := 1) hx hb hr rfl (fun t ht hW => ⟨⟨1, (), rfl, ⟨er0, rfl⟩, by dsimp only; rw [ht, ← er1]; exact hP⟩, hS.F ht⟩) hS.2.2 dX6_carries_72
    · have hf := ite_t hf c25
      refine lv_iconst (v := 0) hx hb dX6_carries_60 (by decide) ?_
      have er0 := Option.some.inj hf
      obtain ⟨er0, er1⟩ := Prod.mk.inj er0
      rw [← hQ0]; exact W.zret (v := 0) hx hb hr rfl (fun t ht hW => ⟨⟨0, (), rfl, ⟨er0, rfl⟩, by dsimp only; rw [ht, ← er1]; exact hP⟩, hS.F ht⟩) hS.2.2 dX6_carries_61
  have hf := ite_f hf c21
  have q33 := i32_nk (z := 114) (by decide) c21
  by_cases c34 : (XM 7 0) = 117
  · have hf := ite_t hf c34
    refine lv_lookup (tgt := 112) (off := 108) hx hb dX6_carries_4 (by decide) (by rw [c34]; rfl) (by decide) ?_
    refine lv_aload_n hx hb dX6_carries_112 rfl (lv_at hl 0 rfl) ?_
    refine va_get (D := g.1) (ci := 6) (v := .ref (aM 1)) (C := RX6) (T := TX6) (N := 19) hx hb hts i_X6 hown hK hP 0 rfl rfl 0 (by decide) (hts (.fieldLink RX6 7 "WordFlasherModel" "d" "[I") (List.mem_of_getElem? (i := 2) rfl)) (fun _ h9 => h9) rfl dX6_carries_113 ?_
    refine lv_sipush (v := 303) hx hb dX6_carries_116 (by decide) ?_
    obtain ⟨h37, v35, e36, hf⟩ := rdA_el hf
    refine va_iald hx hb hK hP 1 0 rfl rfl h37 dX6_carries_119 ?_
    refine lv_as e36 ?_
    refine lv_if_ne (tgt := 125) hx hb dX6_carries_120 (by decide) (fun c38 => ?_) (fun c38 => ?_)
    · have hf := ite_f hf c38
      refine lv_aload_n hx hb dX6_carries_125 rfl (lv_at hl 0 rfl) ?_
      obtain ⟨X39, h40, hf⟩ := bnd_el hf
      refine wr_v (rest := []) (wc := (pM g aM XM)) (wc' := (pM g aM X39)) (ws2 := (pM g aM X39)) hP hD hS hA [0, 1, 2, 3, 4, 5, 6, 7, 8, 9, 10, 11] rfl rfl (by rfl) (rnV (As := []) ⟨hx, hb, hml, hown, hts⟩ (c_X6_returns l g aM _ _ _ h40) (cwV 0 hts gX6_carries_X6_returns rfl rfl rfl (by decide +kernel) ⟨Nat.le_of_ble_eq_true rfl, Nat.le_of_ble_eq_true rfl⟩) hKW hP hD [0, 1, 2, 3, 4, 5, 6, 7, 8, 9, 10, 11] (by decide) rfl (va_recv hK hP (ci := 6) (q0 := 0) rfl rfl) rfl hl.1 rfl (lv_room (Nat.le_of_ble_eq_true rfl)) dX6_carries_126 ⟨Nat.zero_le _, Nat.zero_le _⟩) (fun H locs hP hD hS => ?_)
      refine lv_iconst (v := 1) hx hb dX6_carries_129 (by decide) ?_
      have er0 := Option.some.inj hf
      obtain ⟨er0, er1⟩ := Prod.mk.inj er0
      rw [← hQ0]; exact W.zret (v := 1) hx hb hr rfl (fun t ht hW => ⟨⟨1, (), rfl, ⟨er0, rfl⟩, by dsimp only; rw [ht, ← er1]; exact hP⟩, hS.F ht⟩) hS.2.2 dX6_carries_130
    · have hf := ite_t hf c38
      refine lv_iconst (v := 0) hx hb dX6_carries_123 (by decide) ?_
      have er0 := Option.some.inj hf
      obtain ⟨er0, er1⟩ := Prod.mk.inj er0
      rw [← hQ0]; exact W.zret (v := 0) hx hb hr rfl (fun t ht hW => ⟨⟨0, (), rfl, ⟨er0, rfl⟩, by dsimp only; rw [ht, ← er1]; exact hP⟩, hS.F ht⟩) hS.2.2 dX6_carries_124
  have hf := ite_f hf c34
  have q41 := i32_nk (z := 117) (by decide) c34
  refine lv_lookup (tgt := 131) (off := 127) hx hb dX6_carries_4 (by decide) (by simp [Op.lookupswitch.offset, List.find?, Ne.symm q10, q10, Ne.symm q20, q20, Ne.symm q33, q33, Ne.symm q41, q41]) (by decide) ?_
  refine lv_aload_n hx hb dX6_carries_131 rfl (lv_at hl 0 rfl) ?_
  refine va_get (D := g.1) (ci := 6) (v := .ref (aM 1)) (C := RX6) (T := TX6) (N := 19) hx hb hts i_X6 hown hK hP 0 rfl rfl 0 (by decide) (hts (.fieldLink RX6 7 "WordFlasherModel" "d" "[I") (List.mem_of_getElem? (i := 2) rfl)) (fun _ h9 => h9) rfl dX6_carries_132 ?_
  refine lv_sipush (v := 301) hx hb dX6_carries_135 (by decide) ?_
  obtain ⟨h44, v42, e43, hf⟩ := rdA_el hf
  refine va_iald hx hb hK hP 1 0 rfl rfl h44 dX6_carries_138 ?_
  refine lv_as e43 ?_
  refine lv_iconst (v := (-1)) hx hb dX6_carries_139 (by decide) ?_
  refine lv_icmp_eq (tgt := 158) hx hb dX6_carries_140 (by decide) (fun c45 => ?_) (fun c45 => ?_)
  · have hf := ite_t hf c45
    refine lv_iconst (v := 0) hx hb dX6_carries_158 (by decide) ?_
    have er0 := Option.some.inj hf
    obtain ⟨er0, er1⟩ := Prod.mk.inj er0
    rw [← hQ0]; exact W.zret (v := 0) hx hb hr rfl (fun t ht hW => ⟨⟨0, (), rfl, ⟨er0, rfl⟩, by dsimp only; rw [ht, ← er1]; exact hP⟩, hS.F ht⟩) hS.2.2 dX6_carries_159
  · have hf := ite_f hf c45
    refine lv_aload_n hx hb dX6_carries_143 rfl (lv_at hl 0 rfl) ?_
    refine lv_aload_n hx hb dX6_carries_144 rfl (lv_at hl 0 rfl) ?_
    refine va_get (D := g.1) (ci := 6) (v := .ref (aM 1)) (C := RX6) (T := TX6) (N := 19) hx hb hts i_X6 hown hK hP 0 rfl rfl 0 (by decide) (hts (.fieldLink RX6 7 "WordFlasherModel" "d" "[I") (List.mem_of_getElem? (i := 2) rfl)) (fun _ h9 => h9) rfl dX6_carries_145 ?_
    refine lv_sipush (v := 301) hx hb dX6_carries_148 (by decide) ?_
    obtain ⟨h48, v46, e47, hf⟩ := rdA_el hf
    refine va_iald hx hb hK hP 1 0 rfl rfl h48 dX6_carries_151 ?_
    refine lv_as e47 ?_
    obtain ⟨r49, h50, hf⟩ := bnd_el hf
    refine rdV (As := [.int v46]) (rest := []) ⟨hx, hb, hml, hown, hts⟩ (c_X6_canNote l g aM _ _ _ _ h50) (cwV 1 hts gX6_carries_X6_canNote rfl rfl rfl (by decide +kernel) ⟨Nat.le_of_ble_eq_true rfl, Nat.le_of_ble_eq_true rfl⟩) hKW hP [0, 1, 2, 3, 4, 5, 6, 7, 8, 9, 10, 11] rfl (va_recv hK hP (ci := 6) (q0 := 0) rfl rfl) rfl hl.1 rfl (lv_room (Nat.le_of_ble_eq_true rfl)) dX6_carries_152 ⟨Nat.zero_le _, Nat.zero_le _⟩ (fun r51 q52 => ?_)
    obtain ⟨q52, nb53⟩ := q52
    refine lv_as q52.symm ?_
    rw [q52] at nb53
    refine lv_if_ne (tgt := 160) hx hb dX6_carries_155 (by decide) (fun c54 => ?_) (fun c54 => ?_)
    · have hf := ite_f hf c54
      refine lv_aload_n hx hb dX6_carries_160 rfl (lv_at hl 0 rfl) ?_
      refine lv_aload_n hx hb dX6_carries_161 rfl (lv_at hl 0 rfl) ?_
      refine va_get (D := g.1) (ci := 6) (v := .ref (aM 1)) (C := RX6) (T := TX6) (N := 19) hx hb hts i_X6 hown hK hP 0 rfl rfl 0 (by decide) (hts (.fieldLink RX6 7 "WordFlasherModel" "d" "[I") (List.mem_of_getElem? (i := 2) rfl)) (fun _ h9 => h9) rfl dX6_carries_162 ?_
      refine lv_sipush (v := 301) hx hb dX6_carries_165 (by decide) ?_
      obtain ⟨h57, v55, e56, hf⟩ := rdA_el hf
      refine va_iald hx hb hK hP 1 0 rfl rfl h57 dX6_carries_168 ?_
      refine lv_as e56 ?_
      refine lv_aload_n hx hb dX6_carries_169 rfl (lv_at hl 0 rfl) ?_
      refine va_get (D := g.1) (ci := 6) (v := .int (XM 8 0)) (C := RX6) (T := TX6) (N := 19) hx hb hts i_X6 hown hK hP 0 rfl rfl 8 (by decide) (hts (.fieldLink RX6 172 "WordFlasherModel" "number" "I") (List.mem_of_getElem? (i := 3) rfl)) (fun _ h9 => h9) rfl dX6_carries_170 ?_
      obtain ⟨X58, h59, hf⟩ := bnd_el hf
      refine wr_v (rest := []) (wc := (pM g aM XM)) (wc' := (pM g aM X58)) (ws2 := (pM g aM X58)) hP hD hS hA [0, 1, 2, 3, 4, 5, 6, 7, 8, 9, 10, 11] rfl rfl (by rfl) (rnV (As := [.int v55, .int (XM 8 0)]) ⟨hx, hb, hml, hown, hts⟩ (c_X6_notes l g aM _ _ _ _ _ _ h59) (cwV 2 hts gX6_carries_X6_notes rfl rfl rfl (by decide +kernel) ⟨Nat.le_of_ble_eq_true rfl, Nat.le_of_ble_eq_true rfl⟩) hKW hP hD [0, 1, 2, 3, 4, 5, 6, 7, 8, 9, 10, 11] (by decide) rfl (va_recv hK hP (ci := 6) (q0 := 0) rfl rfl) rfl hl.1 rfl (lv_room (Nat.le_of_ble_eq_true rfl)) dX6_carries_173 ⟨Nat.zero_le _, Nat.zero_le _⟩) (fun H locs hP hD hS => ?_)
      refine lv_iconst (v := 1) hx hb dX6_carries_176 (by decide) ?_
      have er0 := Option.some.inj hf
      obtain ⟨er0, er1⟩ := Prod.mk.inj er0
      rw [← hQ0]; exact W.zret (v := 1) hx hb hr rfl (fun t ht hW => ⟨⟨1, (), rfl, ⟨er0, rfl⟩, by dsimp only; rw [ht, ← er1]; exact hP⟩, hS.F ht⟩) hS.2.2 dX6_carries_177
    · have hf := ite_t hf c54
      refine lv_iconst (v := 0) hx hb dX6_carries_158 (by decide) ?_
      have er0 := Option.some.inj hf
      obtain ⟨er0, er1⟩ := Prod.mk.inj er0
      rw [← hQ0]; exact W.zret (v := 0) hx hb hr rfl (fun t ht hW => ⟨⟨0, (), rfl, ⟨er0, rfl⟩, by dsimp only; rw [ht, ← er1]; exact hP⟩, hS.F ht⟩) hS.2.2 dX6_carries_159
abbrev rmX6_carry : Room := { frames := 7, cells := 0, slots := 0, locals := 154 }
set_option maxHeartbeats 8000000 in
set_option maxRecDepth 100000 in
theorem c_X6_carry (l : Launch) (g : GG) (aM : Nat → Nat) (sz : Nat) (n : Nat) (XM : DM) (r : Int32) (XMz : DM) (hf : fX6_carry n XM = some (r, XMz)) : Met l yX6_carry wsX6_carry rmX6_carry (va_Pc [.ref (aM 0)] (fun U => U.heap.size = sz ∧ va_P g.1 vwCl (pM g aM XM) U.heap ∧ KW g U ∧ va_D (fun _ => True) (pM g aM XM))) (va_Qi (fun r' (_ : Unit) => r' = r ∧ True) (fun (_ : Unit) t => va_P g.1 vwCl (pM g aM XMz) t.heap) (va_A (pM g aM XM) sz)) 0 0 (va_A (pM g aM XM) sz) := by
  refine Met.ofW (cc := cX6_carry) (maxL := 3) (ret := (some .int)) (by decide) rfl ?_
  intro p e s m args below meth c s₁ B hml hv
  obtain ⟨hargs, hsz, hP, hKW, hD0⟩ := hv
  have hK := hKW.1
  have hx := B.exec
  have hb := B.bytes
  have hr := B.returns
  have hts := atoms_spec (ws := wsX6_carry) B.pre
  have hown : s.vm.findClass RX6 = some m.cls := findClass_of_methodNamed B.named
  have hlocks := B.notSynchronized
  subst hsz
  have hD := hD0.self (sz := s.heap.size)
  generalize hAe : va_A (pM g aM XM) s.heap.size = A at hD ⊢
  have hA : ∀ q : Nat, s.heap.size ≤ q → A q := fun q h => by rw [← hAe]; exact Or.inr h
  have hS : va_S A s.heap s.heap [] := va_S.rf
  have i_X6 : ∀ w ∈ wsX60, w ∈ wsX6_carry := fun w h => List.mem_cons_of_mem _ (List.mem_append_right _ h)
  have hent : entryFrame m args 3 = F0 m 0 ((lg_sl ([.ref (aM 0)]) ++ List.replicate (3 - (lg_sl ([.ref (aM 0)])).length) Slot.unset).toArray) [] := by rw [hargs]; exact lg_entry_eq _ _ _
  rw [hent]
  have hl := lv_entry ([.ref (aM 0)]) (n := 3) (Nat.le_of_ble_eq_true rfl)
  generalize (lg_sl ([.ref (aM 0)]) ++ List.replicate (3 - (lg_sl ([.ref (aM 0)])).length) Slot.unset).toArray = ls at hl ⊢
  have hl : lv_has ls 3 [(0, .ref (aM 0))] := hl
  generalize hQ0 : MQ below _ _ _ _ _ _ = Q0
  unfold fX6_carry at hf
  refine lv_aload_n hx hb dX6_carry_0 rfl (lv_at hl 0 rfl) ?_
  obtain ⟨u4, h3, hf⟩ := bnd_el hf
  refine wr_i (rest := []) (wc := (pM g aM XM)) (wc' := (pM g aM u4.2)) (ws2 := (pM g aM u4.2)) hP hD hS hA [0, 1, 2, 3, 4, 5, 6, 7, 8, 9, 10, 11] rfl rfl (by rfl) (rnV (As := []) ⟨hx, hb, hml, hown, hts⟩ (c_X6_fault l g aM _ _ _ _ _ h3) (cwV 0 hts gX6_carry_X6_fault rfl rfl rfl (by decide +kernel) ⟨Nat.le_of_ble_eq_true rfl, Nat.le_of_ble_eq_true rfl⟩) hKW hP hD [0, 1, 2, 3, 4, 5, 6, 7, 8, 9, 10, 11] (by decide) rfl (va_recv hK hP (ci := 6) (q0 := 0) rfl rfl) rfl hl.1 rfl (lv_room (Nat.le_of_ble_eq_true rfl)) dX6_carry_1 ⟨Nat.zero_le _, Nat.zero_le _⟩) (fun r5 H locs q6 hP hD hS => ?_)
  obtain ⟨q6, nb7⟩ := q6
  refine lv_as q6.symm ?_
  refine lv_bipush (v := (-4)) hx hb dX6_carry_4 (by decide) ?_
  refine lv_icmp_eq (tgt := 12) hx hb dX6_carry_6 (by decide) (fun c8 => ?_) (fun c8 => ?_)
  · have hf := ite_t hf c8
    refine lv_aload_n hx hb dX6_carry_12 rfl (lv_at hl 0 rfl) ?_
    obtain ⟨X9, h10, hf⟩ := bnd_el hf
    refine wr_v (rest := []) (wc := (pM g aM u4.2)) (wc' := (pM g aM X9)) (ws2 := (pM g aM X9)) hP hD hS hA [0, 1, 2, 3, 4, 5, 6, 7, 8, 9, 10, 11] rfl rfl (by rfl) (rnV (As := []) ⟨hx, hb, hml, hown, hts⟩ (c_X6_records l g aM _ _ _ _ h10) (cwV 0 hts gX6_carry_X6_records rfl rfl rfl (by decide +kernel) ⟨Nat.le_of_ble_eq_true rfl, Nat.le_of_ble_eq_true rfl⟩) hKW hP hD [0, 1, 2, 3, 4, 5, 6, 7, 8, 9, 10, 11] (by decide) rfl (va_recv hK hP (ci := 6) (q0 := 0) rfl rfl) rfl hl.1 rfl (lv_room (Nat.le_of_ble_eq_true rfl)) dX6_carry_13 ⟨Nat.zero_le _, Nat.zero_le _⟩) (fun H locs hP hD hS => ?_)
    refine lv_iconst (v := 0) hx hb dX6_carry_16 (by decide) ?_
    refine lv_istore_n (lv' := [(1, .int 0), (0, .ref (aM 0))]) hx hb dX6_carry_17 rfl hl (by decide) rfl (fun ls hl => ?_)
    refine lv_iconst (v := 1) hx hb dX6_carry_18 (by decide) ?_
    refine lv_istore_n (lv' := [(2, .int 1), (1, .int 0), (0, .ref (aM 0))]) hx hb dX6_carry_19 rfl hl (by decide) rfl (fun ls hl => ?_)
    refine lv_aload_n hx hb dX6_carry_20 rfl (lv_at hl 2 rfl) ?_
    refine lv_iconst (v := 0) hx hb dX6_carry_21 (by decide) ?_
    obtain ⟨X11, e12, hf⟩ := sl_el hf
    refine va_put (D := g.1) (ci := 6) (v := .int 0) (ty := .int) (C := RX6) (T := TX6) (N := 19) hx hb hts i_X6 tyX6 tyX6_ok nmX6 hown hK hP hD hS 0 rfl rfl 6 (by decide) (hts (.fieldLink RX6 169 "WordFlasherModel" "at" "I") (List.mem_of_getElem? (i := 1) rfl)) (fun _ h9 => h9) rfl (by decide +kernel) rfl rfl (Nat.le_of_ble_eq_true rfl) dX6_carry_22 (fun H locs hP hD hS => ?_)
    have hP : va_P g.1 vwCl (pM g aM X11) H := by subst e12; exact hP
    have hD : va_D A (pM g aM X11) := by subst e12; exact hD
    have L_25 : ∀ fu : Nat, ∀ (x1 x2 : Int32) (XM : DM) (H : Heap) (locs : List Loc) (ls : Array Slot), va_P g.1 vwCl (pM g aM XM) H → va_D A (pM g aM XM) → va_S A s.heap H locs → lv_has ls 3 [(0, .ref (aM 0)), (1, .int x1), (2, .int x2)] → fX6_carry_L25 n fu x1 x2 XM = some (r, XMz) → W p l e (headSpec wsX6_carry rmX6_carry).room s m args below meth c H locs 0 0 Q0 (F0 m 25 ls []) := by
      intro fu
      induction fu with
      | zero => intros; rename_i hf; rw [fX6_carry_L25] at hf; cases hf
      | succ fu ih =>
        intro x1 x2 XM H locs ls hP hD hS hl hf
        rw [fX6_carry_L25] at hf
        refine lv_iload_n hx hb dX6_carry_25 rfl (lv_at hl 2 rfl) ?_
        refine lv_if_eq (tgt := 65) hx hb dX6_carry_26 (by decide) (fun c13 => ?_) (fun c13 => ?_)
        · have hf := ite_t hf c13
          refine lv_iload_n hx hb dX6_carry_65 rfl (lv_at hl 1 rfl) ?_
          have er0 := Option.some.inj hf
          obtain ⟨er0, er1⟩ := Prod.mk.inj er0
          rw [← hQ0]; exact W.iret (v := x1) hx hb hr (fun t ht hW => ⟨⟨x1, (), rfl, ⟨er0, trivial⟩, by dsimp only; rw [ht, ← er1]; exact hP⟩, hS.F ht⟩) hS.2.2 dX6_carry_66
        · have hf := ite_f hf c13
          refine lv_aload_n hx hb dX6_carry_29 rfl (lv_at hl 0 rfl) ?_
          refine va_get (D := g.1) (ci := 6) (v := .int (XM 6 0)) (C := RX6) (T := TX6) (N := 19) hx hb hts i_X6 hown hK hP 0 rfl rfl 6 (by decide) (hts (.fieldLink RX6 169 "WordFlasherModel" "at" "I") (List.mem_of_getElem? (i := 1) rfl)) (fun _ h9 => h9) rfl dX6_carry_30 ?_
          refine lv_aload_n hx hb dX6_carry_33 rfl (lv_at hl 0 rfl) ?_
          refine va_get (D := g.1) (ci := 6) (v := .int (XM 5 0)) (C := RX6) (T := TX6) (N := 19) hx hb hts i_X6 hown hK hP 0 rfl rfl 5 (by decide) (hts (.fieldLink RX6 131 "WordFlasherModel" "ordered" "I") (List.mem_of_getElem? (i := 2) rfl)) (fun _ h9 => h9) rfl dX6_carry_34 ?_
          refine lv_icmp_ge (tgt := 65) hx hb dX6_carry_37 (by decide) (fun c14 => ?_) (fun c14 => ?_)
          · have hf := ite_t hf c14
            refine lv_iload_n hx hb dX6_carry_65 rfl (lv_at hl 1 rfl) ?_
            have er0 := Option.some.inj hf
            obtain ⟨er0, er1⟩ := Prod.mk.inj er0
            rw [← hQ0]; exact W.iret (v := x1) hx hb hr (fun t ht hW => ⟨⟨x1, (), rfl, ⟨er0, trivial⟩, by dsimp only; rw [ht, ← er1]; exact hP⟩, hS.F ht⟩) hS.2.2 dX6_carry_66
          · have hf := ite_f hf c14
            refine lv_aload_n hx hb dX6_carry_40 rfl (lv_at hl 0 rfl) ?_
            obtain ⟨u18, h17, hf⟩ := bnd_el hf
            refine wr_i (rest := []) (wc := (pM g aM XM)) (wc' := (pM g aM u18.2)) (ws2 := (pM g aM u18.2)) hP hD hS hA [0, 1, 2, 3, 4, 5, 6, 7, 8, 9, 10, 11] rfl rfl (by rfl) (rnV (As := []) ⟨hx, hb, hml, hown, hts⟩ (c_X6_readsOrder l g aM _ _ _ _ _ h17) (cwV 0 hts gX6_carry_X6_readsOrder rfl rfl rfl (by decide +kernel) ⟨Nat.le_of_ble_eq_true rfl, Nat.le_of_ble_eq_true rfl⟩) hKW hP hD [0, 1, 2, 3, 4, 5, 6, 7, 8, 9, 10, 11] (by decide) rfl (va_recv hK hP (ci := 6) (q0 := 0) rfl rfl) rfl hl.1 rfl (lv_room (Nat.le_of_ble_eq_true rfl)) dX6_carry_41 ⟨Nat.zero_le _, Nat.zero_le _⟩) (fun r19 H locs q20 hP hD hS => ?_)
            obtain ⟨q20, nb21⟩ := q20
            refine lv_as q20.symm ?_
            rw [q20] at nb21
            refine lv_pop hx hb dX6_carry_44 rfl ?_
            refine lv_aload_n hx hb dX6_carry_45 rfl (lv_at hl 0 rfl) ?_
            obtain ⟨u25, h24, hf⟩ := bnd_el hf
            refine wr_i (rest := []) (wc := (pM g aM u18.2)) (wc' := (pM g aM u25.2)) (ws2 := (pM g aM u25.2)) hP hD hS hA [0, 1, 2, 3, 4, 5, 6, 7, 8, 9, 10, 11] rfl rfl (by rfl) (rnV (As := []) ⟨hx, hb, hml, hown, hts⟩ (c_X6_carries l g aM _ _ _ _ _ h24) (cwV 0 hts gX6_carry_X6_carries rfl rfl rfl (by decide +kernel) ⟨Nat.le_of_ble_eq_true rfl, Nat.le_of_ble_eq_true rfl⟩) hKW hP hD [0, 1, 2, 3, 4, 5, 6, 7, 8, 9, 10, 11] (by decide) rfl (va_recv hK hP (ci := 6) (q0 := 0) rfl rfl) rfl hl.1 rfl (lv_room (Nat.le_of_ble_eq_true rfl)) dX6_carry_46 ⟨Nat.zero_le _, Nat.zero_le _⟩) (fun r26 H locs q27 hP hD hS => ?_)
            obtain ⟨q27, nb28⟩ := q27
            refine lv_as q27.symm ?_
            rw [q27] at nb28
            obtain ⟨v29, e30, hf⟩ := sl_el hf
            refine lv_as e30 ?_
            refine lv_istore_n (lv' := [(2, .int v29), (0, .ref (aM 0)), (1, .int x1)]) hx hb dX6_carry_49 rfl hl (by decide) rfl (fun ls hl => ?_)
            refine lv_iload_n hx hb dX6_carry_50 rfl (lv_at hl 2 rfl) ?_
            refine lv_iload_n hx hb dX6_carry_51 rfl (lv_at hl 0 rfl) ?_
            obtain ⟨j60, ej60, hf⟩ := sl_el hf
            have J_60 : ∀ (x2 k0 k1 : Int32) (XM : DM) (H : Heap) (locs : List Loc) (ls : Array Slot), va_P g.1 vwCl (pM g aM XM) H → va_D A (pM g aM XM) → va_S A s.heap H locs → lv_has ls 3 [(0, .ref (aM 0)), (2, .int x2)] → j60 x2 k0 k1 XM = some (r, XMz) → W p l e (headSpec wsX6_carry rmX6_carry).room s m args below meth c H locs 0 0 Q0 (F0 m 60 ls [.int k1, .int k0]) := by
              intro x2 k0 k1 XM H locs ls hP hD hS hl hf
              rw [ej60] at hf
              refine lv_iadd hx hb dX6_carry_60 ?_
              obtain ⟨v31, e32, hf⟩ := sl_el hf
              refine lv_as e32 ?_
              refine lv_istore_n (lv' := [(1, .int v31), (0, .ref (aM 0)), (2, .int x2)]) hx hb dX6_carry_61 rfl hl (by decide) rfl (fun ls hl => ?_)
              refine lv_goto (tgt := 25) hx hb dX6_carry_62 (by decide) ?_
              exact ih v31 x2 XM _ _ ls hP hD hS (lv_sub hl [1, 0, 2] rfl) hf
            refine lv_if_eq (tgt := 59) hx hb dX6_carry_52 (by decide) (fun c33 => ?_) (fun c33 => ?_)
            · have hf := ite_t hf c33
              refine lv_iconst (v := 0) hx hb dX6_carry_59 (by decide) ?_
              exact J_60 v29 x1 0 u25.2 _ _ ls hP hD hS (lv_sub hl [1, 0] rfl) hf
            · have hf := ite_f hf c33
              refine lv_iconst (v := 1) hx hb dX6_carry_55 (by decide) ?_
              refine lv_goto (tgt := 60) hx hb dX6_carry_56 (by decide) ?_
              exact J_60 v29 x1 1 u25.2 _ _ ls hP hD hS (lv_sub hl [1, 0] rfl) hf
    exact L_25 n 0 1 X11 _ _ ls hP hD hS (lv_sub hl [2, 1, 0] rfl) hf
  · have hf := ite_f hf c8
    refine lv_bipush (v := (-2)) hx hb dX6_carry_9 (by decide) ?_
    have er0 := Option.some.inj hf
    obtain ⟨er0, er1⟩ := Prod.mk.inj er0
    rw [← hQ0]; exact W.iret (v := (-2)) hx hb hr (fun t ht hW => ⟨⟨(-2), (), rfl, ⟨er0, trivial⟩, by dsimp only; rw [ht, ← er1]; exact hP⟩, hS.F ht⟩) hS.2.2 dX6_carry_11
