abbrev rmX5_count : Room := { frames := 5, cells := 0, slots := 0, locals := 112 }
set_option maxHeartbeats 8000000 in
set_option maxRecDepth 100000 in
theorem c_X5_count (l : Launch) (g : GG) (aF : Nat → Nat) (aN : Nat → Nat) (aA : Nat → Nat) (aW : Nat → Nat) (aP : Nat → Nat) (aQ : Nat → Nat) (aO : Nat → Nat) (aH : Nat → Nat) (aB : Nat → Nat → Nat) (n : Nat) (XF : DM) (XN : DM) (XW : DM) (XP : DM) (XQ : DM) (XO : DM) (XH : HD) (p1 : Int32) (r : Int32) (hf : fX5_count n XF XN XW XP XQ XO XH p1 = some r) : Met l yX5_count wsX5_count rmX5_count (va_Pc [.ref (aF 0), .int p1] (fun U => va_P g.1 vwCl (pF g aF (aW 0) (aN 0) (aA 0) (aH 0) (aO 0) XF ++ (pS g aN (aW 0) XN ++ (pW g aW (aP 0) (aQ 0) XW ++ (pP g aP XP ++ (pP g aQ XQ ++ (pO g aO XO ++ (pH g aH aB (aW 0) XH))))))) U.heap ∧ KW g U)) (vp_Si (fun r' => r' = r ∧ True)) 0 0 (fun _ => False) := by
  refine Met.ofW (cc := cX5_count) (maxL := 2) (ret := (some .int)) (by decide) rfl ?_
  intro p e s m args below meth c s₁ B hml hv
  obtain ⟨hargs, hP, hKW⟩ := hv
  have hK := hKW.1
  have hx := B.exec
  have hb := B.bytes
  have hr := B.returns
  have hts := atoms_spec (ws := wsX5_count) B.pre
  have hown : s.vm.findClass RX5 = some m.cls := findClass_of_methodNamed B.named
  have hlocks := B.notSynchronized
  have i_X5 : ∀ w ∈ wsX50, w ∈ wsX5_count := fun w h => List.mem_cons_of_mem _ (List.mem_append_left _ (List.mem_append_left _ (List.mem_append_left _ (List.mem_append_left _ (List.mem_append_left _ (List.mem_append_right _ h))))))
  have i_X3 : ∀ w ∈ wsX30, w ∈ wsX5_count := fun w h => List.mem_cons_of_mem _ (List.mem_append_left _ (List.mem_append_left _ (List.mem_append_left _ (List.mem_append_left _ (List.mem_append_right _ h)))))
  have i_X4 : ∀ w ∈ wsX40, w ∈ wsX5_count := fun w h => List.mem_cons_of_mem _ (List.mem_append_left _ (List.mem_append_left _ (List.mem_append_left _ (List.mem_append_right _ h))))
  have i_X2 : ∀ w ∈ wsX20, w ∈ wsX5_count := fun w h => List.mem_cons_of_mem _ (List.mem_append_left _ (List.mem_append_left _ (List.mem_append_right _ h)))
  have i_X0 : ∀ w ∈ wsX00, w ∈ wsX5_count := fun w h => List.mem_cons_of_mem _ (List.mem_append_left _ (List.mem_append_right _ h))
  have i_X1 : ∀ w ∈ wsX10, w ∈ wsX5_count := fun w h => List.mem_cons_of_mem _ (List.mem_append_right _ h)
  have hent : entryFrame m args 2 = F0 m 0 ((lg_sl ([.ref (aF 0), .int p1]) ++ List.replicate (2 - (lg_sl ([.ref (aF 0), .int p1])).length) Slot.unset).toArray) [] := by rw [hargs]; exact lg_entry_eq _ _ _
  rw [hent]
  have hl := lv_entry ([.ref (aF 0), .int p1]) (n := 2) (Nat.le_of_ble_eq_true rfl)
  generalize (lg_sl ([.ref (aF 0), .int p1]) ++ List.replicate (2 - (lg_sl ([.ref (aF 0), .int p1])).length) Slot.unset).toArray = ls at hl ⊢
  have hl : lv_has ls 2 [(0, .ref (aF 0)), (1, .int p1)] := hl
  generalize hQ0 : MQ below _ _ _ _ _ _ = Q0
  unfold fX5_count at hf
  refine lv_iload_n hx hb dX5_count_0 rfl (lv_at hl 1 rfl) ?_
  refine lv_bipush (v := 20) hx hb dX5_count_1 (by decide) ?_
  obtain ⟨j27, ej27, hf⟩ := sl_el hf
  have J_27 : ∀ (x1 : Int32) (ls : Array Slot), lv_has ls 2 [(0, .ref (aF 0)), (1, .int x1)] → j27 x1 = some r → W p l e (headSpec wsX5_count rmX5_count).room s m args below meth c s.heap [] 0 0 Q0 (F0 m 27 ls []) := by
    intro x1 ls hl hf
    rw [ej27] at hf
    refine lv_iload_n hx hb dX5_count_27 rfl (lv_at hl 1 rfl) ?_
    refine lv_bipush (v := 30) hx hb dX5_count_28 (by decide) ?_
    obtain ⟨j54, ej54, hf⟩ := sl_el hf
    have J_54 : ∀ (x1 : Int32) (ls : Array Slot), lv_has ls 2 [(0, .ref (aF 0)), (1, .int x1)] → j54 x1 = some r → W p l e (headSpec wsX5_count rmX5_count).room s m args below meth c s.heap [] 0 0 Q0 (F0 m 54 ls []) := by
      intro x1 ls hl hf
      rw [ej54] at hf
      refine lv_iload_n hx hb dX5_count_54 rfl (lv_at hl 1 rfl) ?_
      by_cases c1 : x1 = 0
      · have hf := ite_t hf c1
        refine lv_tableIn (tgt := 124) (off := 69) hx hb dX5_count_55 (by rw [c1]; decide) (by rw [c1]; decide) (by rw [c1]; rfl) (by decide) ?_
        refine lv_aload_n hx hb dX5_count_124 rfl (lv_at hl 0 rfl) ?_
        refine va_get (D := g.1) (ci := 5) (v := .ref (aN 0)) (C := RX5) (T := TX5) (N := 6) hx hb hts i_X5 hown hK hP 0 rfl rfl 1 (by decide) (hts (.fieldLink RX5 21 "WordFlasher" "now" "LWordFlasher$State;") (List.mem_of_getElem? (i := 1) rfl)) (fun _ h9 => h9) rfl dX5_count_125 ?_
        refine va_get (D := g.1) (ci := 3) (v := .int (XN 2 0)) (C := RX3) (T := TX3) (N := 15) hx hb hts i_X3 hown hK hP 2 rfl rfl 2 (by decide) (hts (.fieldLink RX5 50 "WordFlasher$State" "length" "I") (List.mem_of_getElem? (i := 4) rfl)) (fun _ h9 => h9) rfl dX5_count_128 ?_
        have er0 := Option.some.inj hf
        rw [← hQ0]; exact W.iret (v := (XN 2 0)) hx hb hr (fun t ht hW => ⟨(XN 2 0), rfl, ⟨er0, trivial⟩, ht⟩) (fun q h => by cases h) dX5_count_131
      have hf := ite_f hf c1
      have q2 := i32_nk (z := 0) (by decide) c1
      by_cases c3 : x1 = 1
      · have hf := ite_t hf c3
        refine lv_tableIn (tgt := 132) (off := 77) hx hb dX5_count_55 (by rw [c3]; decide) (by rw [c3]; decide) (by rw [c3]; rfl) (by decide) ?_
        refine lv_aload_n hx hb dX5_count_132 rfl (lv_at hl 0 rfl) ?_
        refine va_get (D := g.1) (ci := 5) (v := .ref (aW 0)) (C := RX5) (T := TX5) (N := 6) hx hb hts i_X5 hown hK hP 0 rfl rfl 0 (by decide) (hts (.fieldLink RX5 10 "WordFlasher" "words" "LWordFlasher$Words;") (List.mem_of_getElem? (i := 5) rfl)) (fun _ h9 => h9) rfl dX5_count_133 ?_
        refine va_get (D := g.1) (ci := 4) (v := .int (XW 8 0)) (C := RX4) (T := TX4) (N := 9) hx hb hts i_X4 hown hK hP 9 rfl rfl 8 (by decide) (hts (.fieldLink RX5 69 "WordFlasher$Words" "many" "I") (List.mem_of_getElem? (i := 6) rfl)) (fun _ h9 => h9) rfl dX5_count_136 ?_
        have er0 := Option.some.inj hf
        rw [← hQ0]; exact W.iret (v := (XW 8 0)) hx hb hr (fun t ht hW => ⟨(XW 8 0), rfl, ⟨er0, trivial⟩, ht⟩) (fun q h => by cases h) dX5_count_139
      have hf := ite_f hf c3
      have q4 := i32_nk (z := 1) (by decide) c3
      by_cases c5 : x1 = 2
      · have hf := ite_t hf c5
        refine lv_tableIn (tgt := 140) (off := 85) hx hb dX5_count_55 (by rw [c5]; decide) (by rw [c5]; decide) (by rw [c5]; rfl) (by decide) ?_
        refine lv_aload_n hx hb dX5_count_140 rfl (lv_at hl 0 rfl) ?_
        refine va_get (D := g.1) (ci := 5) (v := .ref (aW 0)) (C := RX5) (T := TX5) (N := 6) hx hb hts i_X5 hown hK hP 0 rfl rfl 0 (by decide) (hts (.fieldLink RX5 10 "WordFlasher" "words" "LWordFlasher$Words;") (List.mem_of_getElem? (i := 5) rfl)) (fun _ h9 => h9) rfl dX5_count_141 ?_
        refine va_get (D := g.1) (ci := 4) (v := .ref (aP 0)) (C := RX4) (T := TX4) (N := 9) hx hb hts i_X4 hown hK hP 9 rfl rfl 6 (by decide) (hts (.fieldLink RX5 95 "WordFlasher$Words" "sentences" "LWordFlasher$Spans;") (List.mem_of_getElem? (i := 7) rfl)) (fun _ h9 => h9) rfl dX5_count_144 ?_
        refine va_get (D := g.1) (ci := 2) (v := .int (XP 3 0)) (C := RX2) (T := TX2) (N := 4) hx hb hts i_X2 hown hK hP 16 rfl rfl 3 (by decide) (hts (.fieldLink RX5 146 "WordFlasher$Spans" "many" "I") (List.mem_of_getElem? (i := 8) rfl)) (fun _ h9 => h9) rfl dX5_count_147 ?_
        have er0 := Option.some.inj hf
        rw [← hQ0]; exact W.iret (v := (XP 3 0)) hx hb hr (fun t ht hW => ⟨(XP 3 0), rfl, ⟨er0, trivial⟩, ht⟩) (fun q h => by cases h) dX5_count_150
      have hf := ite_f hf c5
      have q6 := i32_nk (z := 2) (by decide) c5
      by_cases c7 : x1 = 3
      · have hf := ite_t hf c7
        refine lv_tableIn (tgt := 151) (off := 96) hx hb dX5_count_55 (by rw [c7]; decide) (by rw [c7]; decide) (by rw [c7]; rfl) (by decide) ?_
        refine lv_aload_n hx hb dX5_count_151 rfl (lv_at hl 0 rfl) ?_
        refine va_get (D := g.1) (ci := 5) (v := .ref (aW 0)) (C := RX5) (T := TX5) (N := 6) hx hb hts i_X5 hown hK hP 0 rfl rfl 0 (by decide) (hts (.fieldLink RX5 10 "WordFlasher" "words" "LWordFlasher$Words;") (List.mem_of_getElem? (i := 5) rfl)) (fun _ h9 => h9) rfl dX5_count_152 ?_
        refine va_get (D := g.1) (ci := 4) (v := .ref (aQ 0)) (C := RX4) (T := TX4) (N := 9) hx hb hts i_X4 hown hK hP 9 rfl rfl 7 (by decide) (hts (.fieldLink RX5 104 "WordFlasher$Words" "pages" "LWordFlasher$Spans;") (List.mem_of_getElem? (i := 9) rfl)) (fun _ h9 => h9) rfl dX5_count_155 ?_
        refine va_get (D := g.1) (ci := 2) (v := .int (XQ 3 0)) (C := RX2) (T := TX2) (N := 4) hx hb hts i_X2 hown hK hP 20 rfl rfl 3 (by decide) (hts (.fieldLink RX5 146 "WordFlasher$Spans" "many" "I") (List.mem_of_getElem? (i := 8) rfl)) (fun _ h9 => h9) rfl dX5_count_158 ?_
        have er0 := Option.some.inj hf
        rw [← hQ0]; exact W.iret (v := (XQ 3 0)) hx hb hr (fun t ht hW => ⟨(XQ 3 0), rfl, ⟨er0, trivial⟩, ht⟩) (fun q h => by cases h) dX5_count_161
      have hf := ite_f hf c7
      have q8 := i32_nk (z := 3) (by decide) c7
      by_cases c9 : x1 = 4
      · have hf := ite_t hf c9
        refine lv_tableIn (tgt := 162) (off := 107) hx hb dX5_count_55 (by rw [c9]; decide) (by rw [c9]; decide) (by rw [c9]; rfl) (by decide) ?_
        refine lv_aload_n hx hb dX5_count_162 rfl (lv_at hl 0 rfl) ?_
        refine va_get (D := g.1) (ci := 5) (v := .ref (aN 0)) (C := RX5) (T := TX5) (N := 6) hx hb hts i_X5 hown hK hP 0 rfl rfl 1 (by decide) (hts (.fieldLink RX5 21 "WordFlasher" "now" "LWordFlasher$State;") (List.mem_of_getElem? (i := 1) rfl)) (fun _ h9 => h9) rfl dX5_count_163 ?_
        refine va_get (D := g.1) (ci := 3) (v := .int (XN 6 0)) (C := RX3) (T := TX3) (N := 15) hx hb hts i_X3 hown hK hP 2 rfl rfl 6 (by decide) (hts (.fieldLink RX5 147 "WordFlasher$State" "present" "I") (List.mem_of_getElem? (i := 10) rfl)) (fun _ h9 => h9) rfl dX5_count_166 ?_
        refine lv_iconst (v := (-1)) hx hb dX5_count_169 (by decide) ?_
        refine lv_icmp_ne (tgt := 178) hx hb dX5_count_170 (by decide) (fun c10 => ?_) (fun c10 => ?_)
        · have hf := ite_f hf c10
          refine lv_aload_n hx hb dX5_count_178 rfl (lv_at hl 0 rfl) ?_
          refine va_get (D := g.1) (ci := 5) (v := .ref (aN 0)) (C := RX5) (T := TX5) (N := 6) hx hb hts i_X5 hown hK hP 0 rfl rfl 1 (by decide) (hts (.fieldLink RX5 21 "WordFlasher" "now" "LWordFlasher$State;") (List.mem_of_getElem? (i := 1) rfl)) (fun _ h9 => h9) rfl dX5_count_179 ?_
          refine va_get (D := g.1) (ci := 3) (v := .int (XN 6 0)) (C := RX3) (T := TX3) (N := 15) hx hb hts i_X3 hown hK hP 2 rfl rfl 6 (by decide) (hts (.fieldLink RX5 147 "WordFlasher$State" "present" "I") (List.mem_of_getElem? (i := 10) rfl)) (fun _ h9 => h9) rfl dX5_count_182 ?_
          have er0 := Option.some.inj hf
          rw [← hQ0]; exact W.iret (v := (XN 6 0)) hx hb hr (fun t ht hW => ⟨(XN 6 0), rfl, ⟨er0, trivial⟩, ht⟩) (fun q h => by cases h) dX5_count_185
        · have hf := ite_t hf c10
          refine lv_bipush (v := (-4)) hx hb dX5_count_173 (by decide) ?_
          refine lv_goto (tgt := 185) hx hb dX5_count_175 (by decide) ?_
          have er0 := Option.some.inj hf
          rw [← hQ0]; exact W.iret (v := (-4)) hx hb hr (fun t ht hW => ⟨(-4), rfl, ⟨er0, trivial⟩, ht⟩) (fun q h => by cases h) dX5_count_185
      have hf := ite_f hf c9
      have q11 := i32_nk (z := 4) (by decide) c9
      by_cases c12 : x1 = 5
      · have hf := ite_t hf c12
        refine lv_tableIn (tgt := 186) (off := 131) hx hb dX5_count_55 (by rw [c12]; decide) (by rw [c12]; decide) (by rw [c12]; rfl) (by decide) ?_
        refine lv_aload_n hx hb dX5_count_186 rfl (lv_at hl 0 rfl) ?_
        refine va_get (D := g.1) (ci := 5) (v := .ref (aN 0)) (C := RX5) (T := TX5) (N := 6) hx hb hts i_X5 hown hK hP 0 rfl rfl 1 (by decide) (hts (.fieldLink RX5 21 "WordFlasher" "now" "LWordFlasher$State;") (List.mem_of_getElem? (i := 1) rfl)) (fun _ h9 => h9) rfl dX5_count_187 ?_
        refine va_get (D := g.1) (ci := 3) (v := .int (XN 6 0)) (C := RX3) (T := TX3) (N := 15) hx hb hts i_X3 hown hK hP 2 rfl rfl 6 (by decide) (hts (.fieldLink RX5 147 "WordFlasher$State" "present" "I") (List.mem_of_getElem? (i := 10) rfl)) (fun _ h9 => h9) rfl dX5_count_190 ?_
        refine lv_iconst (v := (-1)) hx hb dX5_count_193 (by decide) ?_
        refine lv_icmp_ne (tgt := 202) hx hb dX5_count_194 (by decide) (fun c13 => ?_) (fun c13 => ?_)
        · have hf := ite_f hf c13
          refine lv_aload_n hx hb dX5_count_202 rfl (lv_at hl 0 rfl) ?_
          refine va_get (D := g.1) (ci := 5) (v := .ref (aN 0)) (C := RX5) (T := TX5) (N := 6) hx hb hts i_X5 hown hK hP 0 rfl rfl 1 (by decide) (hts (.fieldLink RX5 21 "WordFlasher" "now" "LWordFlasher$State;") (List.mem_of_getElem? (i := 1) rfl)) (fun _ h9 => h9) rfl dX5_count_203 ?_
          refine va_get (D := g.1) (ci := 3) (v := .int (XN 7 0)) (C := RX3) (T := TX3) (N := 15) hx hb hts i_X3 hown hK hP 2 rfl rfl 7 (by decide) (hts (.fieldLink RX5 150 "WordFlasher$State" "rest" "I") (List.mem_of_getElem? (i := 11) rfl)) (fun _ h9 => h9) rfl dX5_count_206 ?_
          have er0 := Option.some.inj hf
          rw [← hQ0]; exact W.iret (v := (XN 7 0)) hx hb hr (fun t ht hW => ⟨(XN 7 0), rfl, ⟨er0, trivial⟩, ht⟩) (fun q h => by cases h) dX5_count_209
        · have hf := ite_t hf c13
          refine lv_bipush (v := (-4)) hx hb dX5_count_197 (by decide) ?_
          refine lv_goto (tgt := 209) hx hb dX5_count_199 (by decide) ?_
          have er0 := Option.some.inj hf
          rw [← hQ0]; exact W.iret (v := (-4)) hx hb hr (fun t ht hW => ⟨(-4), rfl, ⟨er0, trivial⟩, ht⟩) (fun q h => by cases h) dX5_count_209
      have hf := ite_f hf c12
      have q14 := i32_nk (z := 5) (by decide) c12
      by_cases c15 : x1 = 6
      · have hf := ite_t hf c15
        refine lv_tableIn (tgt := 210) (off := 155) hx hb dX5_count_55 (by rw [c15]; decide) (by rw [c15]; decide) (by rw [c15]; rfl) (by decide) ?_
        refine lv_aload_n hx hb dX5_count_210 rfl (lv_at hl 0 rfl) ?_
        refine va_get (D := g.1) (ci := 5) (v := .ref (aN 0)) (C := RX5) (T := TX5) (N := 6) hx hb hts i_X5 hown hK hP 0 rfl rfl 1 (by decide) (hts (.fieldLink RX5 21 "WordFlasher" "now" "LWordFlasher$State;") (List.mem_of_getElem? (i := 1) rfl)) (fun _ h9 => h9) rfl dX5_count_211 ?_
        refine va_get (D := g.1) (ci := 3) (v := .int (XN 9 0)) (C := RX3) (T := TX3) (N := 15) hx hb hts i_X3 hown hK hP 2 rfl rfl 9 (by decide) (hts (.fieldLink RX5 153 "WordFlasher$State" "placed" "I") (List.mem_of_getElem? (i := 12) rfl)) (fun _ h9 => h9) rfl dX5_count_214 ?_
        have er0 := Option.some.inj hf
        rw [← hQ0]; exact W.iret (v := (XN 9 0)) hx hb hr (fun t ht hW => ⟨(XN 9 0), rfl, ⟨er0, trivial⟩, ht⟩) (fun q h => by cases h) dX5_count_217
      have hf := ite_f hf c15
      have q16 := i32_nk (z := 6) (by decide) c15
      by_cases c17 : x1 = 7
      · have hf := ite_t hf c17
        refine lv_tableIn (tgt := 218) (off := 163) hx hb dX5_count_55 (by rw [c17]; decide) (by rw [c17]; decide) (by rw [c17]; rfl) (by decide) ?_
        refine lv_aload_n hx hb dX5_count_218 rfl (lv_at hl 0 rfl) ?_
        refine va_get (D := g.1) (ci := 5) (v := .ref (aN 0)) (C := RX5) (T := TX5) (N := 6) hx hb hts i_X5 hown hK hP 0 rfl rfl 1 (by decide) (hts (.fieldLink RX5 21 "WordFlasher" "now" "LWordFlasher$State;") (List.mem_of_getElem? (i := 1) rfl)) (fun _ h9 => h9) rfl dX5_count_219 ?_
        obtain ⟨r18, h19, hf⟩ := bnd_el hf
        refine rdV (As := []) (rest := []) ⟨hx, hb, hml, hown, hts⟩ (c_X3_countNotes l g aN aW aP aQ _ _ _ h19) (cwV 0 hts gX5_count_X3_countNotes rfl rfl rfl (by decide +kernel) ⟨Nat.le_of_ble_eq_true rfl, Nat.le_of_ble_eq_true rfl⟩) hKW hP [2, 3, 4, 5, 6, 7, 8] rfl (va_recv hK hP (ci := 3) (q0 := 2) rfl rfl) rfl hl.1 rfl (lv_room (Nat.le_of_ble_eq_true rfl)) dX5_count_222 ⟨Nat.zero_le _, Nat.zero_le _⟩ (fun r20 q21 => ?_)
        obtain ⟨q21, nb22⟩ := q21
        refine lv_as q21.symm ?_
        have er0 := Option.some.inj hf
        rw [← hQ0]; exact W.iret (v := r18) hx hb hr (fun t ht hW => ⟨r18, rfl, ⟨er0, trivial⟩, ht⟩) (fun q h => by cases h) dX5_count_225
      have hf := ite_f hf c17
      have q23 := i32_nk (z := 7) (by decide) c17
      by_cases c24 : x1 = 8
      · have hf := ite_t hf c24
        refine lv_tableIn (tgt := 226) (off := 171) hx hb dX5_count_55 (by rw [c24]; decide) (by rw [c24]; decide) (by rw [c24]; rfl) (by decide) ?_
        refine lv_aload_n hx hb dX5_count_226 rfl (lv_at hl 0 rfl) ?_
        refine va_get (D := g.1) (ci := 5) (v := .ref (aN 0)) (C := RX5) (T := TX5) (N := 6) hx hb hts i_X5 hown hK hP 0 rfl rfl 1 (by decide) (hts (.fieldLink RX5 21 "WordFlasher" "now" "LWordFlasher$State;") (List.mem_of_getElem? (i := 1) rfl)) (fun _ h9 => h9) rfl dX5_count_227 ?_
        refine va_get (D := g.1) (ci := 3) (v := .int (XN 12 0)) (C := RX3) (T := TX3) (N := 15) hx hb hts i_X3 hown hK hP 2 rfl rfl 12 (by decide) (hts (.fieldLink RX5 160 "WordFlasher$State" "ticksGone" "I") (List.mem_of_getElem? (i := 13) rfl)) (fun _ h9 => h9) rfl dX5_count_230 ?_
        have er0 := Option.some.inj hf
        rw [← hQ0]; exact W.iret (v := (XN 12 0)) hx hb hr (fun t ht hW => ⟨(XN 12 0), rfl, ⟨er0, trivial⟩, ht⟩) (fun q h => by cases h) dX5_count_233
      have hf := ite_f hf c24
      have q25 := i32_nk (z := 8) (by decide) c24
      by_cases c26 : x1 = 9
      · have hf := ite_t hf c26
        refine lv_tableIn (tgt := 234) (off := 179) hx hb dX5_count_55 (by rw [c26]; decide) (by rw [c26]; decide) (by rw [c26]; rfl) (by decide) ?_
        refine lv_aload_n hx hb dX5_count_234 rfl (lv_at hl 0 rfl) ?_
        refine va_get (D := g.1) (ci := 5) (v := .ref (aN 0)) (C := RX5) (T := TX5) (N := 6) hx hb hts i_X5 hown hK hP 0 rfl rfl 1 (by decide) (hts (.fieldLink RX5 21 "WordFlasher" "now" "LWordFlasher$State;") (List.mem_of_getElem? (i := 1) rfl)) (fun _ h9 => h9) rfl dX5_count_235 ?_
        refine va_get (D := g.1) (ci := 3) (v := .int (XN 13 0)) (C := RX3) (T := TX3) (N := 15) hx hb hts i_X3 hown hK hP 2 rfl rfl 13 (by decide) (hts (.fieldLink RX5 163 "WordFlasher$State" "wordsEnded" "I") (List.mem_of_getElem? (i := 14) rfl)) (fun _ h9 => h9) rfl dX5_count_238 ?_
        have er0 := Option.some.inj hf
        rw [← hQ0]; exact W.iret (v := (XN 13 0)) hx hb hr (fun t ht hW => ⟨(XN 13 0), rfl, ⟨er0, trivial⟩, ht⟩) (fun q h => by cases h) dX5_count_241
      have hf := ite_f hf c26
      have q27 := i32_nk (z := 9) (by decide) c26
      by_cases c28 : x1 = 10
      · have hf := ite_t hf c28
        refine lv_tableIn (tgt := 242) (off := 187) hx hb dX5_count_55 (by rw [c28]; decide) (by rw [c28]; decide) (by rw [c28]; rfl) (by decide) ?_
        refine lv_aload_n hx hb dX5_count_242 rfl (lv_at hl 0 rfl) ?_
        refine va_get (D := g.1) (ci := 5) (v := .ref (aN 0)) (C := RX5) (T := TX5) (N := 6) hx hb hts i_X5 hown hK hP 0 rfl rfl 1 (by decide) (hts (.fieldLink RX5 21 "WordFlasher" "now" "LWordFlasher$State;") (List.mem_of_getElem? (i := 1) rfl)) (fun _ h9 => h9) rfl dX5_count_243 ?_
        refine va_get (D := g.1) (ci := 3) (v := .int (XN 14 0)) (C := RX3) (T := TX3) (N := 15) hx hb hts i_X3 hown hK hP 2 rfl rfl 14 (by decide) (hts (.fieldLink RX5 166 "WordFlasher$State" "askings" "I") (List.mem_of_getElem? (i := 15) rfl)) (fun _ h9 => h9) rfl dX5_count_246 ?_
        have er0 := Option.some.inj hf
        rw [← hQ0]; exact W.iret (v := (XN 14 0)) hx hb hr (fun t ht hW => ⟨(XN 14 0), rfl, ⟨er0, trivial⟩, ht⟩) (fun q h => by cases h) dX5_count_249
      have hf := ite_f hf c28
      have q29 := i32_nk (z := 10) (by decide) c28
      by_cases c30 : x1 = 11
      · have hf := ite_t hf c30
        refine lv_tableIn (tgt := 250) (off := 195) hx hb dX5_count_55 (by rw [c30]; decide) (by rw [c30]; decide) (by rw [c30]; rfl) (by decide) ?_
        refine lv_aload_n hx hb dX5_count_250 rfl (lv_at hl 0 rfl) ?_
        refine va_get (D := g.1) (ci := 5) (v := .ref (aH 0)) (C := RX5) (T := TX5) (N := 6) hx hb hts i_X5 hown hK hP 0 rfl rfl 3 (by decide) (hts (.fieldLink RX5 31 "WordFlasher" "history" "LWordFlasher$History;") (List.mem_of_getElem? (i := 16) rfl)) (fun _ h9 => h9) rfl dX5_count_251 ?_
        refine va_get (D := g.1) (ci := 0) (v := .int (XH.2.1 1 0)) (C := RX0) (T := TX0) (N := 2) hx hb hts i_X0 hown hK hP 26 rfl rfl 1 (by decide) (hts (.fieldLink RX5 169 "WordFlasher$History" "many" "I") (List.mem_of_getElem? (i := 17) rfl)) (fun _ h9 => h9) rfl dX5_count_254 ?_
        have er0 := Option.some.inj hf
        rw [← hQ0]; exact W.iret (v := (XH.2.1 1 0)) hx hb hr (fun t ht hW => ⟨(XH.2.1 1 0), rfl, ⟨er0, trivial⟩, ht⟩) (fun q h => by cases h) dX5_count_257
      have hf := ite_f hf c30
      have q31 := i32_nk (z := 11) (by decide) c30
      by_cases c32 : x1 = 12
      · have hf := ite_t hf c32
        refine lv_tableIn (tgt := 258) (off := 203) hx hb dX5_count_55 (by rw [c32]; decide) (by rw [c32]; decide) (by rw [c32]; rfl) (by decide) ?_
        refine lv_aload_n hx hb dX5_count_258 rfl (lv_at hl 0 rfl) ?_
        refine va_get (D := g.1) (ci := 5) (v := .ref (aO 0)) (C := RX5) (T := TX5) (N := 6) hx hb hts i_X5 hown hK hP 0 rfl rfl 4 (by decide) (hts (.fieldLink RX5 38 "WordFlasher" "orders" "LWordFlasher$Orders;") (List.mem_of_getElem? (i := 18) rfl)) (fun _ h9 => h9) rfl dX5_count_259 ?_
        refine va_get (D := g.1) (ci := 1) (v := .int (XO 1 0)) (C := RX1) (T := TX1) (N := 2) hx hb hts i_X1 hown hK hP 24 rfl rfl 1 (by decide) (hts (.fieldLink RX5 170 "WordFlasher$Orders" "length" "I") (List.mem_of_getElem? (i := 19) rfl)) (fun _ h9 => h9) rfl dX5_count_262 ?_
        have er0 := Option.some.inj hf
        rw [← hQ0]; exact W.iret (v := (XO 1 0)) hx hb hr (fun t ht hW => ⟨(XO 1 0), rfl, ⟨er0, trivial⟩, ht⟩) (fun q h => by cases h) dX5_count_265
      have hf := ite_f hf c32
      have q33 := i32_nk (z := 12) (by decide) c32
      by_cases c34 : x1 = 13
      · have hf := ite_t hf c34
        refine lv_tableIn (tgt := 266) (off := 211) hx hb dX5_count_55 (by rw [c34]; decide) (by rw [c34]; decide) (by rw [c34]; rfl) (by decide) ?_
        refine lv_aload_n hx hb dX5_count_266 rfl (lv_at hl 0 rfl) ?_
        refine va_get (D := g.1) (ci := 5) (v := .ref (aN 0)) (C := RX5) (T := TX5) (N := 6) hx hb hts i_X5 hown hK hP 0 rfl rfl 1 (by decide) (hts (.fieldLink RX5 21 "WordFlasher" "now" "LWordFlasher$State;") (List.mem_of_getElem? (i := 1) rfl)) (fun _ h9 => h9) rfl dX5_count_267 ?_
        refine lv_iconst (v := 0) hx hb dX5_count_270 (by decide) ?_
        refine lv_aload_n hx hb dX5_count_271 rfl (lv_at hl 0 rfl) ?_
        refine va_get (D := g.1) (ci := 5) (v := .ref (aW 0)) (C := RX5) (T := TX5) (N := 6) hx hb hts i_X5 hown hK hP 0 rfl rfl 0 (by decide) (hts (.fieldLink RX5 10 "WordFlasher" "words" "LWordFlasher$Words;") (List.mem_of_getElem? (i := 5) rfl)) (fun _ h9 => h9) rfl dX5_count_272 ?_
        refine va_get (D := g.1) (ci := 4) (v := .int (XW 8 0)) (C := RX4) (T := TX4) (N := 9) hx hb hts i_X4 hown hK hP 9 rfl rfl 8 (by decide) (hts (.fieldLink RX5 69 "WordFlasher$Words" "many" "I") (List.mem_of_getElem? (i := 6) rfl)) (fun _ h9 => h9) rfl dX5_count_275 ?_
        refine lv_iconst (v := 1) hx hb dX5_count_278 (by decide) ?_
        refine lv_isub hx hb dX5_count_279 ?_
        obtain ⟨r35, h36, hf⟩ := bnd_el hf
        refine rdV (As := [.int 0, .int ((XW 8 0) - 1)]) (rest := []) ⟨hx, hb, hml, hown, hts⟩ (c_X3_timeOfAll l g aN aW aP aQ _ _ _ _ _ _ h36) (cwV 2 hts gX5_count_X3_timeOfAll rfl rfl rfl (by decide +kernel) ⟨Nat.le_of_ble_eq_true rfl, Nat.le_of_ble_eq_true rfl⟩) hKW hP [2, 3, 4, 5, 6, 7, 8, 9, 10, 11, 12, 13, 14, 15] rfl (va_recv hK hP (ci := 3) (q0 := 2) rfl rfl) rfl hl.1 rfl (lv_room (Nat.le_of_ble_eq_true rfl)) dX5_count_280 ⟨Nat.zero_le _, Nat.zero_le _⟩ (fun r37 q38 => ?_)
        obtain ⟨q38, nb39⟩ := q38
        refine lv_as q38.symm ?_
        have er0 := Option.some.inj hf
        rw [← hQ0]; exact W.iret (v := r35) hx hb hr (fun t ht hW => ⟨r35, rfl, ⟨er0, trivial⟩, ht⟩) (fun q h => by cases h) dX5_count_283
      have hf := ite_f hf c34
      have q40 := i32_nk (z := 13) (by decide) c34
      refine lv_tableOut (tgt := 284) hx hb dX5_count_55 (by omega) (by decide) ?_
      refine lv_iconst (v := (-1)) hx hb dX5_count_284 (by decide) ?_
      have er0 := Option.some.inj hf
      rw [← hQ0]; exact W.iret (v := (-1)) hx hb hr (fun t ht hW => ⟨(-1), rfl, ⟨er0, trivial⟩, ht⟩) (fun q h => by cases h) dX5_count_285
    refine lv_icmp_lt (tgt := 54) hx hb dX5_count_30 (by decide) (fun c41 => ?_) (fun c41 => ?_)
    · have hf := ite_t hf c41
      exact J_54 x1 ls (lv_sub hl [0, 1] rfl) hf
    · have hf := ite_f hf c41
      refine lv_iload_n hx hb dX5_count_33 rfl (lv_at hl 1 rfl) ?_
      refine lv_bipush (v := 33) hx hb dX5_count_34 (by decide) ?_
      refine lv_icmp_ge (tgt := 54) hx hb dX5_count_36 (by decide) (fun c42 => ?_) (fun c42 => ?_)
      · have hf := ite_t hf c42
        exact J_54 x1 ls (lv_sub hl [0, 1] rfl) hf
      · have hf := ite_f hf c42
        refine lv_aload_n hx hb dX5_count_39 rfl (lv_at hl 0 rfl) ?_
        refine va_get (D := g.1) (ci := 5) (v := .ref (aN 0)) (C := RX5) (T := TX5) (N := 6) hx hb hts i_X5 hown hK hP 0 rfl rfl 1 (by decide) (hts (.fieldLink RX5 21 "WordFlasher" "now" "LWordFlasher$State;") (List.mem_of_getElem? (i := 1) rfl)) (fun _ h9 => h9) rfl dX5_count_40 ?_
        refine va_get (D := g.1) (ci := 3) (v := .ref (aN 3)) (C := RX3) (T := TX3) (N := 15) hx hb hts i_X3 hown hK hP 2 rfl rfl 4 (by decide) (hts (.fieldLink RX5 143 "WordFlasher$State" "speeds" "[I") (List.mem_of_getElem? (i := 3) rfl)) (fun _ h9 => h9) rfl dX5_count_43 ?_
        refine lv_iload_n hx hb dX5_count_46 rfl (lv_at hl 1 rfl) ?_
        refine lv_bipush (v := 30) hx hb dX5_count_47 (by decide) ?_
        refine lv_isub hx hb dX5_count_49 ?_
        obtain ⟨r43, h44, hf⟩ := bnd_el hf
        refine rdS (As := [.ref (aN 3), .int (x1 - 30)]) (rest := []) ⟨hx, hb, hml, hown, hts⟩ (c_X5_at l g (aN 3) 3 _ _ _ h44) (va_cwS 2 hts gX5_count_X5_at rfl rfl rfl (by decide +kernel) ⟨Nat.le_of_ble_eq_true rfl, Nat.le_of_ble_eq_true rfl⟩) hKW hP [5] rfl rfl hl.1 rfl (lv_room (Nat.le_of_ble_eq_true rfl)) dX5_count_50 ⟨Nat.zero_le _, Nat.zero_le _⟩ (fun r45 q46 => ?_)
        obtain ⟨q46, nb47⟩ := q46
        refine lv_as q46.symm ?_
        have er0 := Option.some.inj hf
        rw [← hQ0]; exact W.iret (v := r43) hx hb hr (fun t ht hW => ⟨r43, rfl, ⟨er0, trivial⟩, ht⟩) (fun q h => by cases h) dX5_count_53
  refine lv_icmp_lt (tgt := 27) hx hb dX5_count_3 (by decide) (fun c48 => ?_) (fun c48 => ?_)
  · have hf := ite_t hf c48
    exact J_27 p1 ls (lv_sub hl [0, 1] rfl) hf
  · have hf := ite_f hf c48
    refine lv_iload_n hx hb dX5_count_6 rfl (lv_at hl 1 rfl) ?_
    refine lv_bipush (v := 27) hx hb dX5_count_7 (by decide) ?_
    refine lv_icmp_ge (tgt := 27) hx hb dX5_count_9 (by decide) (fun c49 => ?_) (fun c49 => ?_)
    · have hf := ite_t hf c49
      exact J_27 p1 ls (lv_sub hl [0, 1] rfl) hf
    · have hf := ite_f hf c49
      refine lv_aload_n hx hb dX5_count_12 rfl (lv_at hl 0 rfl) ?_
      refine va_get (D := g.1) (ci := 5) (v := .ref (aN 0)) (C := RX5) (T := TX5) (N := 6) hx hb hts i_X5 hown hK hP 0 rfl rfl 1 (by decide) (hts (.fieldLink RX5 21 "WordFlasher" "now" "LWordFlasher$State;") (List.mem_of_getElem? (i := 1) rfl)) (fun _ h9 => h9) rfl dX5_count_13 ?_
      refine va_get (D := g.1) (ci := 3) (v := .ref (aN 2)) (C := RX3) (T := TX3) (N := 15) hx hb hts i_X3 hown hK hP 2 rfl rfl 3 (by decide) (hts (.fieldLink RX5 140 "WordFlasher$State" "settings" "[I") (List.mem_of_getElem? (i := 2) rfl)) (fun _ h9 => h9) rfl dX5_count_16 ?_
      refine lv_iload_n hx hb dX5_count_19 rfl (lv_at hl 1 rfl) ?_
      refine lv_bipush (v := 20) hx hb dX5_count_20 (by decide) ?_
      refine lv_isub hx hb dX5_count_22 ?_
      obtain ⟨r50, h51, hf⟩ := bnd_el hf
      refine rdS (As := [.ref (aN 2), .int (p1 - 20)]) (rest := []) ⟨hx, hb, hml, hown, hts⟩ (c_X5_at l g (aN 2) 7 _ _ _ h51) (va_cwS 2 hts gX5_count_X5_at rfl rfl rfl (by decide +kernel) ⟨Nat.le_of_ble_eq_true rfl, Nat.le_of_ble_eq_true rfl⟩) hKW hP [4] rfl rfl hl.1 rfl (lv_room (Nat.le_of_ble_eq_true rfl)) dX5_count_23 ⟨Nat.zero_le _, Nat.zero_le _⟩ (fun r52 q53 => ?_)
      obtain ⟨q53, nb54⟩ := q53
      refine lv_as q53.symm ?_
      have er0 := Option.some.inj hf
      rw [← hQ0]; exact W.iret (v := r50) hx hb hr (fun t ht hW => ⟨r50, rfl, ⟨er0, trivial⟩, ht⟩) (fun q h => by cases h) dX5_count_26
abbrev rmX5_append : Room := { frames := 6, cells := 0, slots := 0, locals := 140 }
set_option maxHeartbeats 8000000 in
set_option maxRecDepth 100000 in
theorem c_X5_append (l : Launch) (g : GG) (aF : Nat → Nat) (aN : Nat → Nat) (aA : Nat → Nat) (aW : Nat → Nat) (aP : Nat → Nat) (aQ : Nat → Nat) (aO : Nat → Nat) (aH : Nat → Nat) (aB : Nat → Nat → Nat) (sz : Nat) (n : Nat) (XF : DM) (XN : DM) (XW : DM) (XP : DM) (XQ : DM) (XH : HD) (p1 : Int32) (r : Int32) (XNz : DM) (XWz : DM) (XPz : DM) (XQz : DM) (XHz : HD) (hf : fX5_append n XF XN XW XP XQ XH p1 = some (r, XNz, XWz, XPz, XQz, XHz)) : Met l yX5_append wsX5_append rmX5_append (va_Pc [.ref (aF 0), .int p1] (fun U => U.heap.size = sz ∧ va_P g.1 vwCl (pF g aF (aW 0) (aN 0) (aA 0) (aH 0) (aO 0) XF ++ (pS g aN (aW 0) XN ++ (pW g aW (aP 0) (aQ 0) XW ++ (pP g aP XP ++ (pP g aQ XQ ++ (pH g aH aB (aW 0) XH)))))) U.heap ∧ KW g U ∧ va_D (fun _ => True) (pF g aF (aW 0) (aN 0) (aA 0) (aH 0) (aO 0) XF ++ (pS g aN (aW 0) XN ++ (pW g aW (aP 0) (aQ 0) XW ++ (pP g aP XP ++ (pP g aQ XQ ++ (pH g aH aB (aW 0) XH)))))))) (va_Qi (fun r' (_ : Unit) => r' = r ∧ True) (fun (_ : Unit) t => va_P g.1 vwCl (pF g aF (aW 0) (aN 0) (aA 0) (aH 0) (aO 0) XF ++ (pS g aN (aW 0) XNz ++ (pW g aW (aP 0) (aQ 0) XWz ++ (pP g aP XPz ++ (pP g aQ XQz ++ (pH g aH aB (aW 0) XHz)))))) t.heap) (va_A (pF g aF (aW 0) (aN 0) (aA 0) (aH 0) (aO 0) XF ++ (pS g aN (aW 0) XN ++ (pW g aW (aP 0) (aQ 0) XW ++ (pP g aP XP ++ (pP g aQ XQ ++ (pH g aH aB (aW 0) XH)))))) sz)) 0 0 (va_A (pF g aF (aW 0) (aN 0) (aA 0) (aH 0) (aO 0) XF ++ (pS g aN (aW 0) XN ++ (pW g aW (aP 0) (aQ 0) XW ++ (pP g aP XP ++ (pP g aQ XQ ++ (pH g aH aB (aW 0) XH)))))) sz) := by
  refine Met.ofW (cc := cX5_append) (maxL := 2) (ret := (some .int)) (by decide) rfl ?_
  intro p e s m args below meth c s₁ B hml hv
  obtain ⟨hargs, hsz, hP, hKW, hD0⟩ := hv
  have hK := hKW.1
  have hx := B.exec
  have hb := B.bytes
  have hr := B.returns
  have hts := atoms_spec (ws := wsX5_append) B.pre
  have hown : s.vm.findClass RX5 = some m.cls := findClass_of_methodNamed B.named
  have hlocks := B.notSynchronized
  subst hsz
  have hD := hD0.self (sz := s.heap.size)
  generalize hAe : va_A (pF g aF (aW 0) (aN 0) (aA 0) (aH 0) (aO 0) XF ++ (pS g aN (aW 0) XN ++ (pW g aW (aP 0) (aQ 0) XW ++ (pP g aP XP ++ (pP g aQ XQ ++ (pH g aH aB (aW 0) XH)))))) s.heap.size = A at hD ⊢
  have hA : ∀ q : Nat, s.heap.size ≤ q → A q := fun q h => by rw [← hAe]; exact Or.inr h
  have hS : va_S A s.heap s.heap [] := va_S.rf
  have i_X5 : ∀ w ∈ wsX50, w ∈ wsX5_append := fun w h => List.mem_cons_of_mem _ (List.mem_append_left _ (List.mem_append_left _ (List.mem_append_left _ (List.mem_append_left _ (List.mem_append_right _ h)))))
  have i_X3 : ∀ w ∈ wsX30, w ∈ wsX5_append := fun w h => List.mem_cons_of_mem _ (List.mem_append_left _ (List.mem_append_left _ (List.mem_append_left _ (List.mem_append_right _ h))))
  have i_X4 : ∀ w ∈ wsX40, w ∈ wsX5_append := fun w h => List.mem_cons_of_mem _ (List.mem_append_left _ (List.mem_append_left _ (List.mem_append_right _ h)))
  have i_X0 : ∀ w ∈ wsX00, w ∈ wsX5_append := fun w h => List.mem_cons_of_mem _ (List.mem_append_left _ (List.mem_append_right _ h))
  have i_X2 : ∀ w ∈ wsX20, w ∈ wsX5_append := fun w h => List.mem_cons_of_mem _ (List.mem_append_right _ h)
  have hent : entryFrame m args 2 = F0 m 0 ((lg_sl ([.ref (aF 0), .int p1]) ++ List.replicate (2 - (lg_sl ([.ref (aF 0), .int p1])).length) Slot.unset).toArray) [] := by rw [hargs]; exact lg_entry_eq _ _ _
  rw [hent]
  have hl := lv_entry ([.ref (aF 0), .int p1]) (n := 2) (Nat.le_of_ble_eq_true rfl)
  generalize (lg_sl ([.ref (aF 0), .int p1]) ++ List.replicate (2 - (lg_sl ([.ref (aF 0), .int p1])).length) Slot.unset).toArray = ls at hl ⊢
  have hl : lv_has ls 2 [(0, .ref (aF 0)), (1, .int p1)] := hl
  generalize hQ0 : MQ below _ _ _ _ _ _ = Q0
  unfold fX5_append at hf
  refine lv_iload_n hx hb dX5_append_0 rfl (lv_at hl 1 rfl) ?_
  obtain ⟨r1, h2, hf⟩ := bnd_el hf
  refine rdS (As := [.int p1]) (rest := []) ⟨hx, hb, hml, hown, hts⟩ (c_X5_isCharacter l g _ _ h2) (va_cwS 1 hts gX5_append_X5_isCharacter rfl rfl rfl (by decide +kernel) ⟨Nat.le_of_ble_eq_true rfl, Nat.le_of_ble_eq_true rfl⟩) hKW hP [] rfl rfl hl.1 rfl (lv_room (Nat.le_of_ble_eq_true rfl)) dX5_append_1 ⟨Nat.zero_le _, Nat.zero_le _⟩ (fun r3 q4 => ?_)
  obtain ⟨q4, nb5⟩ := q4
  refine lv_as q4.symm ?_
  rw [q4] at nb5
  refine lv_if_ne (tgt := 9) hx hb dX5_append_4 (by decide) (fun c6 => ?_) (fun c6 => ?_)
  · have hf := ite_f hf c6
    refine lv_aload_n hx hb dX5_append_9 rfl (lv_at hl 0 rfl) ?_
    refine va_get (D := g.1) (ci := 5) (v := .ref (aN 0)) (C := RX5) (T := TX5) (N := 6) hx hb hts i_X5 hown hK hP 0 rfl rfl 1 (by decide) (hts (.fieldLink RX5 21 "WordFlasher" "now" "LWordFlasher$State;") (List.mem_of_getElem? (i := 1) rfl)) (fun _ h9 => h9) rfl dX5_append_10 ?_
    refine va_get (D := g.1) (ci := 3) (v := .int (XN 2 0)) (C := RX3) (T := TX3) (N := 15) hx hb hts i_X3 hown hK hP 2 rfl rfl 2 (by decide) (hts (.fieldLink RX5 50 "WordFlasher$State" "length" "I") (List.mem_of_getElem? (i := 2) rfl)) (fun _ h9 => h9) rfl dX5_append_13 ?_
    refine lv_sipush (v := 300) hx hb dX5_append_16 (by decide) ?_
    refine lv_icmp_lt (tgt := 25) hx hb dX5_append_19 (by decide) (fun c7 => ?_) (fun c7 => ?_)
    · have hf := ite_t hf c7
      refine lv_aload_n hx hb dX5_append_25 rfl (lv_at hl 0 rfl) ?_
      refine va_get (D := g.1) (ci := 5) (v := .ref (aH 0)) (C := RX5) (T := TX5) (N := 6) hx hb hts i_X5 hown hK hP 0 rfl rfl 3 (by decide) (hts (.fieldLink RX5 31 "WordFlasher" "history" "LWordFlasher$History;") (List.mem_of_getElem? (i := 3) rfl)) (fun _ h9 => h9) rfl dX5_append_26 ?_
      refine lv_aload_n hx hb dX5_append_29 rfl (lv_at hl 0 rfl) ?_
      refine va_get (D := g.1) (ci := 5) (v := .ref (aN 0)) (C := RX5) (T := TX5) (N := 6) hx hb hts i_X5 hown hK hP 0 rfl rfl 1 (by decide) (hts (.fieldLink RX5 21 "WordFlasher" "now" "LWordFlasher$State;") (List.mem_of_getElem? (i := 1) rfl)) (fun _ h9 => h9) rfl dX5_append_30 ?_
      obtain ⟨X8, h9, hf⟩ := bnd_el hf
      refine wr_v (rest := []) (wc := (pS g aN (aW 0) XN ++ (pH g aH aB (aW 0) XH))) (wc' := (pS g aN (aW 0) XN ++ (pH g aH aB (aW 0) X8))) (ws2 := (pF g aF (aW 0) (aN 0) (aA 0) (aH 0) (aO 0) XF ++ (pS g aN (aW 0) XN ++ (pW g aW (aP 0) (aQ 0) XW ++ (pP g aP XP ++ (pP g aQ XQ ++ (pH g aH aB (aW 0) X8))))))) hP hD hS hA [2, 3, 4, 5, 6, 7, 8, 24, 25, 26, 27, 28, 29, 30, 31, 32, 33, 34, 35, 36, 37, 38, 39, 40, 41, 42, 43, 44, 45, 46, 47, 48, 49, 50, 51, 52, 53] rfl rfl (by rfl) (rnV (As := [.ref (aN 0)]) ⟨hx, hb, hml, hown, hts⟩ (c_X0_keep l g aN aW aP aQ aH aB _ _ _ _ h9) (cwV 1 hts gX5_append_X0_keep rfl rfl rfl (by decide +kernel) ⟨Nat.le_of_ble_eq_true rfl, Nat.le_of_ble_eq_true rfl⟩) hKW hP hD [2, 3, 4, 5, 6, 7, 8, 24, 25, 26, 27, 28, 29, 30, 31, 32, 33, 34, 35, 36, 37, 38, 39, 40, 41, 42, 43, 44, 45, 46, 47, 48, 49, 50, 51, 52, 53] (by decide) rfl (va_recv hK hP (ci := 0) (q0 := 24) rfl rfl) rfl hl.1 rfl (lv_room (Nat.le_of_ble_eq_true rfl)) dX5_append_33 ⟨Nat.zero_le _, Nat.zero_le _⟩) (fun H locs hP hD hS => ?_)
      refine lv_aload_n hx hb dX5_append_36 rfl (lv_at hl 0 rfl) ?_
      refine va_get (D := g.1) (ci := 5) (v := .ref (aN 0)) (C := RX5) (T := TX5) (N := 6) hx hb hts i_X5 hown hK hP 0 rfl rfl 1 (by decide) (hts (.fieldLink RX5 21 "WordFlasher" "now" "LWordFlasher$State;") (List.mem_of_getElem? (i := 1) rfl)) (fun _ h9 => h9) rfl dX5_append_37 ?_
      refine va_get (D := g.1) (ci := 3) (v := .ref (aN 1)) (C := RX3) (T := TX3) (N := 15) hx hb hts i_X3 hown hK hP 2 rfl rfl 1 (by decide) (hts (.fieldLink RX5 58 "WordFlasher$State" "text" "[I") (List.mem_of_getElem? (i := 4) rfl)) (fun _ h9 => h9) rfl dX5_append_40 ?_
      refine lv_aload_n hx hb dX5_append_43 rfl (lv_at hl 0 rfl) ?_
      refine va_get (D := g.1) (ci := 5) (v := .ref (aN 0)) (C := RX5) (T := TX5) (N := 6) hx hb hts i_X5 hown hK hP 0 rfl rfl 1 (by decide) (hts (.fieldLink RX5 21 "WordFlasher" "now" "LWordFlasher$State;") (List.mem_of_getElem? (i := 1) rfl)) (fun _ h9 => h9) rfl dX5_append_44 ?_
      refine va_get (D := g.1) (ci := 3) (v := .int (XN 2 0)) (C := RX3) (T := TX3) (N := 15) hx hb hts i_X3 hown hK hP 2 rfl rfl 2 (by decide) (hts (.fieldLink RX5 50 "WordFlasher$State" "length" "I") (List.mem_of_getElem? (i := 2) rfl)) (fun _ h9 => h9) rfl dX5_append_47 ?_
      refine lv_iload_n hx hb dX5_append_50 rfl (lv_at hl 1 rfl) ?_
      obtain ⟨f10, h11, hf⟩ := bnd_el hf
      obtain ⟨X12, e13, hf⟩ := sl_el hf
      refine wr_v (rest := []) (wc := (pR g (aN 1) 300 (XN 1))) (wc' := (pR g (aN 1) 300 f10)) (ws2 := (pF g aF (aW 0) (aN 0) (aA 0) (aH 0) (aO 0) XF ++ (pS g aN (aW 0) X12 ++ (pW g aW (aP 0) (aQ 0) XW ++ (pP g aP XP ++ (pP g aQ XQ ++ (pH g aH aB (aW 0) X8))))))) hP hD hS hA [3] rfl rfl (by subst e13; rfl) (rnS (As := [.ref (aN 1), .int (XN 2 0), .int p1]) ⟨hx, hb, hml, hown, hts⟩ (c_X5_put l g (aN 1) 300 _ _ _ _ _ h11) (va_cwS 3 hts gX5_append_X5_put rfl rfl rfl (by decide +kernel) ⟨Nat.le_of_ble_eq_true rfl, Nat.le_of_ble_eq_true rfl⟩) hKW hP hD [3] (by decide) rfl rfl hl.1 rfl (lv_room (Nat.le_of_ble_eq_true rfl)) dX5_append_51 ⟨Nat.zero_le _, Nat.zero_le _⟩) (fun H locs hP hD hS => ?_)
      refine lv_aload_n hx hb dX5_append_54 rfl (lv_at hl 0 rfl) ?_
      refine va_get (D := g.1) (ci := 5) (v := .ref (aN 0)) (C := RX5) (T := TX5) (N := 6) hx hb hts i_X5 hown hK hP 0 rfl rfl 1 (by decide) (hts (.fieldLink RX5 21 "WordFlasher" "now" "LWordFlasher$State;") (List.mem_of_getElem? (i := 1) rfl)) (fun _ h9 => h9) rfl dX5_append_55 ?_
      refine lv_aload_n hx hb dX5_append_58 rfl (lv_at hl 0 rfl) ?_
      refine va_get (D := g.1) (ci := 5) (v := .ref (aN 0)) (C := RX5) (T := TX5) (N := 6) hx hb hts i_X5 hown hK hP 0 rfl rfl 1 (by decide) (hts (.fieldLink RX5 21 "WordFlasher" "now" "LWordFlasher$State;") (List.mem_of_getElem? (i := 1) rfl)) (fun _ h9 => h9) rfl dX5_append_59 ?_
      refine va_get (D := g.1) (ci := 3) (v := .int (X12 2 0)) (C := RX3) (T := TX3) (N := 15) hx hb hts i_X3 hown hK hP 2 rfl rfl 2 (by decide) (hts (.fieldLink RX5 50 "WordFlasher$State" "length" "I") (List.mem_of_getElem? (i := 2) rfl)) (fun _ h9 => h9) rfl dX5_append_62 ?_
      refine lv_iconst (v := 1) hx hb dX5_append_65 (by decide) ?_
      refine lv_iadd hx hb dX5_append_66 ?_
      obtain ⟨u19, h18, hf⟩ := bnd_el hf
      refine wr_v (rest := []) (wc := (pS g aN (aW 0) X12 ++ (pW g aW (aP 0) (aQ 0) XW ++ (pP g aP XP ++ (pP g aQ XQ))))) (wc' := (pS g aN (aW 0) u19.1 ++ (pW g aW (aP 0) (aQ 0) u19.2.1 ++ (pP g aP u19.2.2.1 ++ (pP g aQ u19.2.2.2))))) (ws2 := (pF g aF (aW 0) (aN 0) (aA 0) (aH 0) (aO 0) XF ++ (pS g aN (aW 0) u19.1 ++ (pW g aW (aP 0) (aQ 0) u19.2.1 ++ (pP g aP u19.2.2.1 ++ (pP g aQ u19.2.2.2 ++ (pH g aH aB (aW 0) X8))))))) hP hD hS hA [2, 3, 4, 5, 6, 7, 8, 9, 10, 11, 12, 13, 14, 15, 16, 17, 18, 19, 20, 21, 22, 23] rfl rfl (by rfl) (rnV (As := [.int ((X12 2 0) + 1)]) ⟨hx, hb, hml, hown, hts⟩ (c_X3_startAnew l g aN aW aP aQ _ _ _ _ _ _ _ _ _ _ _ h18) (cwV 1 hts gX5_append_X3_startAnew rfl rfl rfl (by decide +kernel) ⟨Nat.le_of_ble_eq_true rfl, Nat.le_of_ble_eq_true rfl⟩) hKW hP hD [2, 3, 4, 5, 6, 7, 8, 9, 10, 11, 12, 13, 14, 15, 16, 17, 18, 19, 20, 21, 22, 23] (by decide) rfl (va_recv hK hP (ci := 3) (q0 := 2) rfl rfl) rfl hl.1 rfl (lv_room (Nat.le_of_ble_eq_true rfl)) dX5_append_67 ⟨Nat.zero_le _, Nat.zero_le _⟩) (fun H locs hP hD hS => ?_)
      refine lv_aload_n hx hb dX5_append_70 rfl (lv_at hl 0 rfl) ?_
      refine va_get (D := g.1) (ci := 5) (v := .ref (aW 0)) (C := RX5) (T := TX5) (N := 6) hx hb hts i_X5 hown hK hP 0 rfl rfl 0 (by decide) (hts (.fieldLink RX5 10 "WordFlasher" "words" "LWordFlasher$Words;") (List.mem_of_getElem? (i := 5) rfl)) (fun _ h9 => h9) rfl dX5_append_71 ?_
      refine va_get (D := g.1) (ci := 4) (v := .int (u19.2.1 8 0)) (C := RX4) (T := TX4) (N := 9) hx hb hts i_X4 hown hK hP 9 rfl rfl 8 (by decide) (hts (.fieldLink RX5 69 "WordFlasher$Words" "many" "I") (List.mem_of_getElem? (i := 6) rfl)) (fun _ h9 => h9) rfl dX5_append_74 ?_
      have er0 := Option.some.inj hf
      obtain ⟨er0, er1⟩ := Prod.mk.inj er0
      obtain ⟨er1, er2⟩ := Prod.mk.inj er1
      obtain ⟨er2, er3⟩ := Prod.mk.inj er2
      obtain ⟨er3, er4⟩ := Prod.mk.inj er3
      obtain ⟨er4, er5⟩ := Prod.mk.inj er4
      rw [← hQ0]; exact W.iret (v := (u19.2.1 8 0)) hx hb hr (fun t ht hW => ⟨⟨(u19.2.1 8 0), (), rfl, ⟨er0, trivial⟩, by dsimp only; rw [ht, ← er1, ← er2, ← er3, ← er4, ← er5]; exact hP⟩, hS.F ht⟩) hS.2.2 dX5_append_77
    · have hf := ite_f hf c7
      refine lv_bipush (v := (-3)) hx hb dX5_append_22 (by decide) ?_
      have er0 := Option.some.inj hf
      obtain ⟨er0, er1⟩ := Prod.mk.inj er0
      obtain ⟨er1, er2⟩ := Prod.mk.inj er1
      obtain ⟨er2, er3⟩ := Prod.mk.inj er2
      obtain ⟨er3, er4⟩ := Prod.mk.inj er3
      obtain ⟨er4, er5⟩ := Prod.mk.inj er4
      rw [← hQ0]; exact W.iret (v := (-3)) hx hb hr (fun t ht hW => ⟨⟨(-3), (), rfl, ⟨er0, trivial⟩, by dsimp only; rw [ht, ← er1, ← er2, ← er3, ← er4, ← er5]; exact hP⟩, hS.F ht⟩) hS.2.2 dX5_append_24
  · have hf := ite_t hf c6
    refine lv_iconst (v := (-1)) hx hb dX5_append_7 (by decide) ?_
    have er0 := Option.some.inj hf
    obtain ⟨er0, er1⟩ := Prod.mk.inj er0
    obtain ⟨er1, er2⟩ := Prod.mk.inj er1
    obtain ⟨er2, er3⟩ := Prod.mk.inj er2
    obtain ⟨er3, er4⟩ := Prod.mk.inj er3
    obtain ⟨er4, er5⟩ := Prod.mk.inj er4
    rw [← hQ0]; exact W.iret (v := (-1)) hx hb hr (fun t ht hW => ⟨⟨(-1), (), rfl, ⟨er0, trivial⟩, by dsimp only; rw [ht, ← er1, ← er2, ← er3, ← er4, ← er5]; exact hP⟩, hS.F ht⟩) hS.2.2 dX5_append_8
abbrev rmX5_cut : Room := { frames := 6, cells := 0, slots := 0, locals := 140 }
set_option maxHeartbeats 8000000 in
set_option maxRecDepth 100000 in
theorem c_X5_cut (l : Launch) (g : GG) (aF : Nat → Nat) (aN : Nat → Nat) (aA : Nat → Nat) (aW : Nat → Nat) (aP : Nat → Nat) (aQ : Nat → Nat) (aO : Nat → Nat) (aH : Nat → Nat) (aB : Nat → Nat → Nat) (sz : Nat) (n : Nat) (XF : DM) (XN : DM) (XW : DM) (XP : DM) (XQ : DM) (XH : HD) (p1 : Int32) (r : Int32) (XNz : DM) (XWz : DM) (XPz : DM) (XQz : DM) (XHz : HD) (hf : fX5_cut n XF XN XW XP XQ XH p1 = some (r, XNz, XWz, XPz, XQz, XHz)) : Met l yX5_cut wsX5_cut rmX5_cut (va_Pc [.ref (aF 0), .int p1] (fun U => U.heap.size = sz ∧ va_P g.1 vwCl (pF g aF (aW 0) (aN 0) (aA 0) (aH 0) (aO 0) XF ++ (pS g aN (aW 0) XN ++ (pW g aW (aP 0) (aQ 0) XW ++ (pP g aP XP ++ (pP g aQ XQ ++ (pH g aH aB (aW 0) XH)))))) U.heap ∧ KW g U ∧ va_D (fun _ => True) (pF g aF (aW 0) (aN 0) (aA 0) (aH 0) (aO 0) XF ++ (pS g aN (aW 0) XN ++ (pW g aW (aP 0) (aQ 0) XW ++ (pP g aP XP ++ (pP g aQ XQ ++ (pH g aH aB (aW 0) XH)))))))) (va_Qi (fun r' (_ : Unit) => r' = r ∧ True) (fun (_ : Unit) t => va_P g.1 vwCl (pF g aF (aW 0) (aN 0) (aA 0) (aH 0) (aO 0) XF ++ (pS g aN (aW 0) XNz ++ (pW g aW (aP 0) (aQ 0) XWz ++ (pP g aP XPz ++ (pP g aQ XQz ++ (pH g aH aB (aW 0) XHz)))))) t.heap) (va_A (pF g aF (aW 0) (aN 0) (aA 0) (aH 0) (aO 0) XF ++ (pS g aN (aW 0) XN ++ (pW g aW (aP 0) (aQ 0) XW ++ (pP g aP XP ++ (pP g aQ XQ ++ (pH g aH aB (aW 0) XH)))))) sz)) 0 0 (va_A (pF g aF (aW 0) (aN 0) (aA 0) (aH 0) (aO 0) XF ++ (pS g aN (aW 0) XN ++ (pW g aW (aP 0) (aQ 0) XW ++ (pP g aP XP ++ (pP g aQ XQ ++ (pH g aH aB (aW 0) XH)))))) sz) := by
  refine Met.ofW (cc := cX5_cut) (maxL := 2) (ret := (some .int)) (by decide) rfl ?_
  intro p e s m args below meth c s₁ B hml hv
  obtain ⟨hargs, hsz, hP, hKW, hD0⟩ := hv
  have hK := hKW.1
  have hx := B.exec
  have hb := B.bytes
  have hr := B.returns
  have hts := atoms_spec (ws := wsX5_cut) B.pre
  have hown : s.vm.findClass RX5 = some m.cls := findClass_of_methodNamed B.named
  have hlocks := B.notSynchronized
  subst hsz
  have hD := hD0.self (sz := s.heap.size)
  generalize hAe : va_A (pF g aF (aW 0) (aN 0) (aA 0) (aH 0) (aO 0) XF ++ (pS g aN (aW 0) XN ++ (pW g aW (aP 0) (aQ 0) XW ++ (pP g aP XP ++ (pP g aQ XQ ++ (pH g aH aB (aW 0) XH)))))) s.heap.size = A at hD ⊢
  have hA : ∀ q : Nat, s.heap.size ≤ q → A q := fun q h => by rw [← hAe]; exact Or.inr h
  have hS : va_S A s.heap s.heap [] := va_S.rf
  have i_X5 : ∀ w ∈ wsX50, w ∈ wsX5_cut := fun w h => List.mem_cons_of_mem _ (List.mem_append_left _ (List.mem_append_left _ (List.mem_append_left _ (List.mem_append_left _ (List.mem_append_right _ h)))))
  have i_X3 : ∀ w ∈ wsX30, w ∈ wsX5_cut := fun w h => List.mem_cons_of_mem _ (List.mem_append_left _ (List.mem_append_left _ (List.mem_append_left _ (List.mem_append_right _ h))))
  have i_X0 : ∀ w ∈ wsX00, w ∈ wsX5_cut := fun w h => List.mem_cons_of_mem _ (List.mem_append_left _ (List.mem_append_left _ (List.mem_append_right _ h)))
  have i_X4 : ∀ w ∈ wsX40, w ∈ wsX5_cut := fun w h => List.mem_cons_of_mem _ (List.mem_append_left _ (List.mem_append_right _ h))
  have i_X2 : ∀ w ∈ wsX20, w ∈ wsX5_cut := fun w h => List.mem_cons_of_mem _ (List.mem_append_right _ h)
  have hent : entryFrame m args 2 = F0 m 0 ((lg_sl ([.ref (aF 0), .int p1]) ++ List.replicate (2 - (lg_sl ([.ref (aF 0), .int p1])).length) Slot.unset).toArray) [] := by rw [hargs]; exact lg_entry_eq _ _ _
  rw [hent]
  have hl := lv_entry ([.ref (aF 0), .int p1]) (n := 2) (Nat.le_of_ble_eq_true rfl)
  generalize (lg_sl ([.ref (aF 0), .int p1]) ++ List.replicate (2 - (lg_sl ([.ref (aF 0), .int p1])).length) Slot.unset).toArray = ls at hl ⊢
  have hl : lv_has ls 2 [(0, .ref (aF 0)), (1, .int p1)] := hl
  generalize hQ0 : MQ below _ _ _ _ _ _ = Q0
  unfold fX5_cut at hf
  refine lv_iload_n hx hb dX5_cut_0 rfl (lv_at hl 1 rfl) ?_
  refine lv_iconst (v := 1) hx hb dX5_cut_1 (by decide) ?_
  refine lv_icmp_lt (tgt := 12) hx hb dX5_cut_2 (by decide) (fun c1 => ?_) (fun c1 => ?_)
  · have hf := ite_t hf c1
    refine lv_iconst (v := (-1)) hx hb dX5_cut_12 (by decide) ?_
    have er0 := Option.some.inj hf
    obtain ⟨er0, er1⟩ := Prod.mk.inj er0
    obtain ⟨er1, er2⟩ := Prod.mk.inj er1
    obtain ⟨er2, er3⟩ := Prod.mk.inj er2
    obtain ⟨er3, er4⟩ := Prod.mk.inj er3
    obtain ⟨er4, er5⟩ := Prod.mk.inj er4
    rw [← hQ0]; exact W.iret (v := (-1)) hx hb hr (fun t ht hW => ⟨⟨(-1), (), rfl, ⟨er0, trivial⟩, by dsimp only; rw [ht, ← er1, ← er2, ← er3, ← er4, ← er5]; exact hP⟩, hS.F ht⟩) hS.2.2 dX5_cut_13
  · have hf := ite_f hf c1
    refine lv_iload_n hx hb dX5_cut_5 rfl (lv_at hl 1 rfl) ?_
    refine lv_sipush (v := 300) hx hb dX5_cut_6 (by decide) ?_
    refine lv_icmp_le (tgt := 14) hx hb dX5_cut_9 (by decide) (fun c2 => ?_) (fun c2 => ?_)
    · have hf := ite_t hf c2
      refine lv_iload_n hx hb dX5_cut_14 rfl (lv_at hl 1 rfl) ?_
      refine lv_aload_n hx hb dX5_cut_15 rfl (lv_at hl 0 rfl) ?_
      refine va_get (D := g.1) (ci := 5) (v := .ref (aN 0)) (C := RX5) (T := TX5) (N := 6) hx hb hts i_X5 hown hK hP 0 rfl rfl 1 (by decide) (hts (.fieldLink RX5 21 "WordFlasher" "now" "LWordFlasher$State;") (List.mem_of_getElem? (i := 1) rfl)) (fun _ h9 => h9) rfl dX5_cut_16 ?_
      refine va_get (D := g.1) (ci := 3) (v := .int (XN 2 0)) (C := RX3) (T := TX3) (N := 15) hx hb hts i_X3 hown hK hP 2 rfl rfl 2 (by decide) (hts (.fieldLink RX5 50 "WordFlasher$State" "length" "I") (List.mem_of_getElem? (i := 2) rfl)) (fun _ h9 => h9) rfl dX5_cut_19 ?_
      refine lv_icmp_le (tgt := 28) hx hb dX5_cut_22 (by decide) (fun c3 => ?_) (fun c3 => ?_)
      · have hf := ite_t hf c3
        refine lv_aload_n hx hb dX5_cut_28 rfl (lv_at hl 0 rfl) ?_
        refine va_get (D := g.1) (ci := 5) (v := .ref (aH 0)) (C := RX5) (T := TX5) (N := 6) hx hb hts i_X5 hown hK hP 0 rfl rfl 3 (by decide) (hts (.fieldLink RX5 31 "WordFlasher" "history" "LWordFlasher$History;") (List.mem_of_getElem? (i := 3) rfl)) (fun _ h9 => h9) rfl dX5_cut_29 ?_
        refine lv_aload_n hx hb dX5_cut_32 rfl (lv_at hl 0 rfl) ?_
        refine va_get (D := g.1) (ci := 5) (v := .ref (aN 0)) (C := RX5) (T := TX5) (N := 6) hx hb hts i_X5 hown hK hP 0 rfl rfl 1 (by decide) (hts (.fieldLink RX5 21 "WordFlasher" "now" "LWordFlasher$State;") (List.mem_of_getElem? (i := 1) rfl)) (fun _ h9 => h9) rfl dX5_cut_33 ?_
        obtain ⟨X4, h5, hf⟩ := bnd_el hf
        refine wr_v (rest := []) (wc := (pS g aN (aW 0) XN ++ (pH g aH aB (aW 0) XH))) (wc' := (pS g aN (aW 0) XN ++ (pH g aH aB (aW 0) X4))) (ws2 := (pF g aF (aW 0) (aN 0) (aA 0) (aH 0) (aO 0) XF ++ (pS g aN (aW 0) XN ++ (pW g aW (aP 0) (aQ 0) XW ++ (pP g aP XP ++ (pP g aQ XQ ++ (pH g aH aB (aW 0) X4))))))) hP hD hS hA [2, 3, 4, 5, 6, 7, 8, 24, 25, 26, 27, 28, 29, 30, 31, 32, 33, 34, 35, 36, 37, 38, 39, 40, 41, 42, 43, 44, 45, 46, 47, 48, 49, 50, 51, 52, 53] rfl rfl (by rfl) (rnV (As := [.ref (aN 0)]) ⟨hx, hb, hml, hown, hts⟩ (c_X0_keep l g aN aW aP aQ aH aB _ _ _ _ h5) (cwV 1 hts gX5_cut_X0_keep rfl rfl rfl (by decide +kernel) ⟨Nat.le_of_ble_eq_true rfl, Nat.le_of_ble_eq_true rfl⟩) hKW hP hD [2, 3, 4, 5, 6, 7, 8, 24, 25, 26, 27, 28, 29, 30, 31, 32, 33, 34, 35, 36, 37, 38, 39, 40, 41, 42, 43, 44, 45, 46, 47, 48, 49, 50, 51, 52, 53] (by decide) rfl (va_recv hK hP (ci := 0) (q0 := 24) rfl rfl) rfl hl.1 rfl (lv_room (Nat.le_of_ble_eq_true rfl)) dX5_cut_36 ⟨Nat.zero_le _, Nat.zero_le _⟩) (fun H locs hP hD hS => ?_)
        refine lv_aload_n hx hb dX5_cut_39 rfl (lv_at hl 0 rfl) ?_
        refine va_get (D := g.1) (ci := 5) (v := .ref (aN 0)) (C := RX5) (T := TX5) (N := 6) hx hb hts i_X5 hown hK hP 0 rfl rfl 1 (by decide) (hts (.fieldLink RX5 21 "WordFlasher" "now" "LWordFlasher$State;") (List.mem_of_getElem? (i := 1) rfl)) (fun _ h9 => h9) rfl dX5_cut_40 ?_
        refine lv_aload_n hx hb dX5_cut_43 rfl (lv_at hl 0 rfl) ?_
        refine va_get (D := g.1) (ci := 5) (v := .ref (aN 0)) (C := RX5) (T := TX5) (N := 6) hx hb hts i_X5 hown hK hP 0 rfl rfl 1 (by decide) (hts (.fieldLink RX5 21 "WordFlasher" "now" "LWordFlasher$State;") (List.mem_of_getElem? (i := 1) rfl)) (fun _ h9 => h9) rfl dX5_cut_44 ?_
        refine va_get (D := g.1) (ci := 3) (v := .int (XN 2 0)) (C := RX3) (T := TX3) (N := 15) hx hb hts i_X3 hown hK hP 2 rfl rfl 2 (by decide) (hts (.fieldLink RX5 50 "WordFlasher$State" "length" "I") (List.mem_of_getElem? (i := 2) rfl)) (fun _ h9 => h9) rfl dX5_cut_47 ?_
        refine lv_iload_n hx hb dX5_cut_50 rfl (lv_at hl 1 rfl) ?_
        refine lv_isub hx hb dX5_cut_51 ?_
        obtain ⟨u11, h10, hf⟩ := bnd_el hf
        refine wr_v (rest := []) (wc := (pS g aN (aW 0) XN ++ (pW g aW (aP 0) (aQ 0) XW ++ (pP g aP XP ++ (pP g aQ XQ))))) (wc' := (pS g aN (aW 0) u11.1 ++ (pW g aW (aP 0) (aQ 0) u11.2.1 ++ (pP g aP u11.2.2.1 ++ (pP g aQ u11.2.2.2))))) (ws2 := (pF g aF (aW 0) (aN 0) (aA 0) (aH 0) (aO 0) XF ++ (pS g aN (aW 0) u11.1 ++ (pW g aW (aP 0) (aQ 0) u11.2.1 ++ (pP g aP u11.2.2.1 ++ (pP g aQ u11.2.2.2 ++ (pH g aH aB (aW 0) X4))))))) hP hD hS hA [2, 3, 4, 5, 6, 7, 8, 9, 10, 11, 12, 13, 14, 15, 16, 17, 18, 19, 20, 21, 22, 23] rfl rfl (by rfl) (rnV (As := [.int ((XN 2 0) - p1)]) ⟨hx, hb, hml, hown, hts⟩ (c_X3_startAnew l g aN aW aP aQ _ _ _ _ _ _ _ _ _ _ _ h10) (cwV 1 hts gX5_cut_X3_startAnew rfl rfl rfl (by decide +kernel) ⟨Nat.le_of_ble_eq_true rfl, Nat.le_of_ble_eq_true rfl⟩) hKW hP hD [2, 3, 4, 5, 6, 7, 8, 9, 10, 11, 12, 13, 14, 15, 16, 17, 18, 19, 20, 21, 22, 23] (by decide) rfl (va_recv hK hP (ci := 3) (q0 := 2) rfl rfl) rfl hl.1 rfl (lv_room (Nat.le_of_ble_eq_true rfl)) dX5_cut_52 ⟨Nat.zero_le _, Nat.zero_le _⟩) (fun H locs hP hD hS => ?_)
        refine lv_aload_n hx hb dX5_cut_55 rfl (lv_at hl 0 rfl) ?_
        refine va_get (D := g.1) (ci := 5) (v := .ref (aN 0)) (C := RX5) (T := TX5) (N := 6) hx hb hts i_X5 hown hK hP 0 rfl rfl 1 (by decide) (hts (.fieldLink RX5 21 "WordFlasher" "now" "LWordFlasher$State;") (List.mem_of_getElem? (i := 1) rfl)) (fun _ h9 => h9) rfl dX5_cut_56 ?_
        refine va_get (D := g.1) (ci := 3) (v := .int (u11.1 2 0)) (C := RX3) (T := TX3) (N := 15) hx hb hts i_X3 hown hK hP 2 rfl rfl 2 (by decide) (hts (.fieldLink RX5 50 "WordFlasher$State" "length" "I") (List.mem_of_getElem? (i := 2) rfl)) (fun _ h9 => h9) rfl dX5_cut_59 ?_
        have er0 := Option.some.inj hf
        obtain ⟨er0, er1⟩ := Prod.mk.inj er0
        obtain ⟨er1, er2⟩ := Prod.mk.inj er1
        obtain ⟨er2, er3⟩ := Prod.mk.inj er2
        obtain ⟨er3, er4⟩ := Prod.mk.inj er3
        obtain ⟨er4, er5⟩ := Prod.mk.inj er4
        rw [← hQ0]; exact W.iret (v := (u11.1 2 0)) hx hb hr (fun t ht hW => ⟨⟨(u11.1 2 0), (), rfl, ⟨er0, trivial⟩, by dsimp only; rw [ht, ← er1, ← er2, ← er3, ← er4, ← er5]; exact hP⟩, hS.F ht⟩) hS.2.2 dX5_cut_62
      · have hf := ite_f hf c3
        refine lv_bipush (v := (-2)) hx hb dX5_cut_25 (by decide) ?_
        have er0 := Option.some.inj hf
        obtain ⟨er0, er1⟩ := Prod.mk.inj er0
        obtain ⟨er1, er2⟩ := Prod.mk.inj er1
        obtain ⟨er2, er3⟩ := Prod.mk.inj er2
        obtain ⟨er3, er4⟩ := Prod.mk.inj er3
        obtain ⟨er4, er5⟩ := Prod.mk.inj er4
        rw [← hQ0]; exact W.iret (v := (-2)) hx hb hr (fun t ht hW => ⟨⟨(-2), (), rfl, ⟨er0, trivial⟩, by dsimp only; rw [ht, ← er1, ← er2, ← er3, ← er4, ← er5]; exact hP⟩, hS.F ht⟩) hS.2.2 dX5_cut_27
    · have hf := ite_f hf c2
      refine lv_iconst (v := (-1)) hx hb dX5_cut_12 (by decide) ?_
      have er0 := Option.some.inj hf
      obtain ⟨er0, er1⟩ := Prod.mk.inj er0
      obtain ⟨er1, er2⟩ := Prod.mk.inj er1
      obtain ⟨er2, er3⟩ := Prod.mk.inj er2
      obtain ⟨er3, er4⟩ := Prod.mk.inj er3
      obtain ⟨er4, er5⟩ := Prod.mk.inj er4
      rw [← hQ0]; exact W.iret (v := (-1)) hx hb hr (fun t ht hW => ⟨⟨(-1), (), rfl, ⟨er0, trivial⟩, by dsimp only; rw [ht, ← er1, ← er2, ← er3, ← er4, ← er5]; exact hP⟩, hS.F ht⟩) hS.2.2 dX5_cut_13
abbrev rmX5_set : Room := { frames := 4, cells := 0, slots := 0, locals := 105 }
set_option maxHeartbeats 8000000 in
set_option maxRecDepth 100000 in
theorem c_X5_set (l : Launch) (g : GG) (aF : Nat → Nat) (aN : Nat → Nat) (aA : Nat → Nat) (aW : Nat → Nat) (aP : Nat → Nat) (aQ : Nat → Nat) (aO : Nat → Nat) (aH : Nat → Nat) (aB : Nat → Nat → Nat) (sz tL tH : Nat) (XF : DM) (XN : DM) (XH : HD) (p1 p2 : Int32) (r : Int32) (XNz : DM) (XHz : HD) (hf : fX5_set XF XN XH p1 p2 = some (r, XNz, XHz)) : Met l yX5_set wsX5_set rmX5_set (va_Pc [.ref (aF 0), .int p1, .int p2] (fun U => U.heap.size = sz ∧ va_P g.1 vwCl (pF g aF (aW 0) (aN 0) (aA 0) (aH 0) (aO 0) XF ++ (pS g aN (aW 0) XN ++ (pH g aH aB (aW 0) XH))) U.heap ∧ KW g U ∧ va_D (fun _ => True) (pF g aF (aW 0) (aN 0) (aA 0) (aH 0) (aO 0) XF ++ (pS g aN (aW 0) XN ++ (pH g aH aB (aW 0) XH))) ∧ STA (va_A (pF g aF (aW 0) (aN 0) (aA 0) (aH 0) (aO 0) XF ++ (pS g aN (aW 0) XN ++ (pH g aH aB (aW 0) XH))) sz) tL tH U)) (va_Qi (fun r' (_ : Unit) => r' = r ∧ True) (fun (_ : Unit) t => va_P g.1 vwCl (pF g aF (aW 0) (aN 0) (aA 0) (aH 0) (aO 0) XF ++ (pS g aN (aW 0) XNz ++ (pH g aH aB (aW 0) XHz))) t.heap) (va_A (pF g aF (aW 0) (aN 0) (aA 0) (aH 0) (aO 0) XF ++ (pS g aN (aW 0) XN ++ (pH g aH aB (aW 0) XH))) sz)) 0 0 (va_A (pF g aF (aW 0) (aN 0) (aA 0) (aH 0) (aO 0) XF ++ (pS g aN (aW 0) XN ++ (pH g aH aB (aW 0) XH))) sz) := by
  refine Met.ofW (cc := cX5_set) (maxL := 4) (ret := (some .int)) (by decide) rfl ?_
  intro p e s m args below meth c s₁ B hml hv
  obtain ⟨hargs, hsz, hP, hKW, hD0, hST⟩ := hv
  have hK := hKW.1
  have hx := B.exec
  have hb := B.bytes
  have hr := B.returns
  have hts := atoms_spec (ws := wsX5_set) B.pre
  have hown : s.vm.findClass RX5 = some m.cls := findClass_of_methodNamed B.named
  have hlocks := B.notSynchronized
  subst hsz
  have hD := hD0.self (sz := s.heap.size)
  generalize hAe : va_A (pF g aF (aW 0) (aN 0) (aA 0) (aH 0) (aO 0) XF ++ (pS g aN (aW 0) XN ++ (pH g aH aB (aW 0) XH))) s.heap.size = A at hD hST ⊢
  obtain ⟨⟨hZL, hTL⟩, hZH, hTH⟩ := hST
  have hA : ∀ q : Nat, s.heap.size ≤ q → A q := fun q h => by rw [← hAe]; exact Or.inr h
  have hS : va_S A s.heap s.heap [] := va_S.rf
  have i_X5 : ∀ w ∈ wsX50, w ∈ wsX5_set := fun w h => List.mem_cons_of_mem _ (List.mem_append_left _ (List.mem_append_left _ (List.mem_append_right _ h)))
  have i_X3 : ∀ w ∈ wsX30, w ∈ wsX5_set := fun w h => List.mem_cons_of_mem _ (List.mem_append_left _ (List.mem_append_right _ h))
  have i_X0 : ∀ w ∈ wsX00, w ∈ wsX5_set := fun w h => List.mem_cons_of_mem _ (List.mem_append_right _ h)
  have hent : entryFrame m args 4 = F0 m 0 ((lg_sl ([.ref (aF 0), .int p1, .int p2]) ++ List.replicate (4 - (lg_sl ([.ref (aF 0), .int p1, .int p2])).length) Slot.unset).toArray) [] := by rw [hargs]; exact lg_entry_eq _ _ _
  rw [hent]
  have hl := lv_entry ([.ref (aF 0), .int p1, .int p2]) (n := 4) (Nat.le_of_ble_eq_true rfl)
  generalize (lg_sl ([.ref (aF 0), .int p1, .int p2]) ++ List.replicate (4 - (lg_sl ([.ref (aF 0), .int p1, .int p2])).length) Slot.unset).toArray = ls at hl ⊢
  have hl : lv_has ls 4 [(0, .ref (aF 0)), (1, .int p1), (2, .int p2)] := hl
  generalize hQ0 : MQ below _ _ _ _ _ _ = Q0
  unfold fX5_set at hf
  refine lv_iload_n hx hb dX5_set_0 rfl (lv_at hl 1 rfl) ?_
  refine lv_if_lt (tgt := 10) hx hb dX5_set_1 (by decide) (fun c1 => ?_) (fun c1 => ?_)
  · have hf := ite_t hf c1
    refine lv_iconst (v := (-1)) hx hb dX5_set_10 (by decide) ?_
    have er0 := Option.some.inj hf
    obtain ⟨er0, er1⟩ := Prod.mk.inj er0
    obtain ⟨er1, er2⟩ := Prod.mk.inj er1
    rw [← hQ0]; exact W.iret (v := (-1)) hx hb hr (fun t ht hW => ⟨⟨(-1), (), rfl, ⟨er0, trivial⟩, by dsimp only; rw [ht, ← er1, ← er2]; exact hP⟩, hS.F ht⟩) hS.2.2 dX5_set_11
  · have hf := ite_f hf c1
    refine lv_iload_n hx hb dX5_set_4 rfl (lv_at hl 1 rfl) ?_
    refine lv_bipush (v := 7) hx hb dX5_set_5 (by decide) ?_
    refine lv_icmp_lt (tgt := 12) hx hb dX5_set_7 (by decide) (fun c2 => ?_) (fun c2 => ?_)
    · have hf := ite_t hf c2
      refine lv_iload_n hx hb dX5_set_12 rfl (lv_at hl 2 rfl) ?_
      refine va_gets hx hb hZL hS hown (hts (.fieldLink RX5 171 "WordFlasher" "LOWEST_SETTINGS" "[I") (List.mem_of_getElem? (i := 1) rfl)) (fun _ h9 => h9) dX5_set_13 ?_
      refine lv_iload_n hx hb dX5_set_16 rfl (lv_at hl 1 rfl) ?_
      obtain ⟨r3, h4, hf⟩ := bnd_el hf
      refine rdST (As := [.ref tL, .int p1]) (rest := [.int p2]) ⟨hx, hb, hml, hown, hts⟩ (c_X5_atT l g tL 7 lowS _ _ h4) (va_cwS 2 hts gX5_set_X5_at rfl rfl rfl (by decide +kernel) ⟨Nat.le_of_ble_eq_true rfl, Nat.le_of_ble_eq_true rfl⟩) hKW (hTL.narrow (fun _ h => h.elim)) rfl hl.1 rfl (lv_room (Nat.le_of_ble_eq_true rfl)) dX5_set_17 ⟨Nat.zero_le _, Nat.zero_le _⟩ (fun q5 => ?_)
      refine lv_icmp_lt (tgt := 34) hx hb dX5_set_20 (by decide) (fun c6 => ?_) (fun c6 => ?_)
      · have hf := ite_t hf c6
        refine lv_iconst (v := (-1)) hx hb dX5_set_34 (by decide) ?_
        have er0 := Option.some.inj hf
        obtain ⟨er0, er1⟩ := Prod.mk.inj er0
        obtain ⟨er1, er2⟩ := Prod.mk.inj er1
        rw [← hQ0]; exact W.iret (v := (-1)) hx hb hr (fun t ht hW => ⟨⟨(-1), (), rfl, ⟨er0, trivial⟩, by dsimp only; rw [ht, ← er1, ← er2]; exact hP⟩, hS.F ht⟩) hS.2.2 dX5_set_35
      · have hf := ite_f hf c6
        refine lv_iload_n hx hb dX5_set_23 rfl (lv_at hl 2 rfl) ?_
        refine va_gets hx hb hZH hS hown (hts (.fieldLink RX5 174 "WordFlasher" "HIGHEST_SETTINGS" "[I") (List.mem_of_getElem? (i := 2) rfl)) (fun _ h9 => h9) dX5_set_24 ?_
        refine lv_iload_n hx hb dX5_set_27 rfl (lv_at hl 1 rfl) ?_
        obtain ⟨r7, h8, hf⟩ := bnd_el hf
        refine rdST (As := [.ref tH, .int p1]) (rest := [.int p2]) ⟨hx, hb, hml, hown, hts⟩ (c_X5_atT l g tH 7 highS _ _ h8) (va_cwS 2 hts gX5_set_X5_at rfl rfl rfl (by decide +kernel) ⟨Nat.le_of_ble_eq_true rfl, Nat.le_of_ble_eq_true rfl⟩) hKW (hTH.narrow (fun _ h => h.elim)) rfl hl.1 rfl (lv_room (Nat.le_of_ble_eq_true rfl)) dX5_set_28 ⟨Nat.zero_le _, Nat.zero_le _⟩ (fun q9 => ?_)
        refine lv_icmp_le (tgt := 36) hx hb dX5_set_31 (by decide) (fun c10 => ?_) (fun c10 => ?_)
        · have hf := ite_t hf c10
          refine lv_aload_n hx hb dX5_set_36 rfl (lv_at hl 0 rfl) ?_
          refine va_get (D := g.1) (ci := 5) (v := .ref (aH 0)) (C := RX5) (T := TX5) (N := 6) hx hb hts i_X5 hown hK hP 0 rfl rfl 3 (by decide) (hts (.fieldLink RX5 31 "WordFlasher" "history" "LWordFlasher$History;") (List.mem_of_getElem? (i := 3) rfl)) (fun _ h9 => h9) rfl dX5_set_37 ?_
          refine lv_aload_n hx hb dX5_set_40 rfl (lv_at hl 0 rfl) ?_
          refine va_get (D := g.1) (ci := 5) (v := .ref (aN 0)) (C := RX5) (T := TX5) (N := 6) hx hb hts i_X5 hown hK hP 0 rfl rfl 1 (by decide) (hts (.fieldLink RX5 21 "WordFlasher" "now" "LWordFlasher$State;") (List.mem_of_getElem? (i := 4) rfl)) (fun _ h9 => h9) rfl dX5_set_41 ?_
          obtain ⟨X11, h12, hf⟩ := bnd_el hf
          refine wr_v (rest := []) (wc := (pS g aN (aW 0) XN ++ (pH g aH aB (aW 0) XH))) (wc' := (pS g aN (aW 0) XN ++ (pH g aH aB (aW 0) X11))) (ws2 := (pF g aF (aW 0) (aN 0) (aA 0) (aH 0) (aO 0) XF ++ (pS g aN (aW 0) XN ++ (pH g aH aB (aW 0) X11)))) hP hD hS hA [2, 3, 4, 5, 6, 7, 8, 9, 10, 11, 12, 13, 14, 15, 16, 17, 18, 19, 20, 21, 22, 23, 24, 25, 26, 27, 28, 29, 30, 31, 32, 33, 34, 35, 36, 37, 38] rfl rfl (by rfl) (rnV (As := [.ref (aN 0)]) ⟨hx, hb, hml, hown, hts⟩ (c_X0_keep l g aN aW aP aQ aH aB _ _ _ _ h12) (cwV 1 hts gX5_set_X0_keep rfl rfl rfl (by decide +kernel) ⟨Nat.le_of_ble_eq_true rfl, Nat.le_of_ble_eq_true rfl⟩) hKW hP hD [2, 3, 4, 5, 6, 7, 8, 9, 10, 11, 12, 13, 14, 15, 16, 17, 18, 19, 20, 21, 22, 23, 24, 25, 26, 27, 28, 29, 30, 31, 32, 33, 34, 35, 36, 37, 38] (by decide) rfl (va_recv hK hP (ci := 0) (q0 := 9) rfl rfl) rfl hl.1 rfl (lv_room (Nat.le_of_ble_eq_true rfl)) dX5_set_44 ⟨Nat.zero_le _, Nat.zero_le _⟩) (fun H locs hP hD hS => ?_)
          refine lv_aload_n hx hb dX5_set_47 rfl (lv_at hl 0 rfl) ?_
          refine va_get (D := g.1) (ci := 5) (v := .ref (aN 0)) (C := RX5) (T := TX5) (N := 6) hx hb hts i_X5 hown hK hP 0 rfl rfl 1 (by decide) (hts (.fieldLink RX5 21 "WordFlasher" "now" "LWordFlasher$State;") (List.mem_of_getElem? (i := 4) rfl)) (fun _ h9 => h9) rfl dX5_set_48 ?_
          refine va_get (D := g.1) (ci := 3) (v := .ref (aN 2)) (C := RX3) (T := TX3) (N := 15) hx hb hts i_X3 hown hK hP 2 rfl rfl 3 (by decide) (hts (.fieldLink RX5 140 "WordFlasher$State" "settings" "[I") (List.mem_of_getElem? (i := 5) rfl)) (fun _ h9 => h9) rfl dX5_set_51 ?_
          refine lv_iload_n hx hb dX5_set_54 rfl (lv_at hl 1 rfl) ?_
          obtain ⟨r13, h14, hf⟩ := bnd_el hf
          refine rdS (As := [.ref (aN 2), .int p1]) (rest := []) ⟨hx, hb, hml, hown, hts⟩ (c_X5_at l g (aN 2) 7 _ _ _ h14) (va_cwS 2 hts gX5_set_X5_at rfl rfl rfl (by decide +kernel) ⟨Nat.le_of_ble_eq_true rfl, Nat.le_of_ble_eq_true rfl⟩) hKW hP [4] rfl rfl hl.1 rfl (lv_room (Nat.le_of_ble_eq_true rfl)) dX5_set_55 ⟨Nat.zero_le _, Nat.zero_le _⟩ (fun r15 q16 => ?_)
          obtain ⟨q16, nb17⟩ := q16
          refine lv_as q16.symm ?_
          refine lv_istore_n (lv' := [(3, .int r13), (0, .ref (aF 0)), (1, .int p1), (2, .int p2)]) hx hb dX5_set_58 rfl hl (by decide) rfl (fun ls hl => ?_)
          refine lv_aload_n hx hb dX5_set_59 rfl (lv_at hl 1 rfl) ?_
          refine va_get (D := g.1) (ci := 5) (v := .ref (aN 0)) (C := RX5) (T := TX5) (N := 6) hx hb hts i_X5 hown hK hP 0 rfl rfl 1 (by decide) (hts (.fieldLink RX5 21 "WordFlasher" "now" "LWordFlasher$State;") (List.mem_of_getElem? (i := 4) rfl)) (fun _ h9 => h9) rfl dX5_set_60 ?_
          refine va_get (D := g.1) (ci := 3) (v := .ref (aN 2)) (C := RX3) (T := TX3) (N := 15) hx hb hts i_X3 hown hK hP 2 rfl rfl 3 (by decide) (hts (.fieldLink RX5 140 "WordFlasher$State" "settings" "[I") (List.mem_of_getElem? (i := 5) rfl)) (fun _ h9 => h9) rfl dX5_set_63 ?_
          refine lv_iload_n hx hb dX5_set_66 rfl (lv_at hl 2 rfl) ?_
          refine lv_iload_n hx hb dX5_set_67 rfl (lv_at hl 3 rfl) ?_
          obtain ⟨f18, h19, hf⟩ := bnd_el hf
          obtain ⟨X20, e21, hf⟩ := sl_el hf
          refine wr_v (rest := []) (wc := (pR g (aN 2) 7 (XN 3))) (wc' := (pR g (aN 2) 7 f18)) (ws2 := (pF g aF (aW 0) (aN 0) (aA 0) (aH 0) (aO 0) XF ++ (pS g aN (aW 0) X20 ++ (pH g aH aB (aW 0) X11)))) hP hD hS hA [4] rfl rfl (by subst e21; rfl) (rnS (As := [.ref (aN 2), .int p1, .int p2]) ⟨hx, hb, hml, hown, hts⟩ (c_X5_put l g (aN 2) 7 _ _ _ _ _ h19) (va_cwS 3 hts gX5_set_X5_put rfl rfl rfl (by decide +kernel) ⟨Nat.le_of_ble_eq_true rfl, Nat.le_of_ble_eq_true rfl⟩) hKW hP hD [4] (by decide) rfl rfl hl.1 rfl (lv_room (Nat.le_of_ble_eq_true rfl)) dX5_set_68 ⟨Nat.zero_le _, Nat.zero_le _⟩) (fun H locs hP hD hS => ?_)
          refine lv_iload_n hx hb dX5_set_71 rfl (lv_at hl 0 rfl) ?_
          have er0 := Option.some.inj hf
          obtain ⟨er0, er1⟩ := Prod.mk.inj er0
          obtain ⟨er1, er2⟩ := Prod.mk.inj er1
          rw [← hQ0]; exact W.iret (v := r13) hx hb hr (fun t ht hW => ⟨⟨r13, (), rfl, ⟨er0, trivial⟩, by dsimp only; rw [ht, ← er1, ← er2]; exact hP⟩, hS.F ht⟩) hS.2.2 dX5_set_72
        · have hf := ite_f hf c10
          refine lv_iconst (v := (-1)) hx hb dX5_set_34 (by decide) ?_
          have er0 := Option.some.inj hf
          obtain ⟨er0, er1⟩ := Prod.mk.inj er0
          obtain ⟨er1, er2⟩ := Prod.mk.inj er1
          rw [← hQ0]; exact W.iret (v := (-1)) hx hb hr (fun t ht hW => ⟨⟨(-1), (), rfl, ⟨er0, trivial⟩, by dsimp only; rw [ht, ← er1, ← er2]; exact hP⟩, hS.F ht⟩) hS.2.2 dX5_set_35
    · have hf := ite_f hf c2
      refine lv_iconst (v := (-1)) hx hb dX5_set_10 (by decide) ?_
      have er0 := Option.some.inj hf
      obtain ⟨er0, er1⟩ := Prod.mk.inj er0
      obtain ⟨er1, er2⟩ := Prod.mk.inj er1
      rw [← hQ0]; exact W.iret (v := (-1)) hx hb hr (fun t ht hW => ⟨⟨(-1), (), rfl, ⟨er0, trivial⟩, by dsimp only; rw [ht, ← er1, ← er2]; exact hP⟩, hS.F ht⟩) hS.2.2 dX5_set_11
abbrev rmX5_speed : Room := { frames := 4, cells := 0, slots := 0, locals := 105 }
set_option maxHeartbeats 8000000 in
set_option maxRecDepth 100000 in
theorem c_X5_speed (l : Launch) (g : GG) (aF : Nat → Nat) (aN : Nat → Nat) (aA : Nat → Nat) (aW : Nat → Nat) (aP : Nat → Nat) (aQ : Nat → Nat) (aO : Nat → Nat) (aH : Nat → Nat) (aB : Nat → Nat → Nat) (sz : Nat) (XF : DM) (XN : DM) (XH : HD) (p1 p2 : Int32) (r : Int32) (XNz : DM) (XHz : HD) (hf : fX5_speed XF XN XH p1 p2 = some (r, XNz, XHz)) : Met l yX5_speed wsX5_speed rmX5_speed (va_Pc [.ref (aF 0), .int p1, .int p2] (fun U => U.heap.size = sz ∧ va_P g.1 vwCl (pF g aF (aW 0) (aN 0) (aA 0) (aH 0) (aO 0) XF ++ (pS g aN (aW 0) XN ++ (pH g aH aB (aW 0) XH))) U.heap ∧ KW g U ∧ va_D (fun _ => True) (pF g aF (aW 0) (aN 0) (aA 0) (aH 0) (aO 0) XF ++ (pS g aN (aW 0) XN ++ (pH g aH aB (aW 0) XH))))) (va_Qi (fun r' (_ : Unit) => r' = r ∧ True) (fun (_ : Unit) t => va_P g.1 vwCl (pF g aF (aW 0) (aN 0) (aA 0) (aH 0) (aO 0) XF ++ (pS g aN (aW 0) XNz ++ (pH g aH aB (aW 0) XHz))) t.heap) (va_A (pF g aF (aW 0) (aN 0) (aA 0) (aH 0) (aO 0) XF ++ (pS g aN (aW 0) XN ++ (pH g aH aB (aW 0) XH))) sz)) 0 0 (va_A (pF g aF (aW 0) (aN 0) (aA 0) (aH 0) (aO 0) XF ++ (pS g aN (aW 0) XN ++ (pH g aH aB (aW 0) XH))) sz) := by
  refine Met.ofW (cc := cX5_speed) (maxL := 4) (ret := (some .int)) (by decide) rfl ?_
  intro p e s m args below meth c s₁ B hml hv
  obtain ⟨hargs, hsz, hP, hKW, hD0⟩ := hv
  have hK := hKW.1
  have hx := B.exec
  have hb := B.bytes
  have hr := B.returns
  have hts := atoms_spec (ws := wsX5_speed) B.pre
  have hown : s.vm.findClass RX5 = some m.cls := findClass_of_methodNamed B.named
  have hlocks := B.notSynchronized
  subst hsz
  have hD := hD0.self (sz := s.heap.size)
  generalize hAe : va_A (pF g aF (aW 0) (aN 0) (aA 0) (aH 0) (aO 0) XF ++ (pS g aN (aW 0) XN ++ (pH g aH aB (aW 0) XH))) s.heap.size = A at hD ⊢
  have hA : ∀ q : Nat, s.heap.size ≤ q → A q := fun q h => by rw [← hAe]; exact Or.inr h
  have hS : va_S A s.heap s.heap [] := va_S.rf
  have i_X5 : ∀ w ∈ wsX50, w ∈ wsX5_speed := fun w h => List.mem_cons_of_mem _ (List.mem_append_left _ (List.mem_append_left _ (List.mem_append_right _ h)))
  have i_X3 : ∀ w ∈ wsX30, w ∈ wsX5_speed := fun w h => List.mem_cons_of_mem _ (List.mem_append_left _ (List.mem_append_right _ h))
  have i_X0 : ∀ w ∈ wsX00, w ∈ wsX5_speed := fun w h => List.mem_cons_of_mem _ (List.mem_append_right _ h)
  have hent : entryFrame m args 4 = F0 m 0 ((lg_sl ([.ref (aF 0), .int p1, .int p2]) ++ List.replicate (4 - (lg_sl ([.ref (aF 0), .int p1, .int p2])).length) Slot.unset).toArray) [] := by rw [hargs]; exact lg_entry_eq _ _ _
  rw [hent]
  have hl := lv_entry ([.ref (aF 0), .int p1, .int p2]) (n := 4) (Nat.le_of_ble_eq_true rfl)
  generalize (lg_sl ([.ref (aF 0), .int p1, .int p2]) ++ List.replicate (4 - (lg_sl ([.ref (aF 0), .int p1, .int p2])).length) Slot.unset).toArray = ls at hl ⊢
  have hl : lv_has ls 4 [(0, .ref (aF 0)), (1, .int p1), (2, .int p2)] := hl
  generalize hQ0 : MQ below _ _ _ _ _ _ = Q0
  unfold fX5_speed at hf
  refine lv_iload_n hx hb dX5_speed_0 rfl (lv_at hl 1 rfl) ?_
  refine lv_if_lt (tgt := 22) hx hb dX5_speed_1 (by decide) (fun c1 => ?_) (fun c1 => ?_)
  · have hf := ite_t hf c1
    refine lv_iconst (v := (-1)) hx hb dX5_speed_22 (by decide) ?_
    have er0 := Option.some.inj hf
    obtain ⟨er0, er1⟩ := Prod.mk.inj er0
    obtain ⟨er1, er2⟩ := Prod.mk.inj er1
    rw [← hQ0]; exact W.iret (v := (-1)) hx hb hr (fun t ht hW => ⟨⟨(-1), (), rfl, ⟨er0, trivial⟩, by dsimp only; rw [ht, ← er1, ← er2]; exact hP⟩, hS.F ht⟩) hS.2.2 dX5_speed_23
  · have hf := ite_f hf c1
    refine lv_iload_n hx hb dX5_speed_4 rfl (lv_at hl 1 rfl) ?_
    refine lv_iconst (v := 3) hx hb dX5_speed_5 (by decide) ?_
    refine lv_icmp_ge (tgt := 22) hx hb dX5_speed_6 (by decide) (fun c2 => ?_) (fun c2 => ?_)
    · have hf := ite_t hf c2
      refine lv_iconst (v := (-1)) hx hb dX5_speed_22 (by decide) ?_
      have er0 := Option.some.inj hf
      obtain ⟨er0, er1⟩ := Prod.mk.inj er0
      obtain ⟨er1, er2⟩ := Prod.mk.inj er1
      rw [← hQ0]; exact W.iret (v := (-1)) hx hb hr (fun t ht hW => ⟨⟨(-1), (), rfl, ⟨er0, trivial⟩, by dsimp only; rw [ht, ← er1, ← er2]; exact hP⟩, hS.F ht⟩) hS.2.2 dX5_speed_23
    · have hf := ite_f hf c2
      refine lv_iload_n hx hb dX5_speed_9 rfl (lv_at hl 2 rfl) ?_
      refine lv_bipush (v := 50) hx hb dX5_speed_10 (by decide) ?_
      refine lv_icmp_lt (tgt := 22) hx hb dX5_speed_12 (by decide) (fun c3 => ?_) (fun c3 => ?_)
      · have hf := ite_t hf c3
        refine lv_iconst (v := (-1)) hx hb dX5_speed_22 (by decide) ?_
        have er0 := Option.some.inj hf
        obtain ⟨er0, er1⟩ := Prod.mk.inj er0
        obtain ⟨er1, er2⟩ := Prod.mk.inj er1
        rw [← hQ0]; exact W.iret (v := (-1)) hx hb hr (fun t ht hW => ⟨⟨(-1), (), rfl, ⟨er0, trivial⟩, by dsimp only; rw [ht, ← er1, ← er2]; exact hP⟩, hS.F ht⟩) hS.2.2 dX5_speed_23
      · have hf := ite_f hf c3
        refine lv_iload_n hx hb dX5_speed_15 rfl (lv_at hl 2 rfl) ?_
        refine lv_sipush (v := 400) hx hb dX5_speed_16 (by decide) ?_
        refine lv_icmp_le (tgt := 24) hx hb dX5_speed_19 (by decide) (fun c4 => ?_) (fun c4 => ?_)
        · have hf := ite_t hf c4
          refine lv_aload_n hx hb dX5_speed_24 rfl (lv_at hl 0 rfl) ?_
          refine va_get (D := g.1) (ci := 5) (v := .ref (aH 0)) (C := RX5) (T := TX5) (N := 6) hx hb hts i_X5 hown hK hP 0 rfl rfl 3 (by decide) (hts (.fieldLink RX5 31 "WordFlasher" "history" "LWordFlasher$History;") (List.mem_of_getElem? (i := 1) rfl)) (fun _ h9 => h9) rfl dX5_speed_25 ?_
          refine lv_aload_n hx hb dX5_speed_28 rfl (lv_at hl 0 rfl) ?_
          refine va_get (D := g.1) (ci := 5) (v := .ref (aN 0)) (C := RX5) (T := TX5) (N := 6) hx hb hts i_X5 hown hK hP 0 rfl rfl 1 (by decide) (hts (.fieldLink RX5 21 "WordFlasher" "now" "LWordFlasher$State;") (List.mem_of_getElem? (i := 2) rfl)) (fun _ h9 => h9) rfl dX5_speed_29 ?_
          obtain ⟨X5, h6, hf⟩ := bnd_el hf
          refine wr_v (rest := []) (wc := (pS g aN (aW 0) XN ++ (pH g aH aB (aW 0) XH))) (wc' := (pS g aN (aW 0) XN ++ (pH g aH aB (aW 0) X5))) (ws2 := (pF g aF (aW 0) (aN 0) (aA 0) (aH 0) (aO 0) XF ++ (pS g aN (aW 0) XN ++ (pH g aH aB (aW 0) X5)))) hP hD hS hA [2, 3, 4, 5, 6, 7, 8, 9, 10, 11, 12, 13, 14, 15, 16, 17, 18, 19, 20, 21, 22, 23, 24, 25, 26, 27, 28, 29, 30, 31, 32, 33, 34, 35, 36, 37, 38] rfl rfl (by rfl) (rnV (As := [.ref (aN 0)]) ⟨hx, hb, hml, hown, hts⟩ (c_X0_keep l g aN aW aP aQ aH aB _ _ _ _ h6) (cwV 1 hts gX5_speed_X0_keep rfl rfl rfl (by decide +kernel) ⟨Nat.le_of_ble_eq_true rfl, Nat.le_of_ble_eq_true rfl⟩) hKW hP hD [2, 3, 4, 5, 6, 7, 8, 9, 10, 11, 12, 13, 14, 15, 16, 17, 18, 19, 20, 21, 22, 23, 24, 25, 26, 27, 28, 29, 30, 31, 32, 33, 34, 35, 36, 37, 38] (by decide) rfl (va_recv hK hP (ci := 0) (q0 := 9) rfl rfl) rfl hl.1 rfl (lv_room (Nat.le_of_ble_eq_true rfl)) dX5_speed_32 ⟨Nat.zero_le _, Nat.zero_le _⟩) (fun H locs hP hD hS => ?_)
          refine lv_aload_n hx hb dX5_speed_35 rfl (lv_at hl 0 rfl) ?_
          refine va_get (D := g.1) (ci := 5) (v := .ref (aN 0)) (C := RX5) (T := TX5) (N := 6) hx hb hts i_X5 hown hK hP 0 rfl rfl 1 (by decide) (hts (.fieldLink RX5 21 "WordFlasher" "now" "LWordFlasher$State;") (List.mem_of_getElem? (i := 2) rfl)) (fun _ h9 => h9) rfl dX5_speed_36 ?_
          refine va_get (D := g.1) (ci := 3) (v := .ref (aN 3)) (C := RX3) (T := TX3) (N := 15) hx hb hts i_X3 hown hK hP 2 rfl rfl 4 (by decide) (hts (.fieldLink RX5 143 "WordFlasher$State" "speeds" "[I") (List.mem_of_getElem? (i := 3) rfl)) (fun _ h9 => h9) rfl dX5_speed_39 ?_
          refine lv_iload_n hx hb dX5_speed_42 rfl (lv_at hl 1 rfl) ?_
          obtain ⟨r7, h8, hf⟩ := bnd_el hf
          refine rdS (As := [.ref (aN 3), .int p1]) (rest := []) ⟨hx, hb, hml, hown, hts⟩ (c_X5_at l g (aN 3) 3 _ _ _ h8) (va_cwS 2 hts gX5_speed_X5_at rfl rfl rfl (by decide +kernel) ⟨Nat.le_of_ble_eq_true rfl, Nat.le_of_ble_eq_true rfl⟩) hKW hP [5] rfl rfl hl.1 rfl (lv_room (Nat.le_of_ble_eq_true rfl)) dX5_speed_43 ⟨Nat.zero_le _, Nat.zero_le _⟩ (fun r9 q10 => ?_)
          obtain ⟨q10, nb11⟩ := q10
          refine lv_as q10.symm ?_
          refine lv_istore_n (lv' := [(3, .int r7), (0, .ref (aF 0)), (1, .int p1), (2, .int p2)]) hx hb dX5_speed_46 rfl hl (by decide) rfl (fun ls hl => ?_)
          refine lv_aload_n hx hb dX5_speed_47 rfl (lv_at hl 1 rfl) ?_
          refine va_get (D := g.1) (ci := 5) (v := .ref (aN 0)) (C := RX5) (T := TX5) (N := 6) hx hb hts i_X5 hown hK hP 0 rfl rfl 1 (by decide) (hts (.fieldLink RX5 21 "WordFlasher" "now" "LWordFlasher$State;") (List.mem_of_getElem? (i := 2) rfl)) (fun _ h9 => h9) rfl dX5_speed_48 ?_
          refine va_get (D := g.1) (ci := 3) (v := .ref (aN 3)) (C := RX3) (T := TX3) (N := 15) hx hb hts i_X3 hown hK hP 2 rfl rfl 4 (by decide) (hts (.fieldLink RX5 143 "WordFlasher$State" "speeds" "[I") (List.mem_of_getElem? (i := 3) rfl)) (fun _ h9 => h9) rfl dX5_speed_51 ?_
          refine lv_iload_n hx hb dX5_speed_54 rfl (lv_at hl 2 rfl) ?_
          refine lv_iload_n hx hb dX5_speed_55 rfl (lv_at hl 3 rfl) ?_
          obtain ⟨f12, h13, hf⟩ := bnd_el hf
          obtain ⟨X14, e15, hf⟩ := sl_el hf
          refine wr_v (rest := []) (wc := (pR g (aN 3) 3 (XN 4))) (wc' := (pR g (aN 3) 3 f12)) (ws2 := (pF g aF (aW 0) (aN 0) (aA 0) (aH 0) (aO 0) XF ++ (pS g aN (aW 0) X14 ++ (pH g aH aB (aW 0) X5)))) hP hD hS hA [5] rfl rfl (by subst e15; rfl) (rnS (As := [.ref (aN 3), .int p1, .int p2]) ⟨hx, hb, hml, hown, hts⟩ (c_X5_put l g (aN 3) 3 _ _ _ _ _ h13) (va_cwS 3 hts gX5_speed_X5_put rfl rfl rfl (by decide +kernel) ⟨Nat.le_of_ble_eq_true rfl, Nat.le_of_ble_eq_true rfl⟩) hKW hP hD [5] (by decide) rfl rfl hl.1 rfl (lv_room (Nat.le_of_ble_eq_true rfl)) dX5_speed_56 ⟨Nat.zero_le _, Nat.zero_le _⟩) (fun H locs hP hD hS => ?_)
          refine lv_iload_n hx hb dX5_speed_59 rfl (lv_at hl 0 rfl) ?_
          have er0 := Option.some.inj hf
          obtain ⟨er0, er1⟩ := Prod.mk.inj er0
          obtain ⟨er1, er2⟩ := Prod.mk.inj er1
          rw [← hQ0]; exact W.iret (v := r7) hx hb hr (fun t ht hW => ⟨⟨r7, (), rfl, ⟨er0, trivial⟩, by dsimp only; rw [ht, ← er1, ← er2]; exact hP⟩, hS.F ht⟩) hS.2.2 dX5_speed_60
        · have hf := ite_f hf c4
          refine lv_iconst (v := (-1)) hx hb dX5_speed_22 (by decide) ?_
          have er0 := Option.some.inj hf
          obtain ⟨er0, er1⟩ := Prod.mk.inj er0
          obtain ⟨er1, er2⟩ := Prod.mk.inj er1
          rw [← hQ0]; exact W.iret (v := (-1)) hx hb hr (fun t ht hW => ⟨⟨(-1), (), rfl, ⟨er0, trivial⟩, by dsimp only; rw [ht, ← er1, ← er2]; exact hP⟩, hS.F ht⟩) hS.2.2 dX5_speed_23
abbrev rmX5_run : Room := { frames := 5, cells := 0, slots := 0, locals := 115 }
set_option maxHeartbeats 8000000 in
set_option maxRecDepth 100000 in
theorem c_X5_run (l : Launch) (g : GG) (aF : Nat → Nat) (aN : Nat → Nat) (aA : Nat → Nat) (aW : Nat → Nat) (aP : Nat → Nat) (aQ : Nat → Nat) (aO : Nat → Nat) (aH : Nat → Nat) (aB : Nat → Nat → Nat) (sz : Nat) (n : Nat) (XF : DM) (XN : DM) (XW : DM) (XP : DM) (XH : HD) (p1 : Int32) (r : Int32) (XNz : DM) (XHz : HD) (hf : fX5_run n XF XN XW XP XH p1 = some (r, XNz, XHz)) : Met l yX5_run wsX5_run rmX5_run (va_Pc [.ref (aF 0), .int p1] (fun U => U.heap.size = sz ∧ va_P g.1 vwCl (pF g aF (aW 0) (aN 0) (aA 0) (aH 0) (aO 0) XF ++ (pS g aN (aW 0) XN ++ (pW g aW (aP 0) (aQ 0) XW ++ (pP g aP XP ++ (pH g aH aB (aW 0) XH))))) U.heap ∧ KW g U ∧ va_D (fun _ => True) (pF g aF (aW 0) (aN 0) (aA 0) (aH 0) (aO 0) XF ++ (pS g aN (aW 0) XN ++ (pW g aW (aP 0) (aQ 0) XW ++ (pP g aP XP ++ (pH g aH aB (aW 0) XH))))))) (va_Qi (fun r' (_ : Unit) => r' = r ∧ True) (fun (_ : Unit) t => va_P g.1 vwCl (pF g aF (aW 0) (aN 0) (aA 0) (aH 0) (aO 0) XF ++ (pS g aN (aW 0) XNz ++ (pW g aW (aP 0) (aQ 0) XW ++ (pP g aP XP ++ (pH g aH aB (aW 0) XHz))))) t.heap) (va_A (pF g aF (aW 0) (aN 0) (aA 0) (aH 0) (aO 0) XF ++ (pS g aN (aW 0) XN ++ (pW g aW (aP 0) (aQ 0) XW ++ (pP g aP XP ++ (pH g aH aB (aW 0) XH))))) sz)) 0 0 (va_A (pF g aF (aW 0) (aN 0) (aA 0) (aH 0) (aO 0) XF ++ (pS g aN (aW 0) XN ++ (pW g aW (aP 0) (aQ 0) XW ++ (pP g aP XP ++ (pH g aH aB (aW 0) XH))))) sz) := by
  refine Met.ofW (cc := cX5_run) (maxL := 3) (ret := (some .int)) (by decide) rfl ?_
  intro p e s m args below meth c s₁ B hml hv
  obtain ⟨hargs, hsz, hP, hKW, hD0⟩ := hv
  have hK := hKW.1
  have hx := B.exec
  have hb := B.bytes
  have hr := B.returns
  have hts := atoms_spec (ws := wsX5_run) B.pre
  have hown : s.vm.findClass RX5 = some m.cls := findClass_of_methodNamed B.named
  have hlocks := B.notSynchronized
  subst hsz
  have hD := hD0.self (sz := s.heap.size)
  generalize hAe : va_A (pF g aF (aW 0) (aN 0) (aA 0) (aH 0) (aO 0) XF ++ (pS g aN (aW 0) XN ++ (pW g aW (aP 0) (aQ 0) XW ++ (pP g aP XP ++ (pH g aH aB (aW 0) XH))))) s.heap.size = A at hD ⊢
  have hA : ∀ q : Nat, s.heap.size ≤ q → A q := fun q h => by rw [← hAe]; exact Or.inr h
  have hS : va_S A s.heap s.heap [] := va_S.rf
  have i_X5 : ∀ w ∈ wsX50, w ∈ wsX5_run := fun w h => List.mem_cons_of_mem _ (List.mem_append_left _ (List.mem_append_left _ (List.mem_append_left _ (List.mem_append_left _ (List.mem_append_right _ h)))))
  have i_X3 : ∀ w ∈ wsX30, w ∈ wsX5_run := fun w h => List.mem_cons_of_mem _ (List.mem_append_left _ (List.mem_append_left _ (List.mem_append_left _ (List.mem_append_right _ h))))
  have i_X0 : ∀ w ∈ wsX00, w ∈ wsX5_run := fun w h => List.mem_cons_of_mem _ (List.mem_append_left _ (List.mem_append_left _ (List.mem_append_right _ h)))
  have i_X4 : ∀ w ∈ wsX40, w ∈ wsX5_run := fun w h => List.mem_cons_of_mem _ (List.mem_append_left _ (List.mem_append_right _ h))
  have i_X2 : ∀ w ∈ wsX20, w ∈ wsX5_run := fun w h => List.mem_cons_of_mem _ (List.mem_append_right _ h)
  have hent : entryFrame m args 3 = F0 m 0 ((lg_sl ([.ref (aF 0), .int p1]) ++ List.replicate (3 - (lg_sl ([.ref (aF 0), .int p1])).length) Slot.unset).toArray) [] := by rw [hargs]; exact lg_entry_eq _ _ _
  rw [hent]
  have hl := lv_entry ([.ref (aF 0), .int p1]) (n := 3) (Nat.le_of_ble_eq_true rfl)
  generalize (lg_sl ([.ref (aF 0), .int p1]) ++ List.replicate (3 - (lg_sl ([.ref (aF 0), .int p1])).length) Slot.unset).toArray = ls at hl ⊢
  have hl : lv_has ls 3 [(0, .ref (aF 0)), (1, .int p1)] := hl
  generalize hQ0 : MQ below _ _ _ _ _ _ = Q0
  unfold fX5_run at hf
  refine lv_aload_n hx hb dX5_run_0 rfl (lv_at hl 0 rfl) ?_
  refine va_get (D := g.1) (ci := 5) (v := .ref (aN 0)) (C := RX5) (T := TX5) (N := 6) hx hb hts i_X5 hown hK hP 0 rfl rfl 1 (by decide) (hts (.fieldLink RX5 21 "WordFlasher" "now" "LWordFlasher$State;") (List.mem_of_getElem? (i := 1) rfl)) (fun _ h9 => h9) rfl dX5_run_1 ?_
  refine lv_iload_n hx hb dX5_run_4 rfl (lv_at hl 1 rfl) ?_
  obtain ⟨r1, h2, hf⟩ := bnd_el hf
  refine rdV (As := [.int p1]) (rest := []) ⟨hx, hb, hml, hown, hts⟩ (c_X3_passError l g aN aW aP aQ _ _ _ h2) (cwV 1 hts gX5_run_X3_passError rfl rfl rfl (by decide +kernel) ⟨Nat.le_of_ble_eq_true rfl, Nat.le_of_ble_eq_true rfl⟩) hKW hP [2, 3, 4, 5, 6, 7, 8] rfl (va_recv hK hP (ci := 3) (q0 := 2) rfl rfl) rfl hl.1 rfl (lv_room (Nat.le_of_ble_eq_true rfl)) dX5_run_5 ⟨Nat.zero_le _, Nat.zero_le _⟩ (fun r3 q4 => ?_)
  obtain ⟨q4, nb5⟩ := q4
  refine lv_as q4.symm ?_
  refine lv_istore_n (lv' := [(2, .int r1), (0, .ref (aF 0)), (1, .int p1)]) hx hb dX5_run_8 rfl hl (by decide) rfl (fun ls hl => ?_)
  refine lv_iload_n hx hb dX5_run_9 rfl (lv_at hl 0 rfl) ?_
  refine lv_if_eq (tgt := 15) hx hb dX5_run_10 (by decide) (fun c6 => ?_) (fun c6 => ?_)
  · have hf := ite_t hf c6
    refine lv_aload_n hx hb dX5_run_15 rfl (lv_at hl 1 rfl) ?_
    refine va_get (D := g.1) (ci := 5) (v := .ref (aH 0)) (C := RX5) (T := TX5) (N := 6) hx hb hts i_X5 hown hK hP 0 rfl rfl 3 (by decide) (hts (.fieldLink RX5 31 "WordFlasher" "history" "LWordFlasher$History;") (List.mem_of_getElem? (i := 2) rfl)) (fun _ h9 => h9) rfl dX5_run_16 ?_
    refine lv_aload_n hx hb dX5_run_19 rfl (lv_at hl 1 rfl) ?_
    refine va_get (D := g.1) (ci := 5) (v := .ref (aN 0)) (C := RX5) (T := TX5) (N := 6) hx hb hts i_X5 hown hK hP 0 rfl rfl 1 (by decide) (hts (.fieldLink RX5 21 "WordFlasher" "now" "LWordFlasher$State;") (List.mem_of_getElem? (i := 1) rfl)) (fun _ h9 => h9) rfl dX5_run_20 ?_
    obtain ⟨X7, h8, hf⟩ := bnd_el hf
    refine wr_v (rest := []) (wc := (pS g aN (aW 0) XN ++ (pH g aH aB (aW 0) XH))) (wc' := (pS g aN (aW 0) XN ++ (pH g aH aB (aW 0) X7))) (ws2 := (pF g aF (aW 0) (aN 0) (aA 0) (aH 0) (aO 0) XF ++ (pS g aN (aW 0) XN ++ (pW g aW (aP 0) (aQ 0) XW ++ (pP g aP XP ++ (pH g aH aB (aW 0) X7)))))) hP hD hS hA [2, 3, 4, 5, 6, 7, 8, 20, 21, 22, 23, 24, 25, 26, 27, 28, 29, 30, 31, 32, 33, 34, 35, 36, 37, 38, 39, 40, 41, 42, 43, 44, 45, 46, 47, 48, 49] rfl rfl (by rfl) (rnV (As := [.ref (aN 0)]) ⟨hx, hb, hml, hown, hts⟩ (c_X0_keep l g aN aW aP aQ aH aB _ _ _ _ h8) (cwV 1 hts gX5_run_X0_keep rfl rfl rfl (by decide +kernel) ⟨Nat.le_of_ble_eq_true rfl, Nat.le_of_ble_eq_true rfl⟩) hKW hP hD [2, 3, 4, 5, 6, 7, 8, 20, 21, 22, 23, 24, 25, 26, 27, 28, 29, 30, 31, 32, 33, 34, 35, 36, 37, 38, 39, 40, 41, 42, 43, 44, 45, 46, 47, 48, 49] (by decide) rfl (va_recv hK hP (ci := 0) (q0 := 20) rfl rfl) rfl hl.1 rfl (lv_room (Nat.le_of_ble_eq_true rfl)) dX5_run_23 ⟨Nat.zero_le _, Nat.zero_le _⟩) (fun H locs hP hD hS => ?_)
    refine lv_aload_n hx hb dX5_run_26 rfl (lv_at hl 1 rfl) ?_
    refine va_get (D := g.1) (ci := 5) (v := .ref (aN 0)) (C := RX5) (T := TX5) (N := 6) hx hb hts i_X5 hown hK hP 0 rfl rfl 1 (by decide) (hts (.fieldLink RX5 21 "WordFlasher" "now" "LWordFlasher$State;") (List.mem_of_getElem? (i := 1) rfl)) (fun _ h9 => h9) rfl dX5_run_27 ?_
    refine lv_iload_n hx hb dX5_run_30 rfl (lv_at hl 2 rfl) ?_
    obtain ⟨u12, h11, hf⟩ := bnd_el hf
    refine wr_i (rest := []) (wc := (pS g aN (aW 0) XN ++ (pW g aW (aP 0) (aQ 0) XW ++ (pP g aP XP)))) (wc' := (pS g aN (aW 0) u12.2 ++ (pW g aW (aP 0) (aQ 0) XW ++ (pP g aP XP)))) (ws2 := (pF g aF (aW 0) (aN 0) (aA 0) (aH 0) (aO 0) XF ++ (pS g aN (aW 0) u12.2 ++ (pW g aW (aP 0) (aQ 0) XW ++ (pP g aP XP ++ (pH g aH aB (aW 0) X7)))))) hP hD hS hA [2, 3, 4, 5, 6, 7, 8, 9, 10, 11, 12, 13, 14, 15, 16, 17, 18, 19] rfl rfl (by rfl) (rnV (As := [.int p1]) ⟨hx, hb, hml, hown, hts⟩ (c_X3_letPass l g aN aW aP aQ _ _ _ _ _ _ _ _ h11) (cwV 1 hts gX5_run_X3_letPass rfl rfl rfl (by decide +kernel) ⟨Nat.le_of_ble_eq_true rfl, Nat.le_of_ble_eq_true rfl⟩) hKW hP hD [2, 3, 4, 5, 6, 7, 8, 9, 10, 11, 12, 13, 14, 15, 16, 17, 18, 19] (by decide) rfl (va_recv hK hP (ci := 3) (q0 := 2) rfl rfl) rfl hl.1 rfl (lv_room (Nat.le_of_ble_eq_true rfl)) dX5_run_31 ⟨Nat.zero_le _, Nat.zero_le _⟩) (fun r13 H locs q14 hP hD hS => ?_)
    obtain ⟨q14, nb15⟩ := q14
    refine lv_as q14.symm ?_
    have er0 := Option.some.inj hf
    obtain ⟨er0, er1⟩ := Prod.mk.inj er0
    obtain ⟨er1, er2⟩ := Prod.mk.inj er1
    rw [← hQ0]; exact W.iret (v := u12.1) hx hb hr (fun t ht hW => ⟨⟨u12.1, (), rfl, ⟨er0, trivial⟩, by dsimp only; rw [ht, ← er1, ← er2]; exact hP⟩, hS.F ht⟩) hS.2.2 dX5_run_34
  · have hf := ite_f hf c6
    refine lv_iload_n hx hb dX5_run_13 rfl (lv_at hl 0 rfl) ?_
    have er0 := Option.some.inj hf
    obtain ⟨er0, er1⟩ := Prod.mk.inj er0
    obtain ⟨er1, er2⟩ := Prod.mk.inj er1
    rw [← hQ0]; exact W.iret (v := r1) hx hb hr (fun t ht hW => ⟨⟨r1, (), rfl, ⟨er0, trivial⟩, by dsimp only; rw [ht, ← er1, ← er2]; exact hP⟩, hS.F ht⟩) hS.2.2 dX5_run_14
abbrev rmX5_back : Room := { frames := 5, cells := 0, slots := 0, locals := 110 }
set_option maxHeartbeats 8000000 in
set_option maxRecDepth 100000 in
theorem c_X5_back (l : Launch) (g : GG) (aF : Nat → Nat) (aN : Nat → Nat) (aA : Nat → Nat) (aW : Nat → Nat) (aP : Nat → Nat) (aQ : Nat → Nat) (aO : Nat → Nat) (aH : Nat → Nat) (aB : Nat → Nat → Nat) (sz : Nat) (n : Nat) (XF : DM) (XN : DM) (XW : DM) (XP : DM) (XH : HD) (r : Int32) (XNz : DM) (XHz : HD) (hf : fX5_back n XF XN XW XP XH = some (r, XNz, XHz)) : Met l yX5_back wsX5_back rmX5_back (va_Pc [.ref (aF 0)] (fun U => U.heap.size = sz ∧ va_P g.1 vwCl (pF g aF (aW 0) (aN 0) (aA 0) (aH 0) (aO 0) XF ++ (pS g aN (aW 0) XN ++ (pW g aW (aP 0) (aQ 0) XW ++ (pP g aP XP ++ (pH g aH aB (aW 0) XH))))) U.heap ∧ KW g U ∧ va_D (fun _ => True) (pF g aF (aW 0) (aN 0) (aA 0) (aH 0) (aO 0) XF ++ (pS g aN (aW 0) XN ++ (pW g aW (aP 0) (aQ 0) XW ++ (pP g aP XP ++ (pH g aH aB (aW 0) XH))))))) (va_Qi (fun r' (_ : Unit) => r' = r ∧ True) (fun (_ : Unit) t => va_P g.1 vwCl (pF g aF (aW 0) (aN 0) (aA 0) (aH 0) (aO 0) XF ++ (pS g aN (aW 0) XNz ++ (pW g aW (aP 0) (aQ 0) XW ++ (pP g aP XP ++ (pH g aH aB (aW 0) XHz))))) t.heap) (va_A (pF g aF (aW 0) (aN 0) (aA 0) (aH 0) (aO 0) XF ++ (pS g aN (aW 0) XN ++ (pW g aW (aP 0) (aQ 0) XW ++ (pP g aP XP ++ (pH g aH aB (aW 0) XH))))) sz)) 0 0 (va_A (pF g aF (aW 0) (aN 0) (aA 0) (aH 0) (aO 0) XF ++ (pS g aN (aW 0) XN ++ (pW g aW (aP 0) (aQ 0) XW ++ (pP g aP XP ++ (pH g aH aB (aW 0) XH))))) sz) := by
  refine Met.ofW (cc := cX5_back) (maxL := 2) (ret := (some .int)) (by decide) rfl ?_
  intro p e s m args below meth c s₁ B hml hv
  obtain ⟨hargs, hsz, hP, hKW, hD0⟩ := hv
  have hK := hKW.1
  have hx := B.exec
  have hb := B.bytes
  have hr := B.returns
  have hts := atoms_spec (ws := wsX5_back) B.pre
  have hown : s.vm.findClass RX5 = some m.cls := findClass_of_methodNamed B.named
  have hlocks := B.notSynchronized
  subst hsz
  have hD := hD0.self (sz := s.heap.size)
  generalize hAe : va_A (pF g aF (aW 0) (aN 0) (aA 0) (aH 0) (aO 0) XF ++ (pS g aN (aW 0) XN ++ (pW g aW (aP 0) (aQ 0) XW ++ (pP g aP XP ++ (pH g aH aB (aW 0) XH))))) s.heap.size = A at hD ⊢
  have hA : ∀ q : Nat, s.heap.size ≤ q → A q := fun q h => by rw [← hAe]; exact Or.inr h
  have hS : va_S A s.heap s.heap [] := va_S.rf
  have i_X5 : ∀ w ∈ wsX50, w ∈ wsX5_back := fun w h => List.mem_cons_of_mem _ (List.mem_append_left _ (List.mem_append_left _ (List.mem_append_left _ (List.mem_append_left _ (List.mem_append_right _ h)))))
  have i_X3 : ∀ w ∈ wsX30, w ∈ wsX5_back := fun w h => List.mem_cons_of_mem _ (List.mem_append_left _ (List.mem_append_left _ (List.mem_append_left _ (List.mem_append_right _ h))))
  have i_X4 : ∀ w ∈ wsX40, w ∈ wsX5_back := fun w h => List.mem_cons_of_mem _ (List.mem_append_left _ (List.mem_append_left _ (List.mem_append_right _ h)))
  have i_X0 : ∀ w ∈ wsX00, w ∈ wsX5_back := fun w h => List.mem_cons_of_mem _ (List.mem_append_left _ (List.mem_append_right _ h))
  have i_X2 : ∀ w ∈ wsX20, w ∈ wsX5_back := fun w h => List.mem_cons_of_mem _ (List.mem_append_right _ h)
  have hent : entryFrame m args 2 = F0 m 0 ((lg_sl ([.ref (aF 0)]) ++ List.replicate (2 - (lg_sl ([.ref (aF 0)])).length) Slot.unset).toArray) [] := by rw [hargs]; exact lg_entry_eq _ _ _
  rw [hent]
  have hl := lv_entry ([.ref (aF 0)]) (n := 2) (Nat.le_of_ble_eq_true rfl)
  generalize (lg_sl ([.ref (aF 0)]) ++ List.replicate (2 - (lg_sl ([.ref (aF 0)])).length) Slot.unset).toArray = ls at hl ⊢
  have hl : lv_has ls 2 [(0, .ref (aF 0))] := hl
  generalize hQ0 : MQ below _ _ _ _ _ _ = Q0
  unfold fX5_back at hf
  refine lv_aload_n hx hb dX5_back_0 rfl (lv_at hl 0 rfl) ?_
  refine va_get (D := g.1) (ci := 5) (v := .ref (aN 0)) (C := RX5) (T := TX5) (N := 6) hx hb hts i_X5 hown hK hP 0 rfl rfl 1 (by decide) (hts (.fieldLink RX5 21 "WordFlasher" "now" "LWordFlasher$State;") (List.mem_of_getElem? (i := 1) rfl)) (fun _ h9 => h9) rfl dX5_back_1 ?_
  obtain ⟨r1, h2, hf⟩ := bnd_el hf
  refine rdV (As := []) (rest := []) ⟨hx, hb, hml, hown, hts⟩ (c_X3_askError l g aN aW aP aQ _ _ _ _ h2) (cwV 0 hts gX5_back_X3_askError rfl rfl rfl (by decide +kernel) ⟨Nat.le_of_ble_eq_true rfl, Nat.le_of_ble_eq_true rfl⟩) hKW hP [2, 3, 4, 5, 6, 7, 8, 9, 10, 11, 12, 13, 14, 15] rfl (va_recv hK hP (ci := 3) (q0 := 2) rfl rfl) rfl hl.1 rfl (lv_room (Nat.le_of_ble_eq_true rfl)) dX5_back_4 ⟨Nat.zero_le _, Nat.zero_le _⟩ (fun r3 q4 => ?_)
  obtain ⟨q4, nb5⟩ := q4
  refine lv_as q4.symm ?_
  refine lv_istore_n (lv' := [(1, .int r1), (0, .ref (aF 0))]) hx hb dX5_back_7 rfl hl (by decide) rfl (fun ls hl => ?_)
  refine lv_iload_n hx hb dX5_back_8 rfl (lv_at hl 0 rfl) ?_
  refine lv_if_eq (tgt := 14) hx hb dX5_back_9 (by decide) (fun c6 => ?_) (fun c6 => ?_)
  · have hf := ite_t hf c6
    refine lv_aload_n hx hb dX5_back_14 rfl (lv_at hl 1 rfl) ?_
    refine va_get (D := g.1) (ci := 5) (v := .ref (aH 0)) (C := RX5) (T := TX5) (N := 6) hx hb hts i_X5 hown hK hP 0 rfl rfl 3 (by decide) (hts (.fieldLink RX5 31 "WordFlasher" "history" "LWordFlasher$History;") (List.mem_of_getElem? (i := 2) rfl)) (fun _ h9 => h9) rfl dX5_back_15 ?_
    refine lv_aload_n hx hb dX5_back_18 rfl (lv_at hl 1 rfl) ?_
    refine va_get (D := g.1) (ci := 5) (v := .ref (aN 0)) (C := RX5) (T := TX5) (N := 6) hx hb hts i_X5 hown hK hP 0 rfl rfl 1 (by decide) (hts (.fieldLink RX5 21 "WordFlasher" "now" "LWordFlasher$State;") (List.mem_of_getElem? (i := 1) rfl)) (fun _ h9 => h9) rfl dX5_back_19 ?_
    obtain ⟨X7, h8, hf⟩ := bnd_el hf
    refine wr_v (rest := []) (wc := (pS g aN (aW 0) XN ++ (pH g aH aB (aW 0) XH))) (wc' := (pS g aN (aW 0) XN ++ (pH g aH aB (aW 0) X7))) (ws2 := (pF g aF (aW 0) (aN 0) (aA 0) (aH 0) (aO 0) XF ++ (pS g aN (aW 0) XN ++ (pW g aW (aP 0) (aQ 0) XW ++ (pP g aP XP ++ (pH g aH aB (aW 0) X7)))))) hP hD hS hA [2, 3, 4, 5, 6, 7, 8, 20, 21, 22, 23, 24, 25, 26, 27, 28, 29, 30, 31, 32, 33, 34, 35, 36, 37, 38, 39, 40, 41, 42, 43, 44, 45, 46, 47, 48, 49] rfl rfl (by rfl) (rnV (As := [.ref (aN 0)]) ⟨hx, hb, hml, hown, hts⟩ (c_X0_keep l g aN aW aP aQ aH aB _ _ _ _ h8) (cwV 1 hts gX5_back_X0_keep rfl rfl rfl (by decide +kernel) ⟨Nat.le_of_ble_eq_true rfl, Nat.le_of_ble_eq_true rfl⟩) hKW hP hD [2, 3, 4, 5, 6, 7, 8, 20, 21, 22, 23, 24, 25, 26, 27, 28, 29, 30, 31, 32, 33, 34, 35, 36, 37, 38, 39, 40, 41, 42, 43, 44, 45, 46, 47, 48, 49] (by decide) rfl (va_recv hK hP (ci := 0) (q0 := 20) rfl rfl) rfl hl.1 rfl (lv_room (Nat.le_of_ble_eq_true rfl)) dX5_back_22 ⟨Nat.zero_le _, Nat.zero_le _⟩) (fun H locs hP hD hS => ?_)
    refine lv_aload_n hx hb dX5_back_25 rfl (lv_at hl 1 rfl) ?_
    refine va_get (D := g.1) (ci := 5) (v := .ref (aN 0)) (C := RX5) (T := TX5) (N := 6) hx hb hts i_X5 hown hK hP 0 rfl rfl 1 (by decide) (hts (.fieldLink RX5 21 "WordFlasher" "now" "LWordFlasher$State;") (List.mem_of_getElem? (i := 1) rfl)) (fun _ h9 => h9) rfl dX5_back_26 ?_
    obtain ⟨X9, h10, hf⟩ := bnd_el hf
    refine wr_v (rest := []) (wc := (pS g aN (aW 0) XN ++ (pW g aW (aP 0) (aQ 0) XW ++ (pP g aP XP)))) (wc' := (pS g aN (aW 0) X9 ++ (pW g aW (aP 0) (aQ 0) XW ++ (pP g aP XP)))) (ws2 := (pF g aF (aW 0) (aN 0) (aA 0) (aH 0) (aO 0) XF ++ (pS g aN (aW 0) X9 ++ (pW g aW (aP 0) (aQ 0) XW ++ (pP g aP XP ++ (pH g aH aB (aW 0) X7)))))) hP hD hS hA [2, 3, 4, 5, 6, 7, 8, 9, 10, 11, 12, 13, 14, 15, 16, 17, 18, 19] rfl rfl (by rfl) (rnV (As := []) ⟨hx, hb, hml, hown, hts⟩ (c_X3_askBack l g aN aW aP aQ _ _ _ _ _ _ h10) (cwV 0 hts gX5_back_X3_askBack rfl rfl rfl (by decide +kernel) ⟨Nat.le_of_ble_eq_true rfl, Nat.le_of_ble_eq_true rfl⟩) hKW hP hD [2, 3, 4, 5, 6, 7, 8, 9, 10, 11, 12, 13, 14, 15, 16, 17, 18, 19] (by decide) rfl (va_recv hK hP (ci := 3) (q0 := 2) rfl rfl) rfl hl.1 rfl (lv_room (Nat.le_of_ble_eq_true rfl)) dX5_back_29 ⟨Nat.zero_le _, Nat.zero_le _⟩) (fun H locs hP hD hS => ?_)
    refine lv_aload_n hx hb dX5_back_32 rfl (lv_at hl 1 rfl) ?_
    refine va_get (D := g.1) (ci := 5) (v := .ref (aN 0)) (C := RX5) (T := TX5) (N := 6) hx hb hts i_X5 hown hK hP 0 rfl rfl 1 (by decide) (hts (.fieldLink RX5 21 "WordFlasher" "now" "LWordFlasher$State;") (List.mem_of_getElem? (i := 1) rfl)) (fun _ h9 => h9) rfl dX5_back_33 ?_
    refine va_get (D := g.1) (ci := 3) (v := .int (X9 6 0)) (C := RX3) (T := TX3) (N := 15) hx hb hts i_X3 hown hK hP 2 rfl rfl 6 (by decide) (hts (.fieldLink RX5 147 "WordFlasher$State" "present" "I") (List.mem_of_getElem? (i := 3) rfl)) (fun _ h9 => h9) rfl dX5_back_36 ?_
    have er0 := Option.some.inj hf
    obtain ⟨er0, er1⟩ := Prod.mk.inj er0
    obtain ⟨er1, er2⟩ := Prod.mk.inj er1
    rw [← hQ0]; exact W.iret (v := (X9 6 0)) hx hb hr (fun t ht hW => ⟨⟨(X9 6 0), (), rfl, ⟨er0, trivial⟩, by dsimp only; rw [ht, ← er1, ← er2]; exact hP⟩, hS.F ht⟩) hS.2.2 dX5_back_39
  · have hf := ite_f hf c6
    refine lv_iload_n hx hb dX5_back_12 rfl (lv_at hl 0 rfl) ?_
    have er0 := Option.some.inj hf
    obtain ⟨er0, er1⟩ := Prod.mk.inj er0
    obtain ⟨er1, er2⟩ := Prod.mk.inj er1
    rw [← hQ0]; exact W.iret (v := r1) hx hb hr (fun t ht hW => ⟨⟨r1, (), rfl, ⟨er0, trivial⟩, by dsimp only; rw [ht, ← er1, ← er2]; exact hP⟩, hS.F ht⟩) hS.2.2 dX5_back_13
abbrev rmX5_jump : Room := { frames := 5, cells := 0, slots := 0, locals := 111 }
set_option maxHeartbeats 8000000 in
set_option maxRecDepth 100000 in
theorem c_X5_jump (l : Launch) (g : GG) (aF : Nat → Nat) (aN : Nat → Nat) (aA : Nat → Nat) (aW : Nat → Nat) (aP : Nat → Nat) (aQ : Nat → Nat) (aO : Nat → Nat) (aH : Nat → Nat) (aB : Nat → Nat → Nat) (sz : Nat) (n : Nat) (XF : DM) (XN : DM) (XW : DM) (XP : DM) (XH : HD) (p1 : Int32) (r : Int32) (XNz : DM) (XHz : HD) (hf : fX5_jump n XF XN XW XP XH p1 = some (r, XNz, XHz)) : Met l yX5_jump wsX5_jump rmX5_jump (va_Pc [.ref (aF 0), .int p1] (fun U => U.heap.size = sz ∧ va_P g.1 vwCl (pF g aF (aW 0) (aN 0) (aA 0) (aH 0) (aO 0) XF ++ (pS g aN (aW 0) XN ++ (pW g aW (aP 0) (aQ 0) XW ++ (pP g aP XP ++ (pH g aH aB (aW 0) XH))))) U.heap ∧ KW g U ∧ va_D (fun _ => True) (pF g aF (aW 0) (aN 0) (aA 0) (aH 0) (aO 0) XF ++ (pS g aN (aW 0) XN ++ (pW g aW (aP 0) (aQ 0) XW ++ (pP g aP XP ++ (pH g aH aB (aW 0) XH))))))) (va_Qi (fun r' (_ : Unit) => r' = r ∧ True) (fun (_ : Unit) t => va_P g.1 vwCl (pF g aF (aW 0) (aN 0) (aA 0) (aH 0) (aO 0) XF ++ (pS g aN (aW 0) XNz ++ (pW g aW (aP 0) (aQ 0) XW ++ (pP g aP XP ++ (pH g aH aB (aW 0) XHz))))) t.heap) (va_A (pF g aF (aW 0) (aN 0) (aA 0) (aH 0) (aO 0) XF ++ (pS g aN (aW 0) XN ++ (pW g aW (aP 0) (aQ 0) XW ++ (pP g aP XP ++ (pH g aH aB (aW 0) XH))))) sz)) 0 0 (va_A (pF g aF (aW 0) (aN 0) (aA 0) (aH 0) (aO 0) XF ++ (pS g aN (aW 0) XN ++ (pW g aW (aP 0) (aQ 0) XW ++ (pP g aP XP ++ (pH g aH aB (aW 0) XH))))) sz) := by
  refine Met.ofW (cc := cX5_jump) (maxL := 3) (ret := (some .int)) (by decide) rfl ?_
  intro p e s m args below meth c s₁ B hml hv
  obtain ⟨hargs, hsz, hP, hKW, hD0⟩ := hv
  have hK := hKW.1
  have hx := B.exec
  have hb := B.bytes
  have hr := B.returns
  have hts := atoms_spec (ws := wsX5_jump) B.pre
  have hown : s.vm.findClass RX5 = some m.cls := findClass_of_methodNamed B.named
  have hlocks := B.notSynchronized
  subst hsz
  have hD := hD0.self (sz := s.heap.size)
  generalize hAe : va_A (pF g aF (aW 0) (aN 0) (aA 0) (aH 0) (aO 0) XF ++ (pS g aN (aW 0) XN ++ (pW g aW (aP 0) (aQ 0) XW ++ (pP g aP XP ++ (pH g aH aB (aW 0) XH))))) s.heap.size = A at hD ⊢
  have hA : ∀ q : Nat, s.heap.size ≤ q → A q := fun q h => by rw [← hAe]; exact Or.inr h
  have hS : va_S A s.heap s.heap [] := va_S.rf
  have i_X5 : ∀ w ∈ wsX50, w ∈ wsX5_jump := fun w h => List.mem_cons_of_mem _ (List.mem_append_left _ (List.mem_append_left _ (List.mem_append_left _ (List.mem_append_left _ (List.mem_append_right _ h)))))
  have i_X3 : ∀ w ∈ wsX30, w ∈ wsX5_jump := fun w h => List.mem_cons_of_mem _ (List.mem_append_left _ (List.mem_append_left _ (List.mem_append_left _ (List.mem_append_right _ h))))
  have i_X4 : ∀ w ∈ wsX40, w ∈ wsX5_jump := fun w h => List.mem_cons_of_mem _ (List.mem_append_left _ (List.mem_append_left _ (List.mem_append_right _ h)))
  have i_X2 : ∀ w ∈ wsX20, w ∈ wsX5_jump := fun w h => List.mem_cons_of_mem _ (List.mem_append_left _ (List.mem_append_right _ h))
  have i_X0 : ∀ w ∈ wsX00, w ∈ wsX5_jump := fun w h => List.mem_cons_of_mem _ (List.mem_append_right _ h)
  have hent : entryFrame m args 3 = F0 m 0 ((lg_sl ([.ref (aF 0), .int p1]) ++ List.replicate (3 - (lg_sl ([.ref (aF 0), .int p1])).length) Slot.unset).toArray) [] := by rw [hargs]; exact lg_entry_eq _ _ _
  rw [hent]
  have hl := lv_entry ([.ref (aF 0), .int p1]) (n := 3) (Nat.le_of_ble_eq_true rfl)
  generalize (lg_sl ([.ref (aF 0), .int p1]) ++ List.replicate (3 - (lg_sl ([.ref (aF 0), .int p1])).length) Slot.unset).toArray = ls at hl ⊢
  have hl : lv_has ls 3 [(0, .ref (aF 0)), (1, .int p1)] := hl
  generalize hQ0 : MQ below _ _ _ _ _ _ = Q0
  unfold fX5_jump at hf
  refine lv_aload_n hx hb dX5_jump_0 rfl (lv_at hl 0 rfl) ?_
  refine va_get (D := g.1) (ci := 5) (v := .ref (aN 0)) (C := RX5) (T := TX5) (N := 6) hx hb hts i_X5 hown hK hP 0 rfl rfl 1 (by decide) (hts (.fieldLink RX5 21 "WordFlasher" "now" "LWordFlasher$State;") (List.mem_of_getElem? (i := 1) rfl)) (fun _ h9 => h9) rfl dX5_jump_1 ?_
  refine lv_iload_n hx hb dX5_jump_4 rfl (lv_at hl 1 rfl) ?_
  obtain ⟨r1, h2, hf⟩ := bnd_el hf
  refine rdV (As := [.int p1]) (rest := []) ⟨hx, hb, hml, hown, hts⟩ (c_X3_leapError l g aN aW aP aQ _ _ _ _ _ h2) (cwV 1 hts gX5_jump_X3_leapError rfl rfl rfl (by decide +kernel) ⟨Nat.le_of_ble_eq_true rfl, Nat.le_of_ble_eq_true rfl⟩) hKW hP [2, 3, 4, 5, 6, 7, 8, 9, 10, 11, 12, 13, 14, 15, 16, 17, 18, 19] rfl (va_recv hK hP (ci := 3) (q0 := 2) rfl rfl) rfl hl.1 rfl (lv_room (Nat.le_of_ble_eq_true rfl)) dX5_jump_5 ⟨Nat.zero_le _, Nat.zero_le _⟩ (fun r3 q4 => ?_)
  obtain ⟨q4, nb5⟩ := q4
  refine lv_as q4.symm ?_
  refine lv_istore_n (lv' := [(2, .int r1), (0, .ref (aF 0)), (1, .int p1)]) hx hb dX5_jump_8 rfl hl (by decide) rfl (fun ls hl => ?_)
  refine lv_iload_n hx hb dX5_jump_9 rfl (lv_at hl 0 rfl) ?_
  refine lv_if_eq (tgt := 15) hx hb dX5_jump_10 (by decide) (fun c6 => ?_) (fun c6 => ?_)
  · have hf := ite_t hf c6
    refine lv_aload_n hx hb dX5_jump_15 rfl (lv_at hl 1 rfl) ?_
    refine va_get (D := g.1) (ci := 5) (v := .ref (aH 0)) (C := RX5) (T := TX5) (N := 6) hx hb hts i_X5 hown hK hP 0 rfl rfl 3 (by decide) (hts (.fieldLink RX5 31 "WordFlasher" "history" "LWordFlasher$History;") (List.mem_of_getElem? (i := 2) rfl)) (fun _ h9 => h9) rfl dX5_jump_16 ?_
    refine lv_aload_n hx hb dX5_jump_19 rfl (lv_at hl 1 rfl) ?_
    refine va_get (D := g.1) (ci := 5) (v := .ref (aN 0)) (C := RX5) (T := TX5) (N := 6) hx hb hts i_X5 hown hK hP 0 rfl rfl 1 (by decide) (hts (.fieldLink RX5 21 "WordFlasher" "now" "LWordFlasher$State;") (List.mem_of_getElem? (i := 1) rfl)) (fun _ h9 => h9) rfl dX5_jump_20 ?_
    obtain ⟨X7, h8, hf⟩ := bnd_el hf
    refine wr_v (rest := []) (wc := (pS g aN (aW 0) XN ++ (pH g aH aB (aW 0) XH))) (wc' := (pS g aN (aW 0) XN ++ (pH g aH aB (aW 0) X7))) (ws2 := (pF g aF (aW 0) (aN 0) (aA 0) (aH 0) (aO 0) XF ++ (pS g aN (aW 0) XN ++ (pW g aW (aP 0) (aQ 0) XW ++ (pP g aP XP ++ (pH g aH aB (aW 0) X7)))))) hP hD hS hA [2, 3, 4, 5, 6, 7, 8, 20, 21, 22, 23, 24, 25, 26, 27, 28, 29, 30, 31, 32, 33, 34, 35, 36, 37, 38, 39, 40, 41, 42, 43, 44, 45, 46, 47, 48, 49] rfl rfl (by rfl) (rnV (As := [.ref (aN 0)]) ⟨hx, hb, hml, hown, hts⟩ (c_X0_keep l g aN aW aP aQ aH aB _ _ _ _ h8) (cwV 1 hts gX5_jump_X0_keep rfl rfl rfl (by decide +kernel) ⟨Nat.le_of_ble_eq_true rfl, Nat.le_of_ble_eq_true rfl⟩) hKW hP hD [2, 3, 4, 5, 6, 7, 8, 20, 21, 22, 23, 24, 25, 26, 27, 28, 29, 30, 31, 32, 33, 34, 35, 36, 37, 38, 39, 40, 41, 42, 43, 44, 45, 46, 47, 48, 49] (by decide) rfl (va_recv hK hP (ci := 0) (q0 := 20) rfl rfl) rfl hl.1 rfl (lv_room (Nat.le_of_ble_eq_true rfl)) dX5_jump_23 ⟨Nat.zero_le _, Nat.zero_le _⟩) (fun H locs hP hD hS => ?_)
    refine lv_aload_n hx hb dX5_jump_26 rfl (lv_at hl 1 rfl) ?_
    refine va_get (D := g.1) (ci := 5) (v := .ref (aN 0)) (C := RX5) (T := TX5) (N := 6) hx hb hts i_X5 hown hK hP 0 rfl rfl 1 (by decide) (hts (.fieldLink RX5 21 "WordFlasher" "now" "LWordFlasher$State;") (List.mem_of_getElem? (i := 1) rfl)) (fun _ h9 => h9) rfl dX5_jump_27 ?_
    refine lv_iload_n hx hb dX5_jump_30 rfl (lv_at hl 2 rfl) ?_
    obtain ⟨X9, h10, hf⟩ := bnd_el hf
    refine wr_v (rest := []) (wc := (pS g aN (aW 0) XN ++ (pW g aW (aP 0) (aQ 0) XW ++ (pP g aP XP)))) (wc' := (pS g aN (aW 0) X9 ++ (pW g aW (aP 0) (aQ 0) XW ++ (pP g aP XP)))) (ws2 := (pF g aF (aW 0) (aN 0) (aA 0) (aH 0) (aO 0) XF ++ (pS g aN (aW 0) X9 ++ (pW g aW (aP 0) (aQ 0) XW ++ (pP g aP XP ++ (pH g aH aB (aW 0) X7)))))) hP hD hS hA [2, 3, 4, 5, 6, 7, 8, 9, 10, 11, 12, 13, 14, 15, 16, 17, 18, 19] rfl rfl (by rfl) (rnV (As := [.int p1]) ⟨hx, hb, hml, hown, hts⟩ (c_X3_leapTo l g aN aW aP aQ _ _ _ _ _ _ _ h10) (cwV 1 hts gX5_jump_X3_leapTo rfl rfl rfl (by decide +kernel) ⟨Nat.le_of_ble_eq_true rfl, Nat.le_of_ble_eq_true rfl⟩) hKW hP hD [2, 3, 4, 5, 6, 7, 8, 9, 10, 11, 12, 13, 14, 15, 16, 17, 18, 19] (by decide) rfl (va_recv hK hP (ci := 3) (q0 := 2) rfl rfl) rfl hl.1 rfl (lv_room (Nat.le_of_ble_eq_true rfl)) dX5_jump_31 ⟨Nat.zero_le _, Nat.zero_le _⟩) (fun H locs hP hD hS => ?_)
    refine lv_aload_n hx hb dX5_jump_34 rfl (lv_at hl 1 rfl) ?_
    refine va_get (D := g.1) (ci := 5) (v := .ref (aN 0)) (C := RX5) (T := TX5) (N := 6) hx hb hts i_X5 hown hK hP 0 rfl rfl 1 (by decide) (hts (.fieldLink RX5 21 "WordFlasher" "now" "LWordFlasher$State;") (List.mem_of_getElem? (i := 1) rfl)) (fun _ h9 => h9) rfl dX5_jump_35 ?_
    refine va_get (D := g.1) (ci := 3) (v := .int (X9 6 0)) (C := RX3) (T := TX3) (N := 15) hx hb hts i_X3 hown hK hP 2 rfl rfl 6 (by decide) (hts (.fieldLink RX5 147 "WordFlasher$State" "present" "I") (List.mem_of_getElem? (i := 3) rfl)) (fun _ h9 => h9) rfl dX5_jump_38 ?_
    have er0 := Option.some.inj hf
    obtain ⟨er0, er1⟩ := Prod.mk.inj er0
    obtain ⟨er1, er2⟩ := Prod.mk.inj er1
    rw [← hQ0]; exact W.iret (v := (X9 6 0)) hx hb hr (fun t ht hW => ⟨⟨(X9 6 0), (), rfl, ⟨er0, trivial⟩, by dsimp only; rw [ht, ← er1, ← er2]; exact hP⟩, hS.F ht⟩) hS.2.2 dX5_jump_41
  · have hf := ite_f hf c6
    refine lv_iload_n hx hb dX5_jump_13 rfl (lv_at hl 0 rfl) ?_
    have er0 := Option.some.inj hf
    obtain ⟨er0, er1⟩ := Prod.mk.inj er0
    obtain ⟨er1, er2⟩ := Prod.mk.inj er1
    rw [← hQ0]; exact W.iret (v := r1) hx hb hr (fun t ht hW => ⟨⟨r1, (), rfl, ⟨er0, trivial⟩, by dsimp only; rw [ht, ← er1, ← er2]; exact hP⟩, hS.F ht⟩) hS.2.2 dX5_jump_14
abbrev rmX5_goBack : Room := { frames := 5, cells := 0, slots := 0, locals := 109 }
set_option maxHeartbeats 8000000 in
set_option maxRecDepth 100000 in
theorem c_X5_goBack (l : Launch) (g : GG) (aF : Nat → Nat) (aN : Nat → Nat) (aA : Nat → Nat) (aW : Nat → Nat) (aP : Nat → Nat) (aQ : Nat → Nat) (aO : Nat → Nat) (aH : Nat → Nat) (aB : Nat → Nat → Nat) (sz : Nat) (n : Nat) (XF : DM) (XN : DM) (XW : DM) (XH : HD) (r : Int32) (XNz : DM) (XHz : HD) (hf : fX5_goBack n XF XN XW XH = some (r, XNz, XHz)) : Met l yX5_goBack wsX5_goBack rmX5_goBack (va_Pc [.ref (aF 0)] (fun U => U.heap.size = sz ∧ va_P g.1 vwCl (pF g aF (aW 0) (aN 0) (aA 0) (aH 0) (aO 0) XF ++ (pS g aN (aW 0) XN ++ (pW g aW (aP 0) (aQ 0) XW ++ (pH g aH aB (aW 0) XH)))) U.heap ∧ KW g U ∧ va_D (fun _ => True) (pF g aF (aW 0) (aN 0) (aA 0) (aH 0) (aO 0) XF ++ (pS g aN (aW 0) XN ++ (pW g aW (aP 0) (aQ 0) XW ++ (pH g aH aB (aW 0) XH)))))) (va_Qi (fun r' (_ : Unit) => r' = r ∧ True) (fun (_ : Unit) t => va_P g.1 vwCl (pF g aF (aW 0) (aN 0) (aA 0) (aH 0) (aO 0) XF ++ (pS g aN (aW 0) XNz ++ (pW g aW (aP 0) (aQ 0) XW ++ (pH g aH aB (aW 0) XHz)))) t.heap) (va_A (pF g aF (aW 0) (aN 0) (aA 0) (aH 0) (aO 0) XF ++ (pS g aN (aW 0) XN ++ (pW g aW (aP 0) (aQ 0) XW ++ (pH g aH aB (aW 0) XH)))) sz)) 0 0 (va_A (pF g aF (aW 0) (aN 0) (aA 0) (aH 0) (aO 0) XF ++ (pS g aN (aW 0) XN ++ (pW g aW (aP 0) (aQ 0) XW ++ (pH g aH aB (aW 0) XH)))) sz) := by
  refine Met.ofW (cc := cX5_goBack) (maxL := 2) (ret := (some .int)) (by decide) rfl ?_
  intro p e s m args below meth c s₁ B hml hv
  obtain ⟨hargs, hsz, hP, hKW, hD0⟩ := hv
  have hK := hKW.1
  have hx := B.exec
  have hb := B.bytes
  have hr := B.returns
  have hts := atoms_spec (ws := wsX5_goBack) B.pre
  have hown : s.vm.findClass RX5 = some m.cls := findClass_of_methodNamed B.named
  have hlocks := B.notSynchronized
  subst hsz
  have hD := hD0.self (sz := s.heap.size)
  generalize hAe : va_A (pF g aF (aW 0) (aN 0) (aA 0) (aH 0) (aO 0) XF ++ (pS g aN (aW 0) XN ++ (pW g aW (aP 0) (aQ 0) XW ++ (pH g aH aB (aW 0) XH)))) s.heap.size = A at hD ⊢
  have hA : ∀ q : Nat, s.heap.size ≤ q → A q := fun q h => by rw [← hAe]; exact Or.inr h
  have hS : va_S A s.heap s.heap [] := va_S.rf
  have i_X5 : ∀ w ∈ wsX50, w ∈ wsX5_goBack := fun w h => List.mem_cons_of_mem _ (List.mem_append_left _ (List.mem_append_left _ (List.mem_append_left _ (List.mem_append_right _ h))))
  have i_X3 : ∀ w ∈ wsX30, w ∈ wsX5_goBack := fun w h => List.mem_cons_of_mem _ (List.mem_append_left _ (List.mem_append_left _ (List.mem_append_right _ h)))
  have i_X0 : ∀ w ∈ wsX00, w ∈ wsX5_goBack := fun w h => List.mem_cons_of_mem _ (List.mem_append_left _ (List.mem_append_right _ h))
  have i_X4 : ∀ w ∈ wsX40, w ∈ wsX5_goBack := fun w h => List.mem_cons_of_mem _ (List.mem_append_right _ h)
  have hent : entryFrame m args 2 = F0 m 0 ((lg_sl ([.ref (aF 0)]) ++ List.replicate (2 - (lg_sl ([.ref (aF 0)])).length) Slot.unset).toArray) [] := by rw [hargs]; exact lg_entry_eq _ _ _
  rw [hent]
  have hl := lv_entry ([.ref (aF 0)]) (n := 2) (Nat.le_of_ble_eq_true rfl)
  generalize (lg_sl ([.ref (aF 0)]) ++ List.replicate (2 - (lg_sl ([.ref (aF 0)])).length) Slot.unset).toArray = ls at hl ⊢
  have hl : lv_has ls 2 [(0, .ref (aF 0))] := hl
  generalize hQ0 : MQ below _ _ _ _ _ _ = Q0
  unfold fX5_goBack at hf
  refine lv_aload_n hx hb dX5_goBack_0 rfl (lv_at hl 0 rfl) ?_
  refine va_get (D := g.1) (ci := 5) (v := .ref (aN 0)) (C := RX5) (T := TX5) (N := 6) hx hb hts i_X5 hown hK hP 0 rfl rfl 1 (by decide) (hts (.fieldLink RX5 21 "WordFlasher" "now" "LWordFlasher$State;") (List.mem_of_getElem? (i := 1) rfl)) (fun _ h9 => h9) rfl dX5_goBack_1 ?_
  obtain ⟨r1, h2, hf⟩ := bnd_el hf
  refine rdV (As := []) (rest := []) ⟨hx, hb, hml, hown, hts⟩ (c_X3_returnError l g aN aW aP aQ _ _ h2) (cwV 0 hts gX5_goBack_X3_returnError rfl rfl rfl (by decide +kernel) ⟨Nat.le_of_ble_eq_true rfl, Nat.le_of_ble_eq_true rfl⟩) hKW hP [2, 3, 4, 5, 6, 7, 8] rfl (va_recv hK hP (ci := 3) (q0 := 2) rfl rfl) rfl hl.1 rfl (lv_room (Nat.le_of_ble_eq_true rfl)) dX5_goBack_4 ⟨Nat.zero_le _, Nat.zero_le _⟩ (fun r3 q4 => ?_)
  obtain ⟨q4, nb5⟩ := q4
  refine lv_as q4.symm ?_
  refine lv_istore_n (lv' := [(1, .int r1), (0, .ref (aF 0))]) hx hb dX5_goBack_7 rfl hl (by decide) rfl (fun ls hl => ?_)
  refine lv_iload_n hx hb dX5_goBack_8 rfl (lv_at hl 0 rfl) ?_
  refine lv_if_eq (tgt := 14) hx hb dX5_goBack_9 (by decide) (fun c6 => ?_) (fun c6 => ?_)
  · have hf := ite_t hf c6
    refine lv_aload_n hx hb dX5_goBack_14 rfl (lv_at hl 1 rfl) ?_
    refine va_get (D := g.1) (ci := 5) (v := .ref (aH 0)) (C := RX5) (T := TX5) (N := 6) hx hb hts i_X5 hown hK hP 0 rfl rfl 3 (by decide) (hts (.fieldLink RX5 31 "WordFlasher" "history" "LWordFlasher$History;") (List.mem_of_getElem? (i := 2) rfl)) (fun _ h9 => h9) rfl dX5_goBack_15 ?_
    refine lv_aload_n hx hb dX5_goBack_18 rfl (lv_at hl 1 rfl) ?_
    refine va_get (D := g.1) (ci := 5) (v := .ref (aN 0)) (C := RX5) (T := TX5) (N := 6) hx hb hts i_X5 hown hK hP 0 rfl rfl 1 (by decide) (hts (.fieldLink RX5 21 "WordFlasher" "now" "LWordFlasher$State;") (List.mem_of_getElem? (i := 1) rfl)) (fun _ h9 => h9) rfl dX5_goBack_19 ?_
    obtain ⟨X7, h8, hf⟩ := bnd_el hf
    refine wr_v (rest := []) (wc := (pS g aN (aW 0) XN ++ (pH g aH aB (aW 0) XH))) (wc' := (pS g aN (aW 0) XN ++ (pH g aH aB (aW 0) X7))) (ws2 := (pF g aF (aW 0) (aN 0) (aA 0) (aH 0) (aO 0) XF ++ (pS g aN (aW 0) XN ++ (pW g aW (aP 0) (aQ 0) XW ++ (pH g aH aB (aW 0) X7))))) hP hD hS hA [2, 3, 4, 5, 6, 7, 8, 16, 17, 18, 19, 20, 21, 22, 23, 24, 25, 26, 27, 28, 29, 30, 31, 32, 33, 34, 35, 36, 37, 38, 39, 40, 41, 42, 43, 44, 45] rfl rfl (by rfl) (rnV (As := [.ref (aN 0)]) ⟨hx, hb, hml, hown, hts⟩ (c_X0_keep l g aN aW aP aQ aH aB _ _ _ _ h8) (cwV 1 hts gX5_goBack_X0_keep rfl rfl rfl (by decide +kernel) ⟨Nat.le_of_ble_eq_true rfl, Nat.le_of_ble_eq_true rfl⟩) hKW hP hD [2, 3, 4, 5, 6, 7, 8, 16, 17, 18, 19, 20, 21, 22, 23, 24, 25, 26, 27, 28, 29, 30, 31, 32, 33, 34, 35, 36, 37, 38, 39, 40, 41, 42, 43, 44, 45] (by decide) rfl (va_recv hK hP (ci := 0) (q0 := 16) rfl rfl) rfl hl.1 rfl (lv_room (Nat.le_of_ble_eq_true rfl)) dX5_goBack_22 ⟨Nat.zero_le _, Nat.zero_le _⟩) (fun H locs hP hD hS => ?_)
    refine lv_aload_n hx hb dX5_goBack_25 rfl (lv_at hl 1 rfl) ?_
    refine va_get (D := g.1) (ci := 5) (v := .ref (aN 0)) (C := RX5) (T := TX5) (N := 6) hx hb hts i_X5 hown hK hP 0 rfl rfl 1 (by decide) (hts (.fieldLink RX5 21 "WordFlasher" "now" "LWordFlasher$State;") (List.mem_of_getElem? (i := 1) rfl)) (fun _ h9 => h9) rfl dX5_goBack_26 ?_
    obtain ⟨X9, h10, hf⟩ := bnd_el hf
    refine wr_v (rest := []) (wc := (pS g aN (aW 0) XN ++ (pW g aW (aP 0) (aQ 0) XW))) (wc' := (pS g aN (aW 0) X9 ++ (pW g aW (aP 0) (aQ 0) XW))) (ws2 := (pF g aF (aW 0) (aN 0) (aA 0) (aH 0) (aO 0) XF ++ (pS g aN (aW 0) X9 ++ (pW g aW (aP 0) (aQ 0) XW ++ (pH g aH aB (aW 0) X7))))) hP hD hS hA [2, 3, 4, 5, 6, 7, 8, 9, 10, 11, 12, 13, 14, 15] rfl rfl (by rfl) (rnV (As := []) ⟨hx, hb, hml, hown, hts⟩ (c_X3_returnToPlace l g aN aW aP aQ _ _ _ _ _ h10) (cwV 0 hts gX5_goBack_X3_returnToPlace rfl rfl rfl (by decide +kernel) ⟨Nat.le_of_ble_eq_true rfl, Nat.le_of_ble_eq_true rfl⟩) hKW hP hD [2, 3, 4, 5, 6, 7, 8, 9, 10, 11, 12, 13, 14, 15] (by decide) rfl (va_recv hK hP (ci := 3) (q0 := 2) rfl rfl) rfl hl.1 rfl (lv_room (Nat.le_of_ble_eq_true rfl)) dX5_goBack_29 ⟨Nat.zero_le _, Nat.zero_le _⟩) (fun H locs hP hD hS => ?_)
    refine lv_aload_n hx hb dX5_goBack_32 rfl (lv_at hl 1 rfl) ?_
    refine va_get (D := g.1) (ci := 5) (v := .ref (aN 0)) (C := RX5) (T := TX5) (N := 6) hx hb hts i_X5 hown hK hP 0 rfl rfl 1 (by decide) (hts (.fieldLink RX5 21 "WordFlasher" "now" "LWordFlasher$State;") (List.mem_of_getElem? (i := 1) rfl)) (fun _ h9 => h9) rfl dX5_goBack_33 ?_
    refine va_get (D := g.1) (ci := 3) (v := .int (X9 6 0)) (C := RX3) (T := TX3) (N := 15) hx hb hts i_X3 hown hK hP 2 rfl rfl 6 (by decide) (hts (.fieldLink RX5 147 "WordFlasher$State" "present" "I") (List.mem_of_getElem? (i := 3) rfl)) (fun _ h9 => h9) rfl dX5_goBack_36 ?_
    have er0 := Option.some.inj hf
    obtain ⟨er0, er1⟩ := Prod.mk.inj er0
    obtain ⟨er1, er2⟩ := Prod.mk.inj er1
    rw [← hQ0]; exact W.iret (v := (X9 6 0)) hx hb hr (fun t ht hW => ⟨⟨(X9 6 0), (), rfl, ⟨er0, trivial⟩, by dsimp only; rw [ht, ← er1, ← er2]; exact hP⟩, hS.F ht⟩) hS.2.2 dX5_goBack_39
  · have hf := ite_f hf c6
    refine lv_iload_n hx hb dX5_goBack_12 rfl (lv_at hl 0 rfl) ?_
    have er0 := Option.some.inj hf
    obtain ⟨er0, er1⟩ := Prod.mk.inj er0
    obtain ⟨er1, er2⟩ := Prod.mk.inj er1
    rw [← hQ0]; exact W.iret (v := r1) hx hb hr (fun t ht hW => ⟨⟨r1, (), rfl, ⟨er0, trivial⟩, by dsimp only; rw [ht, ← er1, ← er2]; exact hP⟩, hS.F ht⟩) hS.2.2 dX5_goBack_13
abbrev rmX5_undo : Room := { frames := 5, cells := 0, slots := 0, locals := 118 }
set_option maxHeartbeats 8000000 in
set_option maxRecDepth 100000 in
theorem c_X5_undo (l : Launch) (g : GG) (aF : Nat → Nat) (aN : Nat → Nat) (aA : Nat → Nat) (aW : Nat → Nat) (aP : Nat → Nat) (aQ : Nat → Nat) (aO : Nat → Nat) (aH : Nat → Nat) (aB : Nat → Nat → Nat) (sz : Nat) (n : Nat) (XF : DM) (XN : DM) (XW : DM) (XP : DM) (XQ : DM) (XH : HD) (r : Int32) (XNz : DM) (XWz : DM) (XPz : DM) (XQz : DM) (XHz : HD) (hf : fX5_undo n XF XN XW XP XQ XH = some (r, XNz, XWz, XPz, XQz, XHz)) : Met l yX5_undo wsX5_undo rmX5_undo (va_Pc [.ref (aF 0)] (fun U => U.heap.size = sz ∧ va_P g.1 vwCl (pF g aF (aW 0) (aN 0) (aA 0) (aH 0) (aO 0) XF ++ (pS g aN (aW 0) XN ++ (pW g aW (aP 0) (aQ 0) XW ++ (pP g aP XP ++ (pP g aQ XQ ++ (pH g aH aB (aW 0) XH)))))) U.heap ∧ KW g U ∧ va_D (fun _ => True) (pF g aF (aW 0) (aN 0) (aA 0) (aH 0) (aO 0) XF ++ (pS g aN (aW 0) XN ++ (pW g aW (aP 0) (aQ 0) XW ++ (pP g aP XP ++ (pP g aQ XQ ++ (pH g aH aB (aW 0) XH)))))))) (va_Qi (fun r' (_ : Unit) => r' = r ∧ True) (fun (_ : Unit) t => va_P g.1 vwCl (pF g aF (aW 0) (aN 0) (aA 0) (aH 0) (aO 0) XF ++ (pS g aN (aW 0) XNz ++ (pW g aW (aP 0) (aQ 0) XWz ++ (pP g aP XPz ++ (pP g aQ XQz ++ (pH g aH aB (aW 0) XHz)))))) t.heap) (va_A (pF g aF (aW 0) (aN 0) (aA 0) (aH 0) (aO 0) XF ++ (pS g aN (aW 0) XN ++ (pW g aW (aP 0) (aQ 0) XW ++ (pP g aP XP ++ (pP g aQ XQ ++ (pH g aH aB (aW 0) XH)))))) sz)) 0 0 (va_A (pF g aF (aW 0) (aN 0) (aA 0) (aH 0) (aO 0) XF ++ (pS g aN (aW 0) XN ++ (pW g aW (aP 0) (aQ 0) XW ++ (pP g aP XP ++ (pP g aQ XQ ++ (pH g aH aB (aW 0) XH)))))) sz) := by
  refine Met.ofW (cc := cX5_undo) (maxL := 1) (ret := (some .int)) (by decide) rfl ?_
  intro p e s m args below meth c s₁ B hml hv
  obtain ⟨hargs, hsz, hP, hKW, hD0⟩ := hv
  have hK := hKW.1
  have hx := B.exec
  have hb := B.bytes
  have hr := B.returns
  have hts := atoms_spec (ws := wsX5_undo) B.pre
  have hown : s.vm.findClass RX5 = some m.cls := findClass_of_methodNamed B.named
  have hlocks := B.notSynchronized
  subst hsz
  have hD := hD0.self (sz := s.heap.size)
  generalize hAe : va_A (pF g aF (aW 0) (aN 0) (aA 0) (aH 0) (aO 0) XF ++ (pS g aN (aW 0) XN ++ (pW g aW (aP 0) (aQ 0) XW ++ (pP g aP XP ++ (pP g aQ XQ ++ (pH g aH aB (aW 0) XH)))))) s.heap.size = A at hD ⊢
  have hA : ∀ q : Nat, s.heap.size ≤ q → A q := fun q h => by rw [← hAe]; exact Or.inr h
  have hS : va_S A s.heap s.heap [] := va_S.rf
  have i_X5 : ∀ w ∈ wsX50, w ∈ wsX5_undo := fun w h => List.mem_cons_of_mem _ (List.mem_append_left _ (List.mem_append_left _ (List.mem_append_left _ (List.mem_append_left _ (List.mem_append_right _ h)))))
  have i_X0 : ∀ w ∈ wsX00, w ∈ wsX5_undo := fun w h => List.mem_cons_of_mem _ (List.mem_append_left _ (List.mem_append_left _ (List.mem_append_left _ (List.mem_append_right _ h))))
  have i_X3 : ∀ w ∈ wsX30, w ∈ wsX5_undo := fun w h => List.mem_cons_of_mem _ (List.mem_append_left _ (List.mem_append_left _ (List.mem_append_right _ h)))
  have i_X4 : ∀ w ∈ wsX40, w ∈ wsX5_undo := fun w h => List.mem_cons_of_mem _ (List.mem_append_left _ (List.mem_append_right _ h))
  have i_X2 : ∀ w ∈ wsX20, w ∈ wsX5_undo := fun w h => List.mem_cons_of_mem _ (List.mem_append_right _ h)
  have hent : entryFrame m args 1 = F0 m 0 ((lg_sl ([.ref (aF 0)]) ++ List.replicate (1 - (lg_sl ([.ref (aF 0)])).length) Slot.unset).toArray) [] := by rw [hargs]; exact lg_entry_eq _ _ _
  rw [hent]
  have hl := lv_entry ([.ref (aF 0)]) (n := 1) (Nat.le_of_ble_eq_true rfl)
  generalize (lg_sl ([.ref (aF 0)]) ++ List.replicate (1 - (lg_sl ([.ref (aF 0)])).length) Slot.unset).toArray = ls at hl ⊢
  have hl : lv_has ls 1 [(0, .ref (aF 0))] := hl
  generalize hQ0 : MQ below _ _ _ _ _ _ = Q0
  unfold fX5_undo at hf
  refine lv_aload_n hx hb dX5_undo_0 rfl (lv_at hl 0 rfl) ?_
  refine va_get (D := g.1) (ci := 5) (v := .ref (aH 0)) (C := RX5) (T := TX5) (N := 6) hx hb hts i_X5 hown hK hP 0 rfl rfl 3 (by decide) (hts (.fieldLink RX5 31 "WordFlasher" "history" "LWordFlasher$History;") (List.mem_of_getElem? (i := 1) rfl)) (fun _ h9 => h9) rfl dX5_undo_1 ?_
  refine va_get (D := g.1) (ci := 0) (v := .int (XH.2.1 1 0)) (C := RX0) (T := TX0) (N := 2) hx hb hts i_X0 hown hK hP 24 rfl rfl 1 (by decide) (hts (.fieldLink RX5 169 "WordFlasher$History" "many" "I") (List.mem_of_getElem? (i := 2) rfl)) (fun _ h9 => h9) rfl dX5_undo_4 ?_
  refine lv_if_ne (tgt := 13) hx hb dX5_undo_7 (by decide) (fun c1 => ?_) (fun c1 => ?_)
  · have hf := ite_f hf c1
    refine lv_aload_n hx hb dX5_undo_13 rfl (lv_at hl 0 rfl) ?_
    refine va_get (D := g.1) (ci := 5) (v := .ref (aH 0)) (C := RX5) (T := TX5) (N := 6) hx hb hts i_X5 hown hK hP 0 rfl rfl 3 (by decide) (hts (.fieldLink RX5 31 "WordFlasher" "history" "LWordFlasher$History;") (List.mem_of_getElem? (i := 1) rfl)) (fun _ h9 => h9) rfl dX5_undo_14 ?_
    refine lv_aload_n hx hb dX5_undo_17 rfl (lv_at hl 0 rfl) ?_
    refine va_get (D := g.1) (ci := 5) (v := .ref (aN 0)) (C := RX5) (T := TX5) (N := 6) hx hb hts i_X5 hown hK hP 0 rfl rfl 1 (by decide) (hts (.fieldLink RX5 21 "WordFlasher" "now" "LWordFlasher$State;") (List.mem_of_getElem? (i := 3) rfl)) (fun _ h9 => h9) rfl dX5_undo_18 ?_
    obtain ⟨u5, h4, hf⟩ := bnd_el hf
    refine wr_v (rest := []) (wc := (pS g aN (aW 0) XN ++ (pH g aH aB (aW 0) XH))) (wc' := (pS g aN (aW 0) u5.1 ++ (pH g aH aB (aW 0) u5.2))) (ws2 := (pF g aF (aW 0) (aN 0) (aA 0) (aH 0) (aO 0) XF ++ (pS g aN (aW 0) u5.1 ++ (pW g aW (aP 0) (aQ 0) XW ++ (pP g aP XP ++ (pP g aQ XQ ++ (pH g aH aB (aW 0) u5.2))))))) hP hD hS hA [2, 3, 4, 5, 6, 7, 8, 24, 25, 26, 27, 28, 29, 30, 31, 32, 33, 34, 35, 36, 37, 38, 39, 40, 41, 42, 43, 44, 45, 46, 47, 48, 49, 50, 51, 52, 53] rfl rfl (by rfl) (rnV (As := [.ref (aN 0)]) ⟨hx, hb, hml, hown, hts⟩ (c_X0_restore l g aN aW aP aQ aH aB _ _ _ _ _ h4) (cwV 1 hts gX5_undo_X0_restore rfl rfl rfl (by decide +kernel) ⟨Nat.le_of_ble_eq_true rfl, Nat.le_of_ble_eq_true rfl⟩) hKW hP hD [2, 3, 4, 5, 6, 7, 8, 24, 25, 26, 27, 28, 29, 30, 31, 32, 33, 34, 35, 36, 37, 38, 39, 40, 41, 42, 43, 44, 45, 46, 47, 48, 49, 50, 51, 52, 53] (by decide) rfl (va_recv hK hP (ci := 0) (q0 := 24) rfl rfl) rfl hl.1 rfl (lv_room (Nat.le_of_ble_eq_true rfl)) dX5_undo_21 ⟨Nat.zero_le _, Nat.zero_le _⟩) (fun H locs hP hD hS => ?_)
    refine lv_aload_n hx hb dX5_undo_24 rfl (lv_at hl 0 rfl) ?_
    refine va_get (D := g.1) (ci := 5) (v := .ref (aW 0)) (C := RX5) (T := TX5) (N := 6) hx hb hts i_X5 hown hK hP 0 rfl rfl 0 (by decide) (hts (.fieldLink RX5 10 "WordFlasher" "words" "LWordFlasher$Words;") (List.mem_of_getElem? (i := 4) rfl)) (fun _ h9 => h9) rfl dX5_undo_25 ?_
    refine lv_aload_n hx hb dX5_undo_28 rfl (lv_at hl 0 rfl) ?_
    refine va_get (D := g.1) (ci := 5) (v := .ref (aN 0)) (C := RX5) (T := TX5) (N := 6) hx hb hts i_X5 hown hK hP 0 rfl rfl 1 (by decide) (hts (.fieldLink RX5 21 "WordFlasher" "now" "LWordFlasher$State;") (List.mem_of_getElem? (i := 3) rfl)) (fun _ h9 => h9) rfl dX5_undo_29 ?_
    refine va_get (D := g.1) (ci := 3) (v := .ref (aN 1)) (C := RX3) (T := TX3) (N := 15) hx hb hts i_X3 hown hK hP 2 rfl rfl 1 (by decide) (hts (.fieldLink RX5 58 "WordFlasher$State" "text" "[I") (List.mem_of_getElem? (i := 5) rfl)) (fun _ h9 => h9) rfl dX5_undo_32 ?_
    refine lv_aload_n hx hb dX5_undo_35 rfl (lv_at hl 0 rfl) ?_
    refine va_get (D := g.1) (ci := 5) (v := .ref (aN 0)) (C := RX5) (T := TX5) (N := 6) hx hb hts i_X5 hown hK hP 0 rfl rfl 1 (by decide) (hts (.fieldLink RX5 21 "WordFlasher" "now" "LWordFlasher$State;") (List.mem_of_getElem? (i := 3) rfl)) (fun _ h9 => h9) rfl dX5_undo_36 ?_
    refine va_get (D := g.1) (ci := 3) (v := .int (u5.1 2 0)) (C := RX3) (T := TX3) (N := 15) hx hb hts i_X3 hown hK hP 2 rfl rfl 2 (by decide) (hts (.fieldLink RX5 50 "WordFlasher$State" "length" "I") (List.mem_of_getElem? (i := 6) rfl)) (fun _ h9 => h9) rfl dX5_undo_39 ?_
    obtain ⟨u10, h9, hf⟩ := bnd_el hf
    refine wr_v (rest := []) (wc := (pR g (aN 1) 300 (u5.1 1) ++ (pW g aW (aP 0) (aQ 0) XW ++ (pP g aP XP ++ (pP g aQ XQ))))) (wc' := (pR g (aN 1) 300 (u5.1 1) ++ (pW g aW (aP 0) (aQ 0) u10.1 ++ (pP g aP u10.2.1 ++ (pP g aQ u10.2.2))))) (ws2 := (pF g aF (aW 0) (aN 0) (aA 0) (aH 0) (aO 0) XF ++ (pS g aN (aW 0) u5.1 ++ (pW g aW (aP 0) (aQ 0) u10.1 ++ (pP g aP u10.2.1 ++ (pP g aQ u10.2.2 ++ (pH g aH aB (aW 0) u5.2))))))) hP hD hS hA [3, 9, 10, 11, 12, 13, 14, 15, 16, 17, 18, 19, 20, 21, 22, 23] rfl rfl (by rfl) (rnV (As := [.ref (aN 1), .int (u5.1 2 0)]) ⟨hx, hb, hml, hown, hts⟩ (c_X4_read l g (aN 1) 300 aW aP aQ _ _ _ _ _ _ _ _ _ _ h9) (cwV 2 hts gX5_undo_X4_read rfl rfl rfl (by decide +kernel) ⟨Nat.le_of_ble_eq_true rfl, Nat.le_of_ble_eq_true rfl⟩) hKW hP hD [3, 9, 10, 11, 12, 13, 14, 15, 16, 17, 18, 19, 20, 21, 22, 23] (by decide) rfl (va_recv hK hP (ci := 4) (q0 := 9) rfl rfl) rfl hl.1 rfl (lv_room (Nat.le_of_ble_eq_true rfl)) dX5_undo_42 ⟨Nat.zero_le _, Nat.zero_le _⟩) (fun H locs hP hD hS => ?_)
    refine lv_aload_n hx hb dX5_undo_45 rfl (lv_at hl 0 rfl) ?_
    refine va_get (D := g.1) (ci := 5) (v := .ref (aH 0)) (C := RX5) (T := TX5) (N := 6) hx hb hts i_X5 hown hK hP 0 rfl rfl 3 (by decide) (hts (.fieldLink RX5 31 "WordFlasher" "history" "LWordFlasher$History;") (List.mem_of_getElem? (i := 1) rfl)) (fun _ h9 => h9) rfl dX5_undo_46 ?_
    refine va_get (D := g.1) (ci := 0) (v := .int (u5.2.2.1 1 0)) (C := RX0) (T := TX0) (N := 2) hx hb hts i_X0 hown hK hP 24 rfl rfl 1 (by decide) (hts (.fieldLink RX5 169 "WordFlasher$History" "many" "I") (List.mem_of_getElem? (i := 2) rfl)) (fun _ h9 => h9) rfl dX5_undo_49 ?_
    have er0 := Option.some.inj hf
    obtain ⟨er0, er1⟩ := Prod.mk.inj er0
    obtain ⟨er1, er2⟩ := Prod.mk.inj er1
    obtain ⟨er2, er3⟩ := Prod.mk.inj er2
    obtain ⟨er3, er4⟩ := Prod.mk.inj er3
    obtain ⟨er4, er5⟩ := Prod.mk.inj er4
    rw [← hQ0]; exact W.iret (v := (u5.2.2.1 1 0)) hx hb hr (fun t ht hW => ⟨⟨(u5.2.2.1 1 0), (), rfl, ⟨er0, trivial⟩, by dsimp only; rw [ht, ← er1, ← er2, ← er3, ← er4, ← er5]; exact hP⟩, hS.F ht⟩) hS.2.2 dX5_undo_52
  · have hf := ite_t hf c1
    refine lv_bipush (v := (-2)) hx hb dX5_undo_10 (by decide) ?_
    have er0 := Option.some.inj hf
    obtain ⟨er0, er1⟩ := Prod.mk.inj er0
    obtain ⟨er1, er2⟩ := Prod.mk.inj er1
    obtain ⟨er2, er3⟩ := Prod.mk.inj er2
    obtain ⟨er3, er4⟩ := Prod.mk.inj er3
    obtain ⟨er4, er5⟩ := Prod.mk.inj er4
    rw [← hQ0]; exact W.iret (v := (-2)) hx hb hr (fun t ht hW => ⟨⟨(-2), (), rfl, ⟨er0, trivial⟩, by dsimp only; rw [ht, ← er1, ← er2, ← er3, ← er4, ← er5]; exact hP⟩, hS.F ht⟩) hS.2.2 dX5_undo_12
