abbrev rmX4_has : Room := { frames := 0, cells := 0, slots := 0, locals := 0 }
set_option maxHeartbeats 8000000 in
set_option maxRecDepth 100000 in
theorem c_X4_has (l : Launch) (g : GG) (aW : Nat → Nat) (aP : Nat → Nat) (aQ : Nat → Nat) (XW : DM) (p1 : Int32) (r : Int32) (hf : fX4_has XW p1 = some r) : Met l yX4_has wsX4_has rmX4_has (va_Pc [.ref (aW 0), .int p1] (fun U => va_P g.1 vwCl (pW g aW (aP 0) (aQ 0) XW) U.heap ∧ KW g U)) (vp_Si (fun r' => r' = r ∧ narrow .boolean (.int r') = .int r')) 0 0 (fun _ => False) := by
  refine Met.ofW (cc := cX4_has) (maxL := 2) (ret := (some .boolean)) (by decide) rfl ?_
  intro p e s m args below meth c s₁ B hml hv
  obtain ⟨hargs, hP, hKW⟩ := hv
  have hK := hKW.1
  have hx := B.exec
  have hb := B.bytes
  have hr := B.returns
  have hts := atoms_spec (ws := wsX4_has) B.pre
  have hown : s.vm.findClass RX4 = some m.cls := findClass_of_methodNamed B.named
  have hlocks := B.notSynchronized
  have i_X4 : ∀ w ∈ wsX40, w ∈ wsX4_has := fun w h => List.mem_cons_of_mem _ (List.mem_append_right _ h)
  have hent : entryFrame m args 2 = F0 m 0 ((lg_sl ([.ref (aW 0), .int p1]) ++ List.replicate (2 - (lg_sl ([.ref (aW 0), .int p1])).length) Slot.unset).toArray) [] := by rw [hargs]; exact lg_entry_eq _ _ _
  rw [hent]
  have hl := lv_entry ([.ref (aW 0), .int p1]) (n := 2) (Nat.le_of_ble_eq_true rfl)
  generalize (lg_sl ([.ref (aW 0), .int p1]) ++ List.replicate (2 - (lg_sl ([.ref (aW 0), .int p1])).length) Slot.unset).toArray = ls at hl ⊢
  have hl : lv_has ls 2 [(0, .ref (aW 0)), (1, .int p1)] := hl
  generalize hQ0 : MQ below _ _ _ _ _ _ = Q0
  unfold fX4_has at hf
  refine lv_iload_n hx hb dX4_has_0 rfl (lv_at hl 1 rfl) ?_
  refine lv_if_lt (tgt := 16) hx hb dX4_has_1 (by decide) (fun c1 => ?_) (fun c1 => ?_)
  · have hf := ite_t hf c1
    refine lv_iconst (v := 0) hx hb dX4_has_16 (by decide) ?_
    have er0 := Option.some.inj hf
    rw [← hQ0]; exact W.zret (v := 0) hx hb hr rfl (fun t ht hW => ⟨0, rfl, ⟨er0, rfl⟩, ht⟩) (fun q h => by cases h) dX4_has_17
  · have hf := ite_f hf c1
    refine lv_iload_n hx hb dX4_has_4 rfl (lv_at hl 1 rfl) ?_
    refine lv_aload_n hx hb dX4_has_5 rfl (lv_at hl 0 rfl) ?_
    refine va_get (D := g.1) (ci := 4) (v := .int (XW 8 0)) (C := RX4) (T := TX4) (N := 9) hx hb hts i_X4 hown hK hP 0 rfl rfl 8 (by decide) (hts (.fieldLink RX4 40 "WordFlasher$Words" "many" "I") (List.mem_of_getElem? (i := 1) rfl)) (fun _ h9 => h9) rfl dX4_has_6 ?_
    refine lv_icmp_ge (tgt := 16) hx hb dX4_has_9 (by decide) (fun c2 => ?_) (fun c2 => ?_)
    · have hf := ite_t hf c2
      refine lv_iconst (v := 0) hx hb dX4_has_16 (by decide) ?_
      have er0 := Option.some.inj hf
      rw [← hQ0]; exact W.zret (v := 0) hx hb hr rfl (fun t ht hW => ⟨0, rfl, ⟨er0, rfl⟩, ht⟩) (fun q h => by cases h) dX4_has_17
    · have hf := ite_f hf c2
      refine lv_iconst (v := 1) hx hb dX4_has_12 (by decide) ?_
      refine lv_goto (tgt := 17) hx hb dX4_has_13 (by decide) ?_
      have er0 := Option.some.inj hf
      rw [← hQ0]; exact W.zret (v := 1) hx hb hr rfl (fun t ht hW => ⟨1, rfl, ⟨er0, rfl⟩, ht⟩) (fun q h => by cases h) dX4_has_17
abbrev rmX4_isMark : Room := { frames := 1, cells := 0, slots := 0, locals := 21 }
set_option maxHeartbeats 8000000 in
set_option maxRecDepth 100000 in
theorem c_X4_isMark (l : Launch) (g : GG) (aW : Nat → Nat) (aP : Nat → Nat) (aQ : Nat → Nat) (XW : DM) (p1 : Int32) (r : Int32) (hf : fX4_isMark XW p1 = some r) : Met l yX4_isMark wsX4_isMark rmX4_isMark (va_Pc [.ref (aW 0), .int p1] (fun U => va_P g.1 vwCl (pW g aW (aP 0) (aQ 0) XW) U.heap ∧ KW g U)) (vp_Si (fun r' => r' = r ∧ narrow .boolean (.int r') = .int r')) 0 0 (fun _ => False) := by
  refine Met.ofW (cc := cX4_isMark) (maxL := 2) (ret := (some .boolean)) (by decide) rfl ?_
  intro p e s m args below meth c s₁ B hml hv
  obtain ⟨hargs, hP, hKW⟩ := hv
  have hK := hKW.1
  have hx := B.exec
  have hb := B.bytes
  have hr := B.returns
  have hts := atoms_spec (ws := wsX4_isMark) B.pre
  have hown : s.vm.findClass RX4 = some m.cls := findClass_of_methodNamed B.named
  have hlocks := B.notSynchronized
  have i_X4 : ∀ w ∈ wsX40, w ∈ wsX4_isMark := fun w h => List.mem_cons_of_mem _ (List.mem_append_right _ h)
  have hent : entryFrame m args 2 = F0 m 0 ((lg_sl ([.ref (aW 0), .int p1]) ++ List.replicate (2 - (lg_sl ([.ref (aW 0), .int p1])).length) Slot.unset).toArray) [] := by rw [hargs]; exact lg_entry_eq _ _ _
  rw [hent]
  have hl := lv_entry ([.ref (aW 0), .int p1]) (n := 2) (Nat.le_of_ble_eq_true rfl)
  generalize (lg_sl ([.ref (aW 0), .int p1]) ++ List.replicate (2 - (lg_sl ([.ref (aW 0), .int p1])).length) Slot.unset).toArray = ls at hl ⊢
  have hl : lv_has ls 2 [(0, .ref (aW 0)), (1, .int p1)] := hl
  generalize hQ0 : MQ below _ _ _ _ _ _ = Q0
  unfold fX4_isMark at hf
  refine lv_aload_n hx hb dX4_isMark_0 rfl (lv_at hl 0 rfl) ?_
  refine va_get (D := g.1) (ci := 4) (v := .ref (aW 4)) (C := RX4) (T := TX4) (N := 9) hx hb hts i_X4 hown hK hP 0 rfl rfl 3 (by decide) (hts (.fieldLink RX4 21 "WordFlasher$Words" "closings" "[I") (List.mem_of_getElem? (i := 1) rfl)) (fun _ h9 => h9) rfl dX4_isMark_1 ?_
  refine lv_iload_n hx hb dX4_isMark_4 rfl (lv_at hl 1 rfl) ?_
  obtain ⟨r1, h2, hf⟩ := bnd_el hf
  refine rdN (As := [.ref (aW 4), .int p1]) (rest := []) ⟨hx, hb, hml, hown, hts⟩ (c_X5_at l g (aW 4) 150 _ _ _ h2) ⟨va_cnB 2 hts gX4_isMark_X5_at_n44 rfl rfl rfl (hKW.2 _ (List.mem_of_getElem? (i := 5) rfl)) (hts (.initialized RX5) (List.mem_of_getElem? (i := 3) rfl)) (by decide +kernel) ⟨Nat.le_of_ble_eq_true rfl, Nat.le_of_ble_eq_true rfl⟩, (hts (.static yX5_at) (List.mem_of_getElem? (i := 2) rfl)), trivial⟩ hKW hP [4] rfl rfl hl.1 rfl (lv_room (Nat.le_of_ble_eq_true rfl)) dX4_isMark_5 ⟨Nat.zero_le _, Nat.zero_le _⟩ (fun r3 q4 => ?_)
  obtain ⟨q4, nb5⟩ := q4
  refine lv_as q4.symm ?_
  refine lv_iconst (v := 3) hx hb dX4_isMark_8 (by decide) ?_
  refine lv_icmp_ne (tgt := 16) hx hb dX4_isMark_9 (by decide) (fun c6 => ?_) (fun c6 => ?_)
  · have hf := ite_f hf c6
    refine lv_iconst (v := 0) hx hb dX4_isMark_16 (by decide) ?_
    have er0 := Option.some.inj hf
    rw [← hQ0]; exact W.zret (v := 0) hx hb hr rfl (fun t ht hW => ⟨0, rfl, ⟨er0, rfl⟩, ht⟩) (fun q h => by cases h) dX4_isMark_17
  · have hf := ite_t hf c6
    refine lv_iconst (v := 1) hx hb dX4_isMark_12 (by decide) ?_
    refine lv_goto (tgt := 17) hx hb dX4_isMark_13 (by decide) ?_
    have er0 := Option.some.inj hf
    rw [← hQ0]; exact W.zret (v := 1) hx hb hr rfl (fun t ht hW => ⟨1, rfl, ⟨er0, rfl⟩, ht⟩) (fun q h => by cases h) dX4_isMark_17
abbrev rmX4_classOf : Room := { frames := 1, cells := 0, slots := 0, locals := 21 }
set_option maxHeartbeats 8000000 in
set_option maxRecDepth 100000 in
theorem c_X4_classOf (l : Launch) (g : GG) (aW : Nat → Nat) (aP : Nat → Nat) (aQ : Nat → Nat) (XW : DM) (p1 : Int32) (r : Int32) (hf : fX4_classOf XW p1 = some r) : Met l yX4_classOf wsX4_classOf rmX4_classOf (va_Pc [.ref (aW 0), .int p1] (fun U => va_P g.1 vwCl (pW g aW (aP 0) (aQ 0) XW) U.heap ∧ KW g U)) (vp_Si (fun r' => r' = r ∧ True)) 0 0 (fun _ => False) := by
  refine Met.ofW (cc := cX4_classOf) (maxL := 3) (ret := (some .int)) (by decide) rfl ?_
  intro p e s m args below meth c s₁ B hml hv
  obtain ⟨hargs, hP, hKW⟩ := hv
  have hK := hKW.1
  have hx := B.exec
  have hb := B.bytes
  have hr := B.returns
  have hts := atoms_spec (ws := wsX4_classOf) B.pre
  have hown : s.vm.findClass RX4 = some m.cls := findClass_of_methodNamed B.named
  have hlocks := B.notSynchronized
  have i_X4 : ∀ w ∈ wsX40, w ∈ wsX4_classOf := fun w h => List.mem_cons_of_mem _ (List.mem_append_right _ h)
  have hent : entryFrame m args 3 = F0 m 0 ((lg_sl ([.ref (aW 0), .int p1]) ++ List.replicate (3 - (lg_sl ([.ref (aW 0), .int p1])).length) Slot.unset).toArray) [] := by rw [hargs]; exact lg_entry_eq _ _ _
  rw [hent]
  have hl := lv_entry ([.ref (aW 0), .int p1]) (n := 3) (Nat.le_of_ble_eq_true rfl)
  generalize (lg_sl ([.ref (aW 0), .int p1]) ++ List.replicate (3 - (lg_sl ([.ref (aW 0), .int p1])).length) Slot.unset).toArray = ls at hl ⊢
  have hl : lv_has ls 3 [(0, .ref (aW 0)), (1, .int p1)] := hl
  generalize hQ0 : MQ below _ _ _ _ _ _ = Q0
  unfold fX4_classOf at hf
  refine lv_aload_n hx hb dX4_classOf_0 rfl (lv_at hl 0 rfl) ?_
  refine va_get (D := g.1) (ci := 4) (v := .ref (aW 3)) (C := RX4) (T := TX4) (N := 9) hx hb hts i_X4 hown hK hP 0 rfl rfl 2 (by decide) (hts (.fieldLink RX4 18 "WordFlasher$Words" "lengths" "[I") (List.mem_of_getElem? (i := 1) rfl)) (fun _ h9 => h9) rfl dX4_classOf_1 ?_
  refine lv_iload_n hx hb dX4_classOf_4 rfl (lv_at hl 1 rfl) ?_
  obtain ⟨r1, h2, hf⟩ := bnd_el hf
  refine rdN (As := [.ref (aW 3), .int p1]) (rest := []) ⟨hx, hb, hml, hown, hts⟩ (c_X5_at l g (aW 3) 150 _ _ _ h2) ⟨va_cnB 2 hts gX4_classOf_X5_at_n44 rfl rfl rfl (hKW.2 _ (List.mem_of_getElem? (i := 5) rfl)) (hts (.initialized RX5) (List.mem_of_getElem? (i := 3) rfl)) (by decide +kernel) ⟨Nat.le_of_ble_eq_true rfl, Nat.le_of_ble_eq_true rfl⟩, (hts (.static yX5_at) (List.mem_of_getElem? (i := 2) rfl)), trivial⟩ hKW hP [3] rfl rfl hl.1 rfl (lv_room (Nat.le_of_ble_eq_true rfl)) dX4_classOf_5 ⟨Nat.zero_le _, Nat.zero_le _⟩ (fun r3 q4 => ?_)
  obtain ⟨q4, nb5⟩ := q4
  refine lv_as q4.symm ?_
  refine lv_istore_n (lv' := [(2, .int r1), (0, .ref (aW 0)), (1, .int p1)]) hx hb dX4_classOf_8 rfl hl (by decide) rfl (fun ls hl => ?_)
  refine lv_iload_n hx hb dX4_classOf_9 rfl (lv_at hl 0 rfl) ?_
  refine lv_iconst (v := 4) hx hb dX4_classOf_10 (by decide) ?_
  refine lv_icmp_gt (tgt := 16) hx hb dX4_classOf_11 (by decide) (fun c6 => ?_) (fun c6 => ?_)
  · have hf := ite_t hf c6
    refine lv_iload_n hx hb dX4_classOf_16 rfl (lv_at hl 0 rfl) ?_
    refine lv_bipush (v := 8) hx hb dX4_classOf_17 (by decide) ?_
    refine lv_icmp_gt (tgt := 26) hx hb dX4_classOf_19 (by decide) (fun c7 => ?_) (fun c7 => ?_)
    · have hf := ite_t hf c7
      refine lv_iconst (v := 2) hx hb dX4_classOf_26 (by decide) ?_
      have er0 := Option.some.inj hf
      rw [← hQ0]; exact W.iret (v := 2) hx hb hr (fun t ht hW => ⟨2, rfl, ⟨er0, trivial⟩, ht⟩) (fun q h => by cases h) dX4_classOf_27
    · have hf := ite_f hf c7
      refine lv_iconst (v := 1) hx hb dX4_classOf_22 (by decide) ?_
      refine lv_goto (tgt := 27) hx hb dX4_classOf_23 (by decide) ?_
      have er0 := Option.some.inj hf
      rw [← hQ0]; exact W.iret (v := 1) hx hb hr (fun t ht hW => ⟨1, rfl, ⟨er0, trivial⟩, ht⟩) (fun q h => by cases h) dX4_classOf_27
  · have hf := ite_f hf c6
    refine lv_iconst (v := 0) hx hb dX4_classOf_14 (by decide) ?_
    have er0 := Option.some.inj hf
    rw [← hQ0]; exact W.iret (v := 0) hx hb hr (fun t ht hW => ⟨0, rfl, ⟨er0, trivial⟩, ht⟩) (fun q h => by cases h) dX4_classOf_15
abbrev rmX4_shownAmong : Room := { frames := 2, cells := 0, slots := 0, locals := 42 }
set_option maxHeartbeats 8000000 in
set_option maxRecDepth 100000 in
theorem c_X4_shownAmong (l : Launch) (g : GG) (aW : Nat → Nat) (aP : Nat → Nat) (aQ : Nat → Nat) (n : Nat) (XW : DM) (p1 p2 : Int32) (r : Int32) (hf : fX4_shownAmong n XW p1 p2 = some r) : Met l yX4_shownAmong wsX4_shownAmong rmX4_shownAmong (va_Pc [.ref (aW 0), .int p1, .int p2] (fun U => va_P g.1 vwCl (pW g aW (aP 0) (aQ 0) XW) U.heap ∧ KW g U)) (vp_Si (fun r' => r' = r ∧ True)) 0 0 (fun _ => False) := by
  refine Met.ofW (cc := cX4_shownAmong) (maxL := 5) (ret := (some .int)) (by decide) rfl ?_
  intro p e s m args below meth c s₁ B hml hv
  obtain ⟨hargs, hP, hKW⟩ := hv
  have hK := hKW.1
  have hx := B.exec
  have hb := B.bytes
  have hr := B.returns
  have hts := atoms_spec (ws := wsX4_shownAmong) B.pre
  have hown : s.vm.findClass RX4 = some m.cls := findClass_of_methodNamed B.named
  have hlocks := B.notSynchronized
  have i_X4 : ∀ w ∈ wsX40, w ∈ wsX4_shownAmong := fun w h => List.mem_cons_of_mem _ (List.mem_append_right _ h)
  have hent : entryFrame m args 5 = F0 m 0 ((lg_sl ([.ref (aW 0), .int p1, .int p2]) ++ List.replicate (5 - (lg_sl ([.ref (aW 0), .int p1, .int p2])).length) Slot.unset).toArray) [] := by rw [hargs]; exact lg_entry_eq _ _ _
  rw [hent]
  have hl := lv_entry ([.ref (aW 0), .int p1, .int p2]) (n := 5) (Nat.le_of_ble_eq_true rfl)
  generalize (lg_sl ([.ref (aW 0), .int p1, .int p2]) ++ List.replicate (5 - (lg_sl ([.ref (aW 0), .int p1, .int p2])).length) Slot.unset).toArray = ls at hl ⊢
  have hl : lv_has ls 5 [(0, .ref (aW 0)), (1, .int p1), (2, .int p2)] := hl
  generalize hQ0 : MQ below _ _ _ _ _ _ = Q0
  unfold fX4_shownAmong at hf
  refine lv_iconst (v := 0) hx hb dX4_shownAmong_0 (by decide) ?_
  refine lv_istore_n (lv' := [(3, .int 0), (0, .ref (aW 0)), (1, .int p1), (2, .int p2)]) hx hb dX4_shownAmong_1 rfl hl (by decide) rfl (fun ls hl => ?_)
  refine lv_iload_n hx hb dX4_shownAmong_2 rfl (lv_at hl 2 rfl) ?_
  refine lv_istore (lv' := [(4, .int p1), (3, .int 0), (0, .ref (aW 0)), (1, .int p1), (2, .int p2)]) hx hb dX4_shownAmong_3 hl (by decide) rfl (fun ls hl => ?_)
  have L_5 : ∀ fu : Nat, ∀ (x2 x3 x4 : Int32) (ls : Array Slot), lv_has ls 5 [(0, .ref (aW 0)), (2, .int x2), (3, .int x3), (4, .int x4)] → fX4_shownAmong_L5 n XW fu x2 x3 x4 = some r → W p l e (headSpec wsX4_shownAmong rmX4_shownAmong).room s m args below meth c s.heap [] 0 0 Q0 (F0 m 5 ls []) := by
    intro fu
    induction fu with
    | zero => intros; rename_i hf; rw [fX4_shownAmong_L5] at hf; cases hf
    | succ fu ih =>
      intro x2 x3 x4 ls hl hf
      rw [fX4_shownAmong_L5] at hf
      refine lv_iload hx hb dX4_shownAmong_5 (lv_at hl 3 rfl) ?_
      refine lv_iload_n hx hb dX4_shownAmong_7 rfl (lv_at hl 1 rfl) ?_
      refine lv_icmp_gt (tgt := 29) hx hb dX4_shownAmong_8 (by decide) (fun c1 => ?_) (fun c1 => ?_)
      · have hf := ite_t hf c1
        refine lv_iload_n hx hb dX4_shownAmong_29 rfl (lv_at hl 2 rfl) ?_
        have er0 := Option.some.inj hf
        rw [← hQ0]; exact W.iret (v := x3) hx hb hr (fun t ht hW => ⟨x3, rfl, ⟨er0, trivial⟩, ht⟩) (fun q h => by cases h) dX4_shownAmong_30
      · have hf := ite_f hf c1
        refine lv_aload_n hx hb dX4_shownAmong_11 rfl (lv_at hl 0 rfl) ?_
        refine lv_iload hx hb dX4_shownAmong_12 (lv_at hl 3 rfl) ?_
        obtain ⟨r2, h3, hf⟩ := bnd_el hf
        refine rdV (As := [.int x4]) (rest := []) ⟨hx, hb, hml, hown, hts⟩ (c_X4_isMark l g aW aP aQ _ _ _ h3) (cwV 1 hts gX4_shownAmong_X4_isMark rfl rfl rfl (by decide +kernel) ⟨Nat.le_of_ble_eq_true rfl, Nat.le_of_ble_eq_true rfl⟩) hKW hP [0, 1, 2, 3, 4, 5, 6] rfl (va_recv hK hP (ci := 4) (q0 := 0) rfl rfl) rfl hl.1 rfl (lv_room (Nat.le_of_ble_eq_true rfl)) dX4_shownAmong_14 ⟨Nat.zero_le _, Nat.zero_le _⟩ (fun r4 q5 => ?_)
        obtain ⟨q5, nb6⟩ := q5
        refine lv_as q5.symm ?_
        rw [q5] at nb6
        obtain ⟨j23, ej23, hf⟩ := sl_el hf
        have J_23 : ∀ (x2 x3 x4 : Int32) (ls : Array Slot), lv_has ls 5 [(0, .ref (aW 0)), (2, .int x2), (3, .int x3), (4, .int x4)] → j23 x2 x3 x4 = some r → W p l e (headSpec wsX4_shownAmong rmX4_shownAmong).room s m args below meth c s.heap [] 0 0 Q0 (F0 m 23 ls []) := by
          intro x2 x3 x4 ls hl hf
          rw [ej23] at hf
          obtain ⟨v7, e8, hf⟩ := sl_el hf
          refine lv_iinc (v := v7) (lv' := [(4, .int v7), (0, .ref (aW 0)), (2, .int x2), (3, .int x3)]) hx hb dX4_shownAmong_23 hl (k := 3) rfl (by rw [e8]; rfl) (by decide) rfl (fun ls hl => ?_)
          refine lv_goto (tgt := 5) hx hb dX4_shownAmong_26 (by decide) ?_
          exact ih x2 x3 v7 ls (lv_sub hl [1, 2, 3, 0] rfl) hf
        refine lv_if_ne (tgt := 23) hx hb dX4_shownAmong_17 (by decide) (fun c9 => ?_) (fun c9 => ?_)
        · have hf := ite_f hf c9
          exact J_23 x2 x3 x4 ls (lv_sub hl [0, 1, 2, 3] rfl) hf
        · have hf := ite_t hf c9
          obtain ⟨v10, e11, hf⟩ := sl_el hf
          refine lv_iinc (v := v10) (lv' := [(3, .int v10), (0, .ref (aW 0)), (2, .int x2), (4, .int x4)]) hx hb dX4_shownAmong_20 hl (k := 2) rfl (by rw [e11]; rfl) (by decide) rfl (fun ls hl => ?_)
          exact J_23 x2 v10 x4 ls (lv_sub hl [1, 2, 0, 3] rfl) hf
  exact L_5 n p2 0 p1 ls (lv_sub hl [2, 4, 1, 0] rfl) hf
abbrev rmX4_sentencesAmong : Room := { frames := 1, cells := 0, slots := 0, locals := 21 }
set_option maxHeartbeats 8000000 in
set_option maxRecDepth 100000 in
theorem c_X4_sentencesAmong (l : Launch) (g : GG) (aW : Nat → Nat) (aP : Nat → Nat) (aQ : Nat → Nat) (XW : DM) (XP : DM) (p1 p2 : Int32) (r : Int32) (hf : fX4_sentencesAmong XW XP p1 p2 = some r) : Met l yX4_sentencesAmong wsX4_sentencesAmong rmX4_sentencesAmong (va_Pc [.ref (aW 0), .int p1, .int p2] (fun U => va_P g.1 vwCl (pW g aW (aP 0) (aQ 0) XW ++ (pP g aP XP)) U.heap ∧ KW g U)) (vp_Si (fun r' => r' = r ∧ True)) 0 0 (fun _ => False) := by
  refine Met.ofW (cc := cX4_sentencesAmong) (maxL := 3) (ret := (some .int)) (by decide) rfl ?_
  intro p e s m args below meth c s₁ B hml hv
  obtain ⟨hargs, hP, hKW⟩ := hv
  have hK := hKW.1
  have hx := B.exec
  have hb := B.bytes
  have hr := B.returns
  have hts := atoms_spec (ws := wsX4_sentencesAmong) B.pre
  have hown : s.vm.findClass RX4 = some m.cls := findClass_of_methodNamed B.named
  have hlocks := B.notSynchronized
  have i_X4 : ∀ w ∈ wsX40, w ∈ wsX4_sentencesAmong := fun w h => List.mem_cons_of_mem _ (List.mem_append_left _ (List.mem_append_right _ h))
  have i_X2 : ∀ w ∈ wsX20, w ∈ wsX4_sentencesAmong := fun w h => List.mem_cons_of_mem _ (List.mem_append_right _ h)
  have hent : entryFrame m args 3 = F0 m 0 ((lg_sl ([.ref (aW 0), .int p1, .int p2]) ++ List.replicate (3 - (lg_sl ([.ref (aW 0), .int p1, .int p2])).length) Slot.unset).toArray) [] := by rw [hargs]; exact lg_entry_eq _ _ _
  rw [hent]
  have hl := lv_entry ([.ref (aW 0), .int p1, .int p2]) (n := 3) (Nat.le_of_ble_eq_true rfl)
  generalize (lg_sl ([.ref (aW 0), .int p1, .int p2]) ++ List.replicate (3 - (lg_sl ([.ref (aW 0), .int p1, .int p2])).length) Slot.unset).toArray = ls at hl ⊢
  have hl : lv_has ls 3 [(0, .ref (aW 0)), (1, .int p1), (2, .int p2)] := hl
  generalize hQ0 : MQ below _ _ _ _ _ _ = Q0
  unfold fX4_sentencesAmong at hf
  refine lv_aload_n hx hb dX4_sentencesAmong_0 rfl (lv_at hl 0 rfl) ?_
  refine va_get (D := g.1) (ci := 4) (v := .ref (aP 0)) (C := RX4) (T := TX4) (N := 9) hx hb hts i_X4 hown hK hP 0 rfl rfl 6 (by decide) (hts (.fieldLink RX4 33 "WordFlasher$Words" "sentences" "LWordFlasher$Spans;") (List.mem_of_getElem? (i := 1) rfl)) (fun _ h9 => h9) rfl dX4_sentencesAmong_1 ?_
  refine va_get (D := g.1) (ci := 2) (v := .ref (aP 3)) (C := RX2) (T := TX2) (N := 4) hx hb hts i_X2 hown hK hP 7 rfl rfl 2 (by decide) (hts (.fieldLink RX4 85 "WordFlasher$Spans" "numbers" "[I") (List.mem_of_getElem? (i := 2) rfl)) (fun _ h9 => h9) rfl dX4_sentencesAmong_4 ?_
  refine lv_iload_n hx hb dX4_sentencesAmong_7 rfl (lv_at hl 2 rfl) ?_
  obtain ⟨r1, h2, hf⟩ := bnd_el hf
  refine rdN (As := [.ref (aP 3), .int p2]) (rest := []) ⟨hx, hb, hml, hown, hts⟩ (c_X5_at l g (aP 3) 150 _ _ _ h2) ⟨va_cnB 2 hts gX4_sentencesAmong_X5_at_n44 rfl rfl rfl (hKW.2 _ (List.mem_of_getElem? (i := 5) rfl)) (hts (.initialized RX5) (List.mem_of_getElem? (i := 4) rfl)) (by decide +kernel) ⟨Nat.le_of_ble_eq_true rfl, Nat.le_of_ble_eq_true rfl⟩, (hts (.static yX5_at) (List.mem_of_getElem? (i := 3) rfl)), trivial⟩ hKW hP [10] rfl rfl hl.1 rfl (lv_room (Nat.le_of_ble_eq_true rfl)) dX4_sentencesAmong_8 ⟨Nat.zero_le _, Nat.zero_le _⟩ (fun r3 q4 => ?_)
  obtain ⟨q4, nb5⟩ := q4
  refine lv_as q4.symm ?_
  refine lv_aload_n hx hb dX4_sentencesAmong_11 rfl (lv_at hl 0 rfl) ?_
  refine va_get (D := g.1) (ci := 4) (v := .ref (aP 0)) (C := RX4) (T := TX4) (N := 9) hx hb hts i_X4 hown hK hP 0 rfl rfl 6 (by decide) (hts (.fieldLink RX4 33 "WordFlasher$Words" "sentences" "LWordFlasher$Spans;") (List.mem_of_getElem? (i := 1) rfl)) (fun _ h9 => h9) rfl dX4_sentencesAmong_12 ?_
  refine va_get (D := g.1) (ci := 2) (v := .ref (aP 3)) (C := RX2) (T := TX2) (N := 4) hx hb hts i_X2 hown hK hP 7 rfl rfl 2 (by decide) (hts (.fieldLink RX4 85 "WordFlasher$Spans" "numbers" "[I") (List.mem_of_getElem? (i := 2) rfl)) (fun _ h9 => h9) rfl dX4_sentencesAmong_15 ?_
  refine lv_iload_n hx hb dX4_sentencesAmong_18 rfl (lv_at hl 1 rfl) ?_
  obtain ⟨r6, h7, hf⟩ := bnd_el hf
  refine rdN (As := [.ref (aP 3), .int p1]) (rest := [.int r1]) ⟨hx, hb, hml, hown, hts⟩ (c_X5_at l g (aP 3) 150 _ _ _ h7) ⟨va_cnB 2 hts gX4_sentencesAmong_X5_at_n44 rfl rfl rfl (hKW.2 _ (List.mem_of_getElem? (i := 5) rfl)) (hts (.initialized RX5) (List.mem_of_getElem? (i := 4) rfl)) (by decide +kernel) ⟨Nat.le_of_ble_eq_true rfl, Nat.le_of_ble_eq_true rfl⟩, (hts (.static yX5_at) (List.mem_of_getElem? (i := 3) rfl)), trivial⟩ hKW hP [10] rfl rfl hl.1 rfl (lv_room (Nat.le_of_ble_eq_true rfl)) dX4_sentencesAmong_19 ⟨Nat.zero_le _, Nat.zero_le _⟩ (fun r8 q9 => ?_)
  obtain ⟨q9, nb10⟩ := q9
  refine lv_as q9.symm ?_
  refine lv_isub hx hb dX4_sentencesAmong_22 ?_
  refine lv_iconst (v := 1) hx hb dX4_sentencesAmong_23 (by decide) ?_
  refine lv_iadd hx hb dX4_sentencesAmong_24 ?_
  have er0 := Option.some.inj hf
  rw [← hQ0]; exact W.iret (v := ((r1 - r6) + 1)) hx hb hr (fun t ht hW => ⟨((r1 - r6) + 1), rfl, ⟨er0, trivial⟩, ht⟩) (fun q h => by cases h) dX4_sentencesAmong_25
abbrev rmX4_hasClassAmong : Room := { frames := 2, cells := 0, slots := 0, locals := 43 }
set_option maxHeartbeats 8000000 in
set_option maxRecDepth 100000 in
theorem c_X4_hasClassAmong (l : Launch) (g : GG) (aW : Nat → Nat) (aP : Nat → Nat) (aQ : Nat → Nat) (n : Nat) (XW : DM) (p1 p2 p3 : Int32) (r : Int32) (hf : fX4_hasClassAmong n XW p1 p2 p3 = some r) : Met l yX4_hasClassAmong wsX4_hasClassAmong rmX4_hasClassAmong (va_Pc [.ref (aW 0), .int p1, .int p2, .int p3] (fun U => va_P g.1 vwCl (pW g aW (aP 0) (aQ 0) XW) U.heap ∧ KW g U)) (vp_Si (fun r' => r' = r ∧ narrow .boolean (.int r') = .int r')) 0 0 (fun _ => False) := by
  refine Met.ofW (cc := cX4_hasClassAmong) (maxL := 5) (ret := (some .boolean)) (by decide) rfl ?_
  intro p e s m args below meth c s₁ B hml hv
  obtain ⟨hargs, hP, hKW⟩ := hv
  have hK := hKW.1
  have hx := B.exec
  have hb := B.bytes
  have hr := B.returns
  have hts := atoms_spec (ws := wsX4_hasClassAmong) B.pre
  have hown : s.vm.findClass RX4 = some m.cls := findClass_of_methodNamed B.named
  have hlocks := B.notSynchronized
  have i_X4 : ∀ w ∈ wsX40, w ∈ wsX4_hasClassAmong := fun w h => List.mem_cons_of_mem _ (List.mem_append_right _ h)
  have hent : entryFrame m args 5 = F0 m 0 ((lg_sl ([.ref (aW 0), .int p1, .int p2, .int p3]) ++ List.replicate (5 - (lg_sl ([.ref (aW 0), .int p1, .int p2, .int p3])).length) Slot.unset).toArray) [] := by rw [hargs]; exact lg_entry_eq _ _ _
  rw [hent]
  have hl := lv_entry ([.ref (aW 0), .int p1, .int p2, .int p3]) (n := 5) (Nat.le_of_ble_eq_true rfl)
  generalize (lg_sl ([.ref (aW 0), .int p1, .int p2, .int p3]) ++ List.replicate (5 - (lg_sl ([.ref (aW 0), .int p1, .int p2, .int p3])).length) Slot.unset).toArray = ls at hl ⊢
  have hl : lv_has ls 5 [(0, .ref (aW 0)), (1, .int p1), (2, .int p2), (3, .int p3)] := hl
  generalize hQ0 : MQ below _ _ _ _ _ _ = Q0
  unfold fX4_hasClassAmong at hf
  refine lv_iload_n hx hb dX4_hasClassAmong_0 rfl (lv_at hl 2 rfl) ?_
  refine lv_istore (lv' := [(4, .int p2), (0, .ref (aW 0)), (1, .int p1), (2, .int p2), (3, .int p3)]) hx hb dX4_hasClassAmong_1 hl (by decide) rfl (fun ls hl => ?_)
  have L_3 : ∀ fu : Nat, ∀ (x1 x3 x4 : Int32) (ls : Array Slot), lv_has ls 5 [(0, .ref (aW 0)), (1, .int x1), (3, .int x3), (4, .int x4)] → fX4_hasClassAmong_L3 n XW fu x1 x3 x4 = some r → W p l e (headSpec wsX4_hasClassAmong rmX4_hasClassAmong).room s m args below meth c s.heap [] 0 0 Q0 (F0 m 3 ls []) := by
    intro fu
    induction fu with
    | zero => intros; rename_i hf; rw [fX4_hasClassAmong_L3] at hf; cases hf
    | succ fu ih =>
      intro x1 x3 x4 ls hl hf
      rw [fX4_hasClassAmong_L3] at hf
      refine lv_iload hx hb dX4_hasClassAmong_3 (lv_at hl 3 rfl) ?_
      refine lv_iload_n hx hb dX4_hasClassAmong_5 rfl (lv_at hl 2 rfl) ?_
      refine lv_icmp_gt (tgt := 36) hx hb dX4_hasClassAmong_6 (by decide) (fun c1 => ?_) (fun c1 => ?_)
      · have hf := ite_t hf c1
        refine lv_iconst (v := 0) hx hb dX4_hasClassAmong_36 (by decide) ?_
        have er0 := Option.some.inj hf
        rw [← hQ0]; exact W.zret (v := 0) hx hb hr rfl (fun t ht hW => ⟨0, rfl, ⟨er0, rfl⟩, ht⟩) (fun q h => by cases h) dX4_hasClassAmong_37
      · have hf := ite_f hf c1
        refine lv_aload_n hx hb dX4_hasClassAmong_9 rfl (lv_at hl 0 rfl) ?_
        refine lv_iload hx hb dX4_hasClassAmong_10 (lv_at hl 3 rfl) ?_
        obtain ⟨r2, h3, hf⟩ := bnd_el hf
        refine rdV (As := [.int x4]) (rest := []) ⟨hx, hb, hml, hown, hts⟩ (c_X4_isMark l g aW aP aQ _ _ _ h3) (cwV 1 hts gX4_hasClassAmong_X4_isMark rfl rfl rfl (by decide +kernel) ⟨Nat.le_of_ble_eq_true rfl, Nat.le_of_ble_eq_true rfl⟩) hKW hP [0, 1, 2, 3, 4, 5, 6] rfl (va_recv hK hP (ci := 4) (q0 := 0) rfl rfl) rfl hl.1 rfl (lv_room (Nat.le_of_ble_eq_true rfl)) dX4_hasClassAmong_12 ⟨Nat.zero_le _, Nat.zero_le _⟩ (fun r4 q5 => ?_)
        obtain ⟨q5, nb6⟩ := q5
        refine lv_as q5.symm ?_
        rw [q5] at nb6
        obtain ⟨j30, ej30, hf⟩ := sl_el hf
        have J_30 : ∀ (x1 x3 x4 : Int32) (ls : Array Slot), lv_has ls 5 [(0, .ref (aW 0)), (1, .int x1), (3, .int x3), (4, .int x4)] → j30 x1 x3 x4 = some r → W p l e (headSpec wsX4_hasClassAmong rmX4_hasClassAmong).room s m args below meth c s.heap [] 0 0 Q0 (F0 m 30 ls []) := by
          intro x1 x3 x4 ls hl hf
          rw [ej30] at hf
          obtain ⟨v7, e8, hf⟩ := sl_el hf
          refine lv_iinc (v := v7) (lv' := [(4, .int v7), (0, .ref (aW 0)), (1, .int x1), (3, .int x3)]) hx hb dX4_hasClassAmong_30 hl (k := 3) rfl (by rw [e8]; rfl) (by decide) rfl (fun ls hl => ?_)
          refine lv_goto (tgt := 3) hx hb dX4_hasClassAmong_33 (by decide) ?_
          exact ih x1 x3 v7 ls (lv_sub hl [1, 2, 3, 0] rfl) hf
        refine lv_if_ne (tgt := 30) hx hb dX4_hasClassAmong_15 (by decide) (fun c9 => ?_) (fun c9 => ?_)
        · have hf := ite_f hf c9
          exact J_30 x1 x3 x4 ls (lv_sub hl [0, 1, 2, 3] rfl) hf
        · have hf := ite_t hf c9
          refine lv_aload_n hx hb dX4_hasClassAmong_18 rfl (lv_at hl 0 rfl) ?_
          refine lv_iload hx hb dX4_hasClassAmong_19 (lv_at hl 3 rfl) ?_
          obtain ⟨r10, h11, hf⟩ := bnd_el hf
          refine rdV (As := [.int x4]) (rest := []) ⟨hx, hb, hml, hown, hts⟩ (c_X4_classOf l g aW aP aQ _ _ _ h11) (cwV 1 hts gX4_hasClassAmong_X4_classOf rfl rfl rfl (by decide +kernel) ⟨Nat.le_of_ble_eq_true rfl, Nat.le_of_ble_eq_true rfl⟩) hKW hP [0, 1, 2, 3, 4, 5, 6] rfl (va_recv hK hP (ci := 4) (q0 := 0) rfl rfl) rfl hl.1 rfl (lv_room (Nat.le_of_ble_eq_true rfl)) dX4_hasClassAmong_21 ⟨Nat.zero_le _, Nat.zero_le _⟩ (fun r12 q13 => ?_)
          obtain ⟨q13, nb14⟩ := q13
          refine lv_as q13.symm ?_
          refine lv_iload_n hx hb dX4_hasClassAmong_24 rfl (lv_at hl 1 rfl) ?_
          refine lv_icmp_ne (tgt := 30) hx hb dX4_hasClassAmong_25 (by decide) (fun c15 => ?_) (fun c15 => ?_)
          · have hf := ite_f hf c15
            exact J_30 x1 x3 x4 ls (lv_sub hl [0, 1, 2, 3] rfl) hf
          · have hf := ite_t hf c15
            refine lv_iconst (v := 1) hx hb dX4_hasClassAmong_28 (by decide) ?_
            have er0 := Option.some.inj hf
            rw [← hQ0]; exact W.zret (v := 1) hx hb hr rfl (fun t ht hW => ⟨1, rfl, ⟨er0, rfl⟩, ht⟩) (fun q h => by cases h) dX4_hasClassAmong_29
  exact L_3 n p1 p3 p2 ls (lv_sub hl [1, 2, 4, 0] rfl) hf
abbrev rmX4_shownBehind : Room := { frames := 2, cells := 0, slots := 0, locals := 42 }
set_option maxHeartbeats 8000000 in
set_option maxRecDepth 100000 in
theorem c_X4_shownBehind (l : Launch) (g : GG) (aW : Nat → Nat) (aP : Nat → Nat) (aQ : Nat → Nat) (n : Nat) (XW : DM) (p1 : Int32) (r : Int32) (hf : fX4_shownBehind n XW p1 = some r) : Met l yX4_shownBehind wsX4_shownBehind rmX4_shownBehind (va_Pc [.ref (aW 0), .int p1] (fun U => va_P g.1 vwCl (pW g aW (aP 0) (aQ 0) XW) U.heap ∧ KW g U)) (vp_Si (fun r' => r' = r ∧ True)) 0 0 (fun _ => False) := by
  refine Met.ofW (cc := cX4_shownBehind) (maxL := 3) (ret := (some .int)) (by decide) rfl ?_
  intro p e s m args below meth c s₁ B hml hv
  obtain ⟨hargs, hP, hKW⟩ := hv
  have hK := hKW.1
  have hx := B.exec
  have hb := B.bytes
  have hr := B.returns
  have hts := atoms_spec (ws := wsX4_shownBehind) B.pre
  have hown : s.vm.findClass RX4 = some m.cls := findClass_of_methodNamed B.named
  have hlocks := B.notSynchronized
  have i_X4 : ∀ w ∈ wsX40, w ∈ wsX4_shownBehind := fun w h => List.mem_cons_of_mem _ (List.mem_append_right _ h)
  have hent : entryFrame m args 3 = F0 m 0 ((lg_sl ([.ref (aW 0), .int p1]) ++ List.replicate (3 - (lg_sl ([.ref (aW 0), .int p1])).length) Slot.unset).toArray) [] := by rw [hargs]; exact lg_entry_eq _ _ _
  rw [hent]
  have hl := lv_entry ([.ref (aW 0), .int p1]) (n := 3) (Nat.le_of_ble_eq_true rfl)
  generalize (lg_sl ([.ref (aW 0), .int p1]) ++ List.replicate (3 - (lg_sl ([.ref (aW 0), .int p1])).length) Slot.unset).toArray = ls at hl ⊢
  have hl : lv_has ls 3 [(0, .ref (aW 0)), (1, .int p1)] := hl
  generalize hQ0 : MQ below _ _ _ _ _ _ = Q0
  unfold fX4_shownBehind at hf
  refine lv_iload_n hx hb dX4_shownBehind_0 rfl (lv_at hl 1 rfl) ?_
  refine lv_iconst (v := 1) hx hb dX4_shownBehind_1 (by decide) ?_
  refine lv_iadd hx hb dX4_shownBehind_2 ?_
  obtain ⟨v1, e2, hf⟩ := sl_el hf
  refine lv_as e2 ?_
  refine lv_istore_n (lv' := [(2, .int v1), (0, .ref (aW 0)), (1, .int p1)]) hx hb dX4_shownBehind_3 rfl hl (by decide) rfl (fun ls hl => ?_)
  have L_4 : ∀ fu : Nat, ∀ (x2 : Int32) (ls : Array Slot), lv_has ls 3 [(0, .ref (aW 0)), (2, .int x2)] → fX4_shownBehind_L4 n XW fu x2 = some r → W p l e (headSpec wsX4_shownBehind rmX4_shownBehind).room s m args below meth c s.heap [] 0 0 Q0 (F0 m 4 ls []) := by
    intro fu
    induction fu with
    | zero => intros; rename_i hf; rw [fX4_shownBehind_L4] at hf; cases hf
    | succ fu ih =>
      intro x2 ls hl hf
      rw [fX4_shownBehind_L4] at hf
      refine lv_iload_n hx hb dX4_shownBehind_4 rfl (lv_at hl 1 rfl) ?_
      refine lv_aload_n hx hb dX4_shownBehind_5 rfl (lv_at hl 0 rfl) ?_
      refine va_get (D := g.1) (ci := 4) (v := .int (XW 8 0)) (C := RX4) (T := TX4) (N := 9) hx hb hts i_X4 hown hK hP 0 rfl rfl 8 (by decide) (hts (.fieldLink RX4 40 "WordFlasher$Words" "many" "I") (List.mem_of_getElem? (i := 1) rfl)) (fun _ h9 => h9) rfl dX4_shownBehind_6 ?_
      refine lv_icmp_ge (tgt := 28) hx hb dX4_shownBehind_9 (by decide) (fun c3 => ?_) (fun c3 => ?_)
      · have hf := ite_t hf c3
        refine lv_iconst (v := (-1)) hx hb dX4_shownBehind_28 (by decide) ?_
        have er0 := Option.some.inj hf
        rw [← hQ0]; exact W.iret (v := (-1)) hx hb hr (fun t ht hW => ⟨(-1), rfl, ⟨er0, trivial⟩, ht⟩) (fun q h => by cases h) dX4_shownBehind_29
      · have hf := ite_f hf c3
        refine lv_aload_n hx hb dX4_shownBehind_12 rfl (lv_at hl 0 rfl) ?_
        refine lv_iload_n hx hb dX4_shownBehind_13 rfl (lv_at hl 1 rfl) ?_
        obtain ⟨r4, h5, hf⟩ := bnd_el hf
        refine rdV (As := [.int x2]) (rest := []) ⟨hx, hb, hml, hown, hts⟩ (c_X4_isMark l g aW aP aQ _ _ _ h5) (cwV 1 hts gX4_shownBehind_X4_isMark rfl rfl rfl (by decide +kernel) ⟨Nat.le_of_ble_eq_true rfl, Nat.le_of_ble_eq_true rfl⟩) hKW hP [0, 1, 2, 3, 4, 5, 6] rfl (va_recv hK hP (ci := 4) (q0 := 0) rfl rfl) rfl hl.1 rfl (lv_room (Nat.le_of_ble_eq_true rfl)) dX4_shownBehind_14 ⟨Nat.zero_le _, Nat.zero_le _⟩ (fun r6 q7 => ?_)
        obtain ⟨q7, nb8⟩ := q7
        refine lv_as q7.symm ?_
        rw [q7] at nb8
        refine lv_if_ne (tgt := 22) hx hb dX4_shownBehind_17 (by decide) (fun c9 => ?_) (fun c9 => ?_)
        · have hf := ite_f hf c9
          obtain ⟨v10, e11, hf⟩ := sl_el hf
          refine lv_iinc (v := v10) (lv' := [(2, .int v10), (0, .ref (aW 0))]) hx hb dX4_shownBehind_22 hl (k := 1) rfl (by rw [e11]; rfl) (by decide) rfl (fun ls hl => ?_)
          refine lv_goto (tgt := 4) hx hb dX4_shownBehind_25 (by decide) ?_
          exact ih v10 ls (lv_sub hl [1, 0] rfl) hf
        · have hf := ite_t hf c9
          refine lv_iload_n hx hb dX4_shownBehind_20 rfl (lv_at hl 1 rfl) ?_
          have er0 := Option.some.inj hf
          rw [← hQ0]; exact W.iret (v := x2) hx hb hr (fun t ht hW => ⟨x2, rfl, ⟨er0, trivial⟩, ht⟩) (fun q h => by cases h) dX4_shownBehind_21
  exact L_4 n v1 ls (lv_sub hl [1, 0] rfl) hf
abbrev rmX4_endsAheadOf : Room := { frames := 1, cells := 0, slots := 0, locals := 21 }
set_option maxHeartbeats 8000000 in
set_option maxRecDepth 100000 in
theorem c_X4_endsAheadOf (l : Launch) (g : GG) (aW : Nat → Nat) (aP : Nat → Nat) (aQ : Nat → Nat) (XW : DM) (XP : DM) (p1 p2 : Int32) (r : Int32) (hf : fX4_endsAheadOf XW XP p1 p2 = some r) : Met l yX4_endsAheadOf wsX4_endsAheadOf rmX4_endsAheadOf (va_Pc [.ref (aW 0), .int p1, .int p2] (fun U => va_P g.1 vwCl (pW g aW (aP 0) (aQ 0) XW ++ (pP g aP XP)) U.heap ∧ KW g U)) (vp_Si (fun r' => r' = r ∧ narrow .boolean (.int r') = .int r')) 0 0 (fun _ => False) := by
  refine Met.ofW (cc := cX4_endsAheadOf) (maxL := 3) (ret := (some .boolean)) (by decide) rfl ?_
  intro p e s m args below meth c s₁ B hml hv
  obtain ⟨hargs, hP, hKW⟩ := hv
  have hK := hKW.1
  have hx := B.exec
  have hb := B.bytes
  have hr := B.returns
  have hts := atoms_spec (ws := wsX4_endsAheadOf) B.pre
  have hown : s.vm.findClass RX4 = some m.cls := findClass_of_methodNamed B.named
  have hlocks := B.notSynchronized
  have i_X4 : ∀ w ∈ wsX40, w ∈ wsX4_endsAheadOf := fun w h => List.mem_cons_of_mem _ (List.mem_append_left _ (List.mem_append_right _ h))
  have i_X2 : ∀ w ∈ wsX20, w ∈ wsX4_endsAheadOf := fun w h => List.mem_cons_of_mem _ (List.mem_append_right _ h)
  have hent : entryFrame m args 3 = F0 m 0 ((lg_sl ([.ref (aW 0), .int p1, .int p2]) ++ List.replicate (3 - (lg_sl ([.ref (aW 0), .int p1, .int p2])).length) Slot.unset).toArray) [] := by rw [hargs]; exact lg_entry_eq _ _ _
  rw [hent]
  have hl := lv_entry ([.ref (aW 0), .int p1, .int p2]) (n := 3) (Nat.le_of_ble_eq_true rfl)
  generalize (lg_sl ([.ref (aW 0), .int p1, .int p2]) ++ List.replicate (3 - (lg_sl ([.ref (aW 0), .int p1, .int p2])).length) Slot.unset).toArray = ls at hl ⊢
  have hl : lv_has ls 3 [(0, .ref (aW 0)), (1, .int p1), (2, .int p2)] := hl
  generalize hQ0 : MQ below _ _ _ _ _ _ = Q0
  unfold fX4_endsAheadOf at hf
  refine lv_iload_n hx hb dX4_endsAheadOf_0 rfl (lv_at hl 1 rfl) ?_
  refine lv_iconst (v := (-1)) hx hb dX4_endsAheadOf_1 (by decide) ?_
  refine lv_icmp_eq (tgt := 30) hx hb dX4_endsAheadOf_2 (by decide) (fun c1 => ?_) (fun c1 => ?_)
  · have hf := ite_t hf c1
    refine lv_iconst (v := 1) hx hb dX4_endsAheadOf_30 (by decide) ?_
    refine lv_goto (tgt := 35) hx hb dX4_endsAheadOf_31 (by decide) ?_
    have er0 := Option.some.inj hf
    rw [← hQ0]; exact W.zret (v := 1) hx hb hr rfl (fun t ht hW => ⟨1, rfl, ⟨er0, rfl⟩, ht⟩) (fun q h => by cases h) dX4_endsAheadOf_35
  · have hf := ite_f hf c1
    refine lv_aload_n hx hb dX4_endsAheadOf_5 rfl (lv_at hl 0 rfl) ?_
    refine va_get (D := g.1) (ci := 4) (v := .ref (aP 0)) (C := RX4) (T := TX4) (N := 9) hx hb hts i_X4 hown hK hP 0 rfl rfl 6 (by decide) (hts (.fieldLink RX4 33 "WordFlasher$Words" "sentences" "LWordFlasher$Spans;") (List.mem_of_getElem? (i := 1) rfl)) (fun _ h9 => h9) rfl dX4_endsAheadOf_6 ?_
    refine va_get (D := g.1) (ci := 2) (v := .ref (aP 3)) (C := RX2) (T := TX2) (N := 4) hx hb hts i_X2 hown hK hP 7 rfl rfl 2 (by decide) (hts (.fieldLink RX4 85 "WordFlasher$Spans" "numbers" "[I") (List.mem_of_getElem? (i := 2) rfl)) (fun _ h9 => h9) rfl dX4_endsAheadOf_9 ?_
    refine lv_iload_n hx hb dX4_endsAheadOf_12 rfl (lv_at hl 1 rfl) ?_
    obtain ⟨r2, h3, hf⟩ := bnd_el hf
    refine rdN (As := [.ref (aP 3), .int p1]) (rest := []) ⟨hx, hb, hml, hown, hts⟩ (c_X5_at l g (aP 3) 150 _ _ _ h3) ⟨va_cnB 2 hts gX4_endsAheadOf_X5_at_n44 rfl rfl rfl (hKW.2 _ (List.mem_of_getElem? (i := 5) rfl)) (hts (.initialized RX5) (List.mem_of_getElem? (i := 4) rfl)) (by decide +kernel) ⟨Nat.le_of_ble_eq_true rfl, Nat.le_of_ble_eq_true rfl⟩, (hts (.static yX5_at) (List.mem_of_getElem? (i := 3) rfl)), trivial⟩ hKW hP [10] rfl rfl hl.1 rfl (lv_room (Nat.le_of_ble_eq_true rfl)) dX4_endsAheadOf_13 ⟨Nat.zero_le _, Nat.zero_le _⟩ (fun r4 q5 => ?_)
    obtain ⟨q5, nb6⟩ := q5
    refine lv_as q5.symm ?_
    refine lv_aload_n hx hb dX4_endsAheadOf_16 rfl (lv_at hl 0 rfl) ?_
    refine va_get (D := g.1) (ci := 4) (v := .ref (aP 0)) (C := RX4) (T := TX4) (N := 9) hx hb hts i_X4 hown hK hP 0 rfl rfl 6 (by decide) (hts (.fieldLink RX4 33 "WordFlasher$Words" "sentences" "LWordFlasher$Spans;") (List.mem_of_getElem? (i := 1) rfl)) (fun _ h9 => h9) rfl dX4_endsAheadOf_17 ?_
    refine va_get (D := g.1) (ci := 2) (v := .ref (aP 3)) (C := RX2) (T := TX2) (N := 4) hx hb hts i_X2 hown hK hP 7 rfl rfl 2 (by decide) (hts (.fieldLink RX4 85 "WordFlasher$Spans" "numbers" "[I") (List.mem_of_getElem? (i := 2) rfl)) (fun _ h9 => h9) rfl dX4_endsAheadOf_20 ?_
    refine lv_iload_n hx hb dX4_endsAheadOf_23 rfl (lv_at hl 2 rfl) ?_
    obtain ⟨r7, h8, hf⟩ := bnd_el hf
    refine rdN (As := [.ref (aP 3), .int p2]) (rest := [.int r2]) ⟨hx, hb, hml, hown, hts⟩ (c_X5_at l g (aP 3) 150 _ _ _ h8) ⟨va_cnB 2 hts gX4_endsAheadOf_X5_at_n44 rfl rfl rfl (hKW.2 _ (List.mem_of_getElem? (i := 5) rfl)) (hts (.initialized RX5) (List.mem_of_getElem? (i := 4) rfl)) (by decide +kernel) ⟨Nat.le_of_ble_eq_true rfl, Nat.le_of_ble_eq_true rfl⟩, (hts (.static yX5_at) (List.mem_of_getElem? (i := 3) rfl)), trivial⟩ hKW hP [10] rfl rfl hl.1 rfl (lv_room (Nat.le_of_ble_eq_true rfl)) dX4_endsAheadOf_24 ⟨Nat.zero_le _, Nat.zero_le _⟩ (fun r9 q10 => ?_)
    obtain ⟨q10, nb11⟩ := q10
    refine lv_as q10.symm ?_
    refine lv_icmp_eq (tgt := 34) hx hb dX4_endsAheadOf_27 (by decide) (fun c12 => ?_) (fun c12 => ?_)
    · have hf := ite_t hf c12
      refine lv_iconst (v := 0) hx hb dX4_endsAheadOf_34 (by decide) ?_
      have er0 := Option.some.inj hf
      rw [← hQ0]; exact W.zret (v := 0) hx hb hr rfl (fun t ht hW => ⟨0, rfl, ⟨er0, rfl⟩, ht⟩) (fun q h => by cases h) dX4_endsAheadOf_35
    · have hf := ite_f hf c12
      refine lv_iconst (v := 1) hx hb dX4_endsAheadOf_30 (by decide) ?_
      refine lv_goto (tgt := 35) hx hb dX4_endsAheadOf_31 (by decide) ?_
      have er0 := Option.some.inj hf
      rw [← hQ0]; exact W.zret (v := 1) hx hb hr rfl (fun t ht hW => ⟨1, rfl, ⟨er0, rfl⟩, ht⟩) (fun q h => by cases h) dX4_endsAheadOf_35
abbrev rmX4_firstBeforeSentence : Room := { frames := 2, cells := 0, slots := 0, locals := 42 }
set_option maxHeartbeats 8000000 in
set_option maxRecDepth 100000 in
theorem c_X4_firstBeforeSentence (l : Launch) (g : GG) (aW : Nat → Nat) (aP : Nat → Nat) (aQ : Nat → Nat) (n : Nat) (XW : DM) (XP : DM) (p1 : Int32) (r : Int32) (hf : fX4_firstBeforeSentence n XW XP p1 = some r) : Met l yX4_firstBeforeSentence wsX4_firstBeforeSentence rmX4_firstBeforeSentence (va_Pc [.ref (aW 0), .int p1] (fun U => va_P g.1 vwCl (pW g aW (aP 0) (aQ 0) XW ++ (pP g aP XP)) U.heap ∧ KW g U)) (vp_Si (fun r' => r' = r ∧ True)) 0 0 (fun _ => False) := by
  refine Met.ofW (cc := cX4_firstBeforeSentence) (maxL := 4) (ret := (some .int)) (by decide) rfl ?_
  intro p e s m args below meth c s₁ B hml hv
  obtain ⟨hargs, hP, hKW⟩ := hv
  have hK := hKW.1
  have hx := B.exec
  have hb := B.bytes
  have hr := B.returns
  have hts := atoms_spec (ws := wsX4_firstBeforeSentence) B.pre
  have hown : s.vm.findClass RX4 = some m.cls := findClass_of_methodNamed B.named
  have hlocks := B.notSynchronized
  have i_X4 : ∀ w ∈ wsX40, w ∈ wsX4_firstBeforeSentence := fun w h => List.mem_cons_of_mem _ (List.mem_append_left _ (List.mem_append_right _ h))
  have i_X2 : ∀ w ∈ wsX20, w ∈ wsX4_firstBeforeSentence := fun w h => List.mem_cons_of_mem _ (List.mem_append_right _ h)
  have hent : entryFrame m args 4 = F0 m 0 ((lg_sl ([.ref (aW 0), .int p1]) ++ List.replicate (4 - (lg_sl ([.ref (aW 0), .int p1])).length) Slot.unset).toArray) [] := by rw [hargs]; exact lg_entry_eq _ _ _
  rw [hent]
  have hl := lv_entry ([.ref (aW 0), .int p1]) (n := 4) (Nat.le_of_ble_eq_true rfl)
  generalize (lg_sl ([.ref (aW 0), .int p1]) ++ List.replicate (4 - (lg_sl ([.ref (aW 0), .int p1])).length) Slot.unset).toArray = ls at hl ⊢
  have hl : lv_has ls 4 [(0, .ref (aW 0)), (1, .int p1)] := hl
  generalize hQ0 : MQ below _ _ _ _ _ _ = Q0
  unfold fX4_firstBeforeSentence at hf
  refine lv_iload_n hx hb dX4_firstBeforeSentence_0 rfl (lv_at hl 1 rfl) ?_
  refine lv_iconst (v := 1) hx hb dX4_firstBeforeSentence_1 (by decide) ?_
  refine lv_isub hx hb dX4_firstBeforeSentence_2 ?_
  obtain ⟨v1, e2, hf⟩ := sl_el hf
  refine lv_as e2 ?_
  refine lv_istore_n (lv' := [(2, .int v1), (0, .ref (aW 0)), (1, .int p1)]) hx hb dX4_firstBeforeSentence_3 rfl hl (by decide) rfl (fun ls hl => ?_)
  have L_4 : ∀ fu : Nat, ∀ (x2 : Int32) (ls : Array Slot), lv_has ls 4 [(0, .ref (aW 0)), (2, .int x2)] → fX4_firstBeforeSentence_L4 n XW XP fu x2 = some r → W p l e (headSpec wsX4_firstBeforeSentence rmX4_firstBeforeSentence).room s m args below meth c s.heap [] 0 0 Q0 (F0 m 4 ls []) := by
    intro fu
    induction fu with
    | zero => intros; rename_i hf; rw [fX4_firstBeforeSentence_L4] at hf; cases hf
    | succ fu ih =>
      intro x2 ls hl hf
      rw [fX4_firstBeforeSentence_L4] at hf
      refine lv_iload_n hx hb dX4_firstBeforeSentence_4 rfl (lv_at hl 1 rfl) ?_
      refine lv_if_lt (tgt := 36) hx hb dX4_firstBeforeSentence_5 (by decide) (fun c3 => ?_) (fun c3 => ?_)
      · have hf := ite_t hf c3
        refine lv_iconst (v := (-1)) hx hb dX4_firstBeforeSentence_36 (by decide) ?_
        have er0 := Option.some.inj hf
        rw [← hQ0]; exact W.iret (v := (-1)) hx hb hr (fun t ht hW => ⟨(-1), rfl, ⟨er0, trivial⟩, ht⟩) (fun q h => by cases h) dX4_firstBeforeSentence_37
      · have hf := ite_f hf c3
        refine lv_aload_n hx hb dX4_firstBeforeSentence_8 rfl (lv_at hl 0 rfl) ?_
        refine va_get (D := g.1) (ci := 4) (v := .ref (aP 0)) (C := RX4) (T := TX4) (N := 9) hx hb hts i_X4 hown hK hP 0 rfl rfl 6 (by decide) (hts (.fieldLink RX4 33 "WordFlasher$Words" "sentences" "LWordFlasher$Spans;") (List.mem_of_getElem? (i := 1) rfl)) (fun _ h9 => h9) rfl dX4_firstBeforeSentence_9 ?_
        refine va_get (D := g.1) (ci := 2) (v := .ref (aP 1)) (C := RX2) (T := TX2) (N := 4) hx hb hts i_X2 hown hK hP 7 rfl rfl 0 (by decide) (hts (.fieldLink RX4 91 "WordFlasher$Spans" "firsts" "[I") (List.mem_of_getElem? (i := 2) rfl)) (fun _ h9 => h9) rfl dX4_firstBeforeSentence_12 ?_
        refine lv_iload_n hx hb dX4_firstBeforeSentence_15 rfl (lv_at hl 1 rfl) ?_
        obtain ⟨r4, h5, hf⟩ := bnd_el hf
        refine rdN (As := [.ref (aP 1), .int x2]) (rest := []) ⟨hx, hb, hml, hown, hts⟩ (c_X5_at l g (aP 1) 150 _ _ _ h5) ⟨va_cnB 2 hts gX4_firstBeforeSentence_X5_at_n44 rfl rfl rfl (hKW.2 _ (List.mem_of_getElem? (i := 5) rfl)) (hts (.initialized RX5) (List.mem_of_getElem? (i := 4) rfl)) (by decide +kernel) ⟨Nat.le_of_ble_eq_true rfl, Nat.le_of_ble_eq_true rfl⟩, (hts (.static yX5_at) (List.mem_of_getElem? (i := 3) rfl)), trivial⟩ hKW hP [8] rfl rfl hl.1 rfl (lv_room (Nat.le_of_ble_eq_true rfl)) dX4_firstBeforeSentence_16 ⟨Nat.zero_le _, Nat.zero_le _⟩ (fun r6 q7 => ?_)
        obtain ⟨q7, nb8⟩ := q7
        refine lv_as q7.symm ?_
        refine lv_istore_n (lv' := [(3, .int r4), (0, .ref (aW 0)), (2, .int x2)]) hx hb dX4_firstBeforeSentence_19 rfl hl (by decide) rfl (fun ls hl => ?_)
        refine lv_aload_n hx hb dX4_firstBeforeSentence_20 rfl (lv_at hl 1 rfl) ?_
        refine lv_iload_n hx hb dX4_firstBeforeSentence_21 rfl (lv_at hl 0 rfl) ?_
        obtain ⟨r9, h10, hf⟩ := bnd_el hf
        refine rdV (As := [.int r4]) (rest := []) ⟨hx, hb, hml, hown, hts⟩ (c_X4_isMark l g aW aP aQ _ _ _ h10) (cwV 1 hts gX4_firstBeforeSentence_X4_isMark rfl rfl rfl (by decide +kernel) ⟨Nat.le_of_ble_eq_true rfl, Nat.le_of_ble_eq_true rfl⟩) hKW hP [0, 1, 2, 3, 4, 5, 6] rfl (va_recv hK hP (ci := 4) (q0 := 0) rfl rfl) rfl hl.1 rfl (lv_room (Nat.le_of_ble_eq_true rfl)) dX4_firstBeforeSentence_22 ⟨Nat.zero_le _, Nat.zero_le _⟩ (fun r11 q12 => ?_)
        obtain ⟨q12, nb13⟩ := q12
        refine lv_as q12.symm ?_
        rw [q12] at nb13
        refine lv_if_ne (tgt := 30) hx hb dX4_firstBeforeSentence_25 (by decide) (fun c14 => ?_) (fun c14 => ?_)
        · have hf := ite_f hf c14
          obtain ⟨v15, e16, hf⟩ := sl_el hf
          refine lv_iinc (v := v15) (lv' := [(2, .int v15), (3, .int r4), (0, .ref (aW 0))]) hx hb dX4_firstBeforeSentence_30 hl (k := 2) rfl (by rw [e16]; rfl) (by decide) rfl (fun ls hl => ?_)
          refine lv_goto (tgt := 4) hx hb dX4_firstBeforeSentence_33 (by decide) ?_
          exact ih v15 ls (lv_sub hl [2, 0] rfl) hf
        · have hf := ite_t hf c14
          refine lv_iload_n hx hb dX4_firstBeforeSentence_28 rfl (lv_at hl 0 rfl) ?_
          have er0 := Option.some.inj hf
          rw [← hQ0]; exact W.iret (v := r4) hx hb hr (fun t ht hW => ⟨r4, rfl, ⟨er0, trivial⟩, ht⟩) (fun q h => by cases h) dX4_firstBeforeSentence_29
  exact L_4 n v1 ls (lv_sub hl [1, 0] rfl) hf
abbrev rmX4_letterIn : Room := { frames := 2, cells := 0, slots := 0, locals := 40 }
set_option maxHeartbeats 8000000 in
set_option maxRecDepth 100000 in
theorem c_X4_letterIn (l : Launch) (g : GG) (b1 N1 : Nat) (aW : Nat → Nat) (n : Nat) (fr1 : (Nat → Int32)) (p2 p3 p4 : Int32) (r : Int32) (hf : fX4_letterIn n N1 fr1 p2 p3 p4 = some r) : Met l yX4_letterIn wsX4_letterIn rmX4_letterIn (va_Pc [.ref (aW 0), .ref b1, .int p2, .int p3, .int p4] (fun U => va_P g.1 vwCl (pR g b1 N1 fr1) U.heap ∧ KW g U)) (vp_Si (fun r' => r' = r ∧ True)) 0 0 (fun _ => False) := by
  refine Met.ofW (cc := cX4_letterIn) (maxL := 7) (ret := (some .int)) (by decide) rfl ?_
  intro p e s m args below meth c s₁ B hml hv
  obtain ⟨hargs, hP, hKW⟩ := hv
  have hK := hKW.1
  have hx := B.exec
  have hb := B.bytes
  have hr := B.returns
  have hts := atoms_spec (ws := wsX4_letterIn) B.pre
  have hown : s.vm.findClass RX4 = some m.cls := findClass_of_methodNamed B.named
  have hlocks := B.notSynchronized
  have hent : entryFrame m args 7 = F0 m 0 ((lg_sl ([.ref (aW 0), .ref b1, .int p2, .int p3, .int p4]) ++ List.replicate (7 - (lg_sl ([.ref (aW 0), .ref b1, .int p2, .int p3, .int p4])).length) Slot.unset).toArray) [] := by rw [hargs]; exact lg_entry_eq _ _ _
  rw [hent]
  have hl := lv_entry ([.ref (aW 0), .ref b1, .int p2, .int p3, .int p4]) (n := 7) (Nat.le_of_ble_eq_true rfl)
  generalize (lg_sl ([.ref (aW 0), .ref b1, .int p2, .int p3, .int p4]) ++ List.replicate (7 - (lg_sl ([.ref (aW 0), .ref b1, .int p2, .int p3, .int p4])).length) Slot.unset).toArray = ls at hl ⊢
  have hl : lv_has ls 7 [(0, .ref (aW 0)), (1, .ref b1), (2, .int p2), (3, .int p3), (4, .int p4)] := hl
  generalize hQ0 : MQ below _ _ _ _ _ _ = Q0
  unfold fX4_letterIn at hf
  refine lv_iconst (v := 0) hx hb dX4_letterIn_0 (by decide) ?_
  refine lv_istore (lv' := [(5, .int 0), (0, .ref (aW 0)), (1, .ref b1), (2, .int p2), (3, .int p3), (4, .int p4)]) hx hb dX4_letterIn_1 hl (by decide) rfl (fun ls hl => ?_)
  refine lv_iload_n hx hb dX4_letterIn_3 rfl (lv_at hl 3 rfl) ?_
  refine lv_istore (lv' := [(6, .int p2), (5, .int 0), (0, .ref (aW 0)), (1, .ref b1), (2, .int p2), (3, .int p3), (4, .int p4)]) hx hb dX4_letterIn_4 hl (by decide) rfl (fun ls hl => ?_)
  obtain ⟨j31, ej31, hf⟩ := sl_el hf
  have J_31 : ∀ (x2 x6 : Int32) (ls : Array Slot), lv_has ls 7 [(2, .int x2), (6, .int x6)] → j31 x2 x6 = some r → W p l e (headSpec wsX4_letterIn rmX4_letterIn).room s m args below meth c s.heap [] 0 0 Q0 (F0 m 31 ls []) := by
    intro x2 x6 ls hl hf
    rw [ej31] at hf
    refine lv_iload hx hb dX4_letterIn_31 (lv_at hl 1 rfl) ?_
    refine lv_iload_n hx hb dX4_letterIn_33 rfl (lv_at hl 0 rfl) ?_
    refine lv_isub hx hb dX4_letterIn_34 ?_
    have er0 := Option.some.inj hf
    rw [← hQ0]; exact W.iret (v := (x6 - x2)) hx hb hr (fun t ht hW => ⟨(x6 - x2), rfl, ⟨er0, trivial⟩, ht⟩) (fun q h => by cases h) dX4_letterIn_35
  have L_6 : ∀ fu : Nat, ∀ (x2 x3 x4 x5 x6 : Int32) (ls : Array Slot), lv_has ls 7 [(1, .ref b1), (2, .int x2), (3, .int x3), (4, .int x4), (5, .int x5), (6, .int x6)] → fX4_letterIn_L6 n N1 fr1 j31 fu x2 x3 x4 x5 x6 = some r → W p l e (headSpec wsX4_letterIn rmX4_letterIn).room s m args below meth c s.heap [] 0 0 Q0 (F0 m 6 ls []) := by
    intro fu
    induction fu with
    | zero => intros; rename_i hf; rw [fX4_letterIn_L6] at hf; cases hf
    | succ fu ih =>
      intro x2 x3 x4 x5 x6 ls hl hf
      rw [fX4_letterIn_L6] at hf
      refine lv_iload hx hb dX4_letterIn_6 (lv_at hl 5 rfl) ?_
      refine lv_iload_n hx hb dX4_letterIn_8 rfl (lv_at hl 2 rfl) ?_
      refine lv_icmp_ge (tgt := 45) hx hb dX4_letterIn_9 (by decide) (fun c1 => ?_) (fun c1 => ?_)
      · have hf := ite_t hf c1
        refine lv_iconst (v := (-1)) hx hb dX4_letterIn_45 (by decide) ?_
        have er0 := Option.some.inj hf
        rw [← hQ0]; exact W.iret (v := (-1)) hx hb hr (fun t ht hW => ⟨(-1), rfl, ⟨er0, trivial⟩, ht⟩) (fun q h => by cases h) dX4_letterIn_46
      · have hf := ite_f hf c1
        refine lv_aload_n hx hb dX4_letterIn_12 rfl (lv_at hl 0 rfl) ?_
        refine lv_iload hx hb dX4_letterIn_13 (lv_at hl 5 rfl) ?_
        obtain ⟨r2, h3, hf⟩ := bnd_el hf
        refine rdN (As := [.ref b1, .int x6]) (rest := []) ⟨hx, hb, hml, hown, hts⟩ (c_X5_at l g b1 N1 _ _ _ h3) ⟨va_cnB 2 hts gX4_letterIn_X5_at_n44 rfl rfl rfl (hKW.2 _ (List.mem_of_getElem? (i := 5) rfl)) (hts (.initialized RX5) (List.mem_of_getElem? (i := 2) rfl)) (by decide +kernel) ⟨Nat.le_of_ble_eq_true rfl, Nat.le_of_ble_eq_true rfl⟩, (hts (.static yX5_at) (List.mem_of_getElem? (i := 1) rfl)), trivial⟩ hKW hP [0] rfl rfl hl.1 rfl (lv_room (Nat.le_of_ble_eq_true rfl)) dX4_letterIn_15 ⟨Nat.zero_le _, Nat.zero_le _⟩ (fun r4 q5 => ?_)
        obtain ⟨q5, nb6⟩ := q5
        refine lv_as q5.symm ?_
        obtain ⟨r7, h8, hf⟩ := bnd_el hf
        refine rdN (As := [.int r2]) (rest := []) ⟨hx, hb, hml, hown, hts⟩ (c_X5_isLetter l g _ _ h8) ⟨va_cnB 1 hts gX4_letterIn_X5_isLetter_n55 rfl rfl rfl (hKW.2 _ (List.mem_of_getElem? (i := 4) rfl)) (hts (.initialized RX5) (List.mem_of_getElem? (i := 2) rfl)) (by decide +kernel) ⟨Nat.le_of_ble_eq_true rfl, Nat.le_of_ble_eq_true rfl⟩, (hts (.static yX5_isLetter) (List.mem_of_getElem? (i := 4) rfl)), trivial⟩ hKW hP [] rfl rfl hl.1 rfl (lv_room (Nat.le_of_ble_eq_true rfl)) dX4_letterIn_18 ⟨Nat.zero_le _, Nat.zero_le _⟩ (fun r9 q10 => ?_)
        obtain ⟨q10, nb11⟩ := q10
        refine lv_as q10.symm ?_
        rw [q10] at nb11
        obtain ⟨j39, ej39, hf⟩ := sl_el hf
        have J_39 : ∀ (x2 x3 x4 x5 x6 : Int32) (ls : Array Slot), lv_has ls 7 [(1, .ref b1), (2, .int x2), (3, .int x3), (4, .int x4), (5, .int x5), (6, .int x6)] → j39 x2 x3 x4 x5 x6 = some r → W p l e (headSpec wsX4_letterIn rmX4_letterIn).room s m args below meth c s.heap [] 0 0 Q0 (F0 m 39 ls []) := by
          intro x2 x3 x4 x5 x6 ls hl hf
          rw [ej39] at hf
          obtain ⟨v12, e13, hf⟩ := sl_el hf
          refine lv_iinc (v := v12) (lv' := [(6, .int v12), (1, .ref b1), (2, .int x2), (3, .int x3), (4, .int x4), (5, .int x5)]) hx hb dX4_letterIn_39 hl (k := 5) rfl (by rw [e13]; rfl) (by decide) rfl (fun ls hl => ?_)
          refine lv_goto (tgt := 6) hx hb dX4_letterIn_42 (by decide) ?_
          exact ih x2 x3 x4 x5 v12 ls (lv_sub hl [1, 2, 3, 4, 5, 0] rfl) hf
        refine lv_if_eq (tgt := 39) hx hb dX4_letterIn_21 (by decide) (fun c14 => ?_) (fun c14 => ?_)
        · have hf := ite_t hf c14
          exact J_39 x2 x3 x4 x5 x6 ls (lv_sub hl [0, 1, 2, 3, 4, 5] rfl) hf
        · have hf := ite_f hf c14
          refine lv_iload hx hb dX4_letterIn_24 (lv_at hl 4 rfl) ?_
          refine lv_iload hx hb dX4_letterIn_26 (lv_at hl 3 rfl) ?_
          refine lv_icmp_ne (tgt := 36) hx hb dX4_letterIn_28 (by decide) (fun c15 => ?_) (fun c15 => ?_)
          · have hf := ite_f hf c15
            obtain ⟨v16, e17, hf⟩ := sl_el hf
            refine lv_iinc (v := v16) (lv' := [(5, .int v16), (1, .ref b1), (2, .int x2), (3, .int x3), (4, .int x4), (6, .int x6)]) hx hb dX4_letterIn_36 hl (k := 4) rfl (by rw [e17]; rfl) (by decide) rfl (fun ls hl => ?_)
            exact J_39 x2 x3 x4 v16 x6 ls (lv_sub hl [1, 2, 3, 4, 0, 5] rfl) hf
          · have hf := ite_t hf c15
            exact J_31 x2 x6 ls (lv_sub hl [1, 5] rfl) hf
  exact L_6 n p2 p3 p4 0 p2 ls (lv_sub hl [3, 4, 5, 6, 1, 0] rfl) hf
abbrev rmX4_add : Room := { frames := 3, cells := 0, slots := 0, locals := 66 }
set_option maxHeartbeats 8000000 in
set_option maxRecDepth 100000 in
theorem c_X4_add (l : Launch) (g : GG) (b1 N1 : Nat) (aW : Nat → Nat) (aP : Nat → Nat) (aQ : Nat → Nat) (sz : Nat) (n : Nat) (fr1 : (Nat → Int32)) (XW : DM) (p2 p3 : Int32) (XWz : DM) (hf : fX4_add n N1 fr1 XW p2 p3 = some XWz) : Met l yX4_add wsX4_add rmX4_add (va_Pc [.ref (aW 0), .ref b1, .int p2, .int p3] (fun U => U.heap.size = sz ∧ va_P g.1 vwCl (pR g b1 N1 fr1 ++ (pW g aW (aP 0) (aQ 0) XW)) U.heap ∧ KW g U ∧ va_D (fun _ => True) (pR g b1 N1 fr1 ++ (pW g aW (aP 0) (aQ 0) XW)))) (va_Qv (fun (_ : Unit) => True) (fun (_ : Unit) t => va_P g.1 vwCl (pR g b1 N1 fr1 ++ (pW g aW (aP 0) (aQ 0) XWz)) t.heap) (va_A (pR g b1 N1 fr1 ++ (pW g aW (aP 0) (aQ 0) XW)) sz)) 0 0 (va_A (pR g b1 N1 fr1 ++ (pW g aW (aP 0) (aQ 0) XW)) sz) := by
  refine Met.ofW (cc := cX4_add) (maxL := 9) (ret := none) (by decide) rfl ?_
  intro p e s m args below meth c s₁ B hml hv
  obtain ⟨hargs, hsz, hP, hKW, hD0⟩ := hv
  have hK := hKW.1
  have hx := B.exec
  have hb := B.bytes
  have hr := B.returns
  have hts := atoms_spec (ws := wsX4_add) B.pre
  have hown : s.vm.findClass RX4 = some m.cls := findClass_of_methodNamed B.named
  have hlocks := B.notSynchronized
  subst hsz
  have hD := hD0.self (sz := s.heap.size)
  generalize hAe : va_A (pR g b1 N1 fr1 ++ (pW g aW (aP 0) (aQ 0) XW)) s.heap.size = A at hD ⊢
  have hA : ∀ q : Nat, s.heap.size ≤ q → A q := fun q h => by rw [← hAe]; exact Or.inr h
  have hS : va_S A s.heap s.heap [] := va_S.rf
  have i_X4 : ∀ w ∈ wsX40, w ∈ wsX4_add := fun w h => List.mem_cons_of_mem _ (List.mem_append_right _ h)
  have hent : entryFrame m args 9 = F0 m 0 ((lg_sl ([.ref (aW 0), .ref b1, .int p2, .int p3]) ++ List.replicate (9 - (lg_sl ([.ref (aW 0), .ref b1, .int p2, .int p3])).length) Slot.unset).toArray) [] := by rw [hargs]; exact lg_entry_eq _ _ _
  rw [hent]
  have hl := lv_entry ([.ref (aW 0), .ref b1, .int p2, .int p3]) (n := 9) (Nat.le_of_ble_eq_true rfl)
  generalize (lg_sl ([.ref (aW 0), .ref b1, .int p2, .int p3]) ++ List.replicate (9 - (lg_sl ([.ref (aW 0), .ref b1, .int p2, .int p3])).length) Slot.unset).toArray = ls at hl ⊢
  have hl : lv_has ls 9 [(0, .ref (aW 0)), (1, .ref b1), (2, .int p2), (3, .int p3)] := hl
  generalize hQ0 : MQ below _ _ _ _ _ _ = Q0
  unfold fX4_add at hf
  refine lv_iconst (v := 0) hx hb dX4_add_0 (by decide) ?_
  refine lv_istore (lv' := [(4, .int 0), (0, .ref (aW 0)), (1, .ref b1), (2, .int p2), (3, .int p3)]) hx hb dX4_add_1 hl (by decide) rfl (fun ls hl => ?_)
  refine lv_iconst (v := 0) hx hb dX4_add_3 (by decide) ?_
  refine lv_istore (lv' := [(5, .int 0), (4, .int 0), (0, .ref (aW 0)), (1, .ref b1), (2, .int p2), (3, .int p3)]) hx hb dX4_add_4 hl (by decide) rfl (fun ls hl => ?_)
  refine lv_iconst (v := (-1)) hx hb dX4_add_6 (by decide) ?_
  refine lv_istore (lv' := [(6, .int (-1)), (5, .int 0), (4, .int 0), (0, .ref (aW 0)), (1, .ref b1), (2, .int p2), (3, .int p3)]) hx hb dX4_add_7 hl (by decide) rfl (fun ls hl => ?_)
  refine lv_iload_n hx hb dX4_add_9 rfl (lv_at hl 5 rfl) ?_
  refine lv_istore (lv' := [(7, .int p2), (6, .int (-1)), (5, .int 0), (4, .int 0), (0, .ref (aW 0)), (1, .ref b1), (2, .int p2), (3, .int p3)]) hx hb dX4_add_10 hl (by decide) rfl (fun ls hl => ?_)
  obtain ⟨j66, ej66, hf⟩ := sl_el hf
  have J_66 : ∀ (x2 x3 x4 x5 x6 : Int32) (XW : DM) (H : Heap) (locs : List Loc) (ls : Array Slot), va_P g.1 vwCl (pR g b1 N1 fr1 ++ (pW g aW (aP 0) (aQ 0) XW)) H → va_D A (pR g b1 N1 fr1 ++ (pW g aW (aP 0) (aQ 0) XW)) → va_S A s.heap H locs → lv_has ls 9 [(0, .ref (aW 0)), (1, .ref b1), (2, .int x2), (3, .int x3), (4, .int x4), (5, .int x5), (6, .int x6)] → j66 x2 x3 x4 x5 x6 XW = some XWz → W p l e (headSpec wsX4_add rmX4_add).room s m args below meth c H locs 0 0 Q0 (F0 m 66 ls []) := by
    intro x2 x3 x4 x5 x6 XW H locs ls hP hD hS hl hf
    rw [ej66] at hf
    refine lv_iload_n hx hb dX4_add_66 rfl (lv_at hl 3 rfl) ?_
    refine lv_iload_n hx hb dX4_add_67 rfl (lv_at hl 2 rfl) ?_
    refine lv_isub hx hb dX4_add_68 ?_
    refine lv_iconst (v := 1) hx hb dX4_add_69 (by decide) ?_
    obtain ⟨j85, ej85, hf⟩ := sl_el hf
    have J_85 : ∀ (x2 x3 x4 x5 x6 k0 : Int32) (XW : DM) (H : Heap) (locs : List Loc) (ls : Array Slot), va_P g.1 vwCl (pR g b1 N1 fr1 ++ (pW g aW (aP 0) (aQ 0) XW)) H → va_D A (pR g b1 N1 fr1 ++ (pW g aW (aP 0) (aQ 0) XW)) → va_S A s.heap H locs → lv_has ls 9 [(0, .ref (aW 0)), (1, .ref b1), (2, .int x2), (3, .int x3), (4, .int x4), (5, .int x5), (6, .int x6)] → j85 x2 x3 x4 x5 x6 k0 XW = some XWz → W p l e (headSpec wsX4_add rmX4_add).room s m args below meth c H locs 0 0 Q0 (F0 m 85 ls [.int k0]) := by
      intro x2 x3 x4 x5 x6 k0 XW H locs ls hP hD hS hl hf
      rw [ej85] at hf
      refine lv_istore (lv' := [(7, .int k0), (0, .ref (aW 0)), (1, .ref b1), (2, .int x2), (3, .int x3), (4, .int x4), (5, .int x5), (6, .int x6)]) hx hb dX4_add_85 hl (by decide) rfl (fun ls hl => ?_)
      refine lv_aload_n hx hb dX4_add_87 rfl (lv_at hl 1 rfl) ?_
      refine va_get (D := g.1) (ci := 4) (v := .ref (aW 1)) (C := RX4) (T := TX4) (N := 9) hx hb hts i_X4 hown hK hP 1 rfl rfl 0 (by decide) (hts (.fieldLink RX4 9 "WordFlasher$Words" "starts" "[I") (List.mem_of_getElem? (i := 1) rfl)) (fun _ h9 => h9) rfl dX4_add_88 ?_
      refine lv_aload_n hx hb dX4_add_91 rfl (lv_at hl 1 rfl) ?_
      refine va_get (D := g.1) (ci := 4) (v := .int (XW 8 0)) (C := RX4) (T := TX4) (N := 9) hx hb hts i_X4 hown hK hP 1 rfl rfl 8 (by decide) (hts (.fieldLink RX4 40 "WordFlasher$Words" "many" "I") (List.mem_of_getElem? (i := 2) rfl)) (fun _ h9 => h9) rfl dX4_add_92 ?_
      refine lv_iload_n hx hb dX4_add_95 rfl (lv_at hl 3 rfl) ?_
      obtain ⟨f1, h2, hf⟩ := bnd_el hf
      obtain ⟨X3, e4, hf⟩ := sl_el hf
      refine wr_v (rest := []) (wc := (pR g (aW 1) 150 (XW 0))) (wc' := (pR g (aW 1) 150 f1)) (ws2 := (pR g b1 N1 fr1 ++ (pW g aW (aP 0) (aQ 0) X3))) hP hD hS hA [2] rfl rfl (by subst e4; rfl) (rnN (As := [.ref (aW 1), .int (XW 8 0), .int x2]) ⟨hx, hb, hml, hown, hts⟩ (c_X5_put l g (aW 1) 150 _ _ _ _ _ h2) ⟨va_cnB 3 hts gX4_add_X5_put_n65 rfl rfl rfl (hKW.2 _ (List.mem_of_getElem? (i := 1) rfl)) (hts (.initialized RX5) (List.mem_of_getElem? (i := 9) rfl)) (by decide +kernel) ⟨Nat.le_of_ble_eq_true rfl, Nat.le_of_ble_eq_true rfl⟩, (hts (.static yX5_put) (List.mem_of_getElem? (i := 18) rfl)), trivial⟩ hKW hP hD [2] (by decide) rfl rfl hl.1 rfl (lv_room (Nat.le_of_ble_eq_true rfl)) dX4_add_96 ⟨Nat.zero_le _, Nat.zero_le _⟩) (fun H locs hP hD hS => ?_)
      refine lv_aload_n hx hb dX4_add_99 rfl (lv_at hl 1 rfl) ?_
      refine va_get (D := g.1) (ci := 4) (v := .ref (aW 2)) (C := RX4) (T := TX4) (N := 9) hx hb hts i_X4 hown hK hP 1 rfl rfl 1 (by decide) (hts (.fieldLink RX4 15 "WordFlasher$Words" "sizes" "[I") (List.mem_of_getElem? (i := 3) rfl)) (fun _ h9 => h9) rfl dX4_add_100 ?_
      refine lv_aload_n hx hb dX4_add_103 rfl (lv_at hl 1 rfl) ?_
      refine va_get (D := g.1) (ci := 4) (v := .int (X3 8 0)) (C := RX4) (T := TX4) (N := 9) hx hb hts i_X4 hown hK hP 1 rfl rfl 8 (by decide) (hts (.fieldLink RX4 40 "WordFlasher$Words" "many" "I") (List.mem_of_getElem? (i := 2) rfl)) (fun _ h9 => h9) rfl dX4_add_104 ?_
      refine lv_iload_n hx hb dX4_add_107 rfl (lv_at hl 4 rfl) ?_
      refine lv_iload_n hx hb dX4_add_108 rfl (lv_at hl 3 rfl) ?_
      refine lv_isub hx hb dX4_add_109 ?_
      obtain ⟨f5, h6, hf⟩ := bnd_el hf
      obtain ⟨X7, e8, hf⟩ := sl_el hf
      refine wr_v (rest := []) (wc := (pR g (aW 2) 150 (X3 1))) (wc' := (pR g (aW 2) 150 f5)) (ws2 := (pR g b1 N1 fr1 ++ (pW g aW (aP 0) (aQ 0) X7))) hP hD hS hA [3] rfl rfl (by subst e8; rfl) (rnN (As := [.ref (aW 2), .int (X3 8 0), .int (x3 - x2)]) ⟨hx, hb, hml, hown, hts⟩ (c_X5_put l g (aW 2) 150 _ _ _ _ _ h6) ⟨va_cnB 3 hts gX4_add_X5_put_n65 rfl rfl rfl (hKW.2 _ (List.mem_of_getElem? (i := 1) rfl)) (hts (.initialized RX5) (List.mem_of_getElem? (i := 9) rfl)) (by decide +kernel) ⟨Nat.le_of_ble_eq_true rfl, Nat.le_of_ble_eq_true rfl⟩, (hts (.static yX5_put) (List.mem_of_getElem? (i := 18) rfl)), trivial⟩ hKW hP hD [3] (by decide) rfl rfl hl.1 rfl (lv_room (Nat.le_of_ble_eq_true rfl)) dX4_add_110 ⟨Nat.zero_le _, Nat.zero_le _⟩) (fun H locs hP hD hS => ?_)
      refine lv_aload_n hx hb dX4_add_113 rfl (lv_at hl 1 rfl) ?_
      refine va_get (D := g.1) (ci := 4) (v := .ref (aW 3)) (C := RX4) (T := TX4) (N := 9) hx hb hts i_X4 hown hK hP 1 rfl rfl 2 (by decide) (hts (.fieldLink RX4 18 "WordFlasher$Words" "lengths" "[I") (List.mem_of_getElem? (i := 4) rfl)) (fun _ h9 => h9) rfl dX4_add_114 ?_
      refine lv_aload_n hx hb dX4_add_117 rfl (lv_at hl 1 rfl) ?_
      refine va_get (D := g.1) (ci := 4) (v := .int (X7 8 0)) (C := RX4) (T := TX4) (N := 9) hx hb hts i_X4 hown hK hP 1 rfl rfl 8 (by decide) (hts (.fieldLink RX4 40 "WordFlasher$Words" "many" "I") (List.mem_of_getElem? (i := 2) rfl)) (fun _ h9 => h9) rfl dX4_add_118 ?_
      refine lv_iload hx hb dX4_add_121 (lv_at hl 5 rfl) ?_
      obtain ⟨f9, h10, hf⟩ := bnd_el hf
      obtain ⟨X11, e12, hf⟩ := sl_el hf
      refine wr_v (rest := []) (wc := (pR g (aW 3) 150 (X7 2))) (wc' := (pR g (aW 3) 150 f9)) (ws2 := (pR g b1 N1 fr1 ++ (pW g aW (aP 0) (aQ 0) X11))) hP hD hS hA [4] rfl rfl (by subst e12; rfl) (rnN (As := [.ref (aW 3), .int (X7 8 0), .int x4]) ⟨hx, hb, hml, hown, hts⟩ (c_X5_put l g (aW 3) 150 _ _ _ _ _ h10) ⟨va_cnB 3 hts gX4_add_X5_put_n65 rfl rfl rfl (hKW.2 _ (List.mem_of_getElem? (i := 1) rfl)) (hts (.initialized RX5) (List.mem_of_getElem? (i := 9) rfl)) (by decide +kernel) ⟨Nat.le_of_ble_eq_true rfl, Nat.le_of_ble_eq_true rfl⟩, (hts (.static yX5_put) (List.mem_of_getElem? (i := 18) rfl)), trivial⟩ hKW hP hD [4] (by decide) rfl rfl hl.1 rfl (lv_room (Nat.le_of_ble_eq_true rfl)) dX4_add_123 ⟨Nat.zero_le _, Nat.zero_le _⟩) (fun H locs hP hD hS => ?_)
      refine lv_aload_n hx hb dX4_add_126 rfl (lv_at hl 1 rfl) ?_
      refine va_get (D := g.1) (ci := 4) (v := .ref (aW 4)) (C := RX4) (T := TX4) (N := 9) hx hb hts i_X4 hown hK hP 1 rfl rfl 3 (by decide) (hts (.fieldLink RX4 21 "WordFlasher$Words" "closings" "[I") (List.mem_of_getElem? (i := 5) rfl)) (fun _ h9 => h9) rfl dX4_add_127 ?_
      refine lv_aload_n hx hb dX4_add_130 rfl (lv_at hl 1 rfl) ?_
      refine va_get (D := g.1) (ci := 4) (v := .int (X11 8 0)) (C := RX4) (T := TX4) (N := 9) hx hb hts i_X4 hown hK hP 1 rfl rfl 8 (by decide) (hts (.fieldLink RX4 40 "WordFlasher$Words" "many" "I") (List.mem_of_getElem? (i := 2) rfl)) (fun _ h9 => h9) rfl dX4_add_131 ?_
      refine lv_iload hx hb dX4_add_134 (lv_at hl 0 rfl) ?_
      obtain ⟨j148, ej148, hf⟩ := sl_el hf
      have J_148 : ∀ (x2 x3 x4 x5 k1 k2 : Int32) (XW : DM) (H : Heap) (locs : List Loc) (ls : Array Slot), va_P g.1 vwCl (pR g b1 N1 fr1 ++ (pW g aW (aP 0) (aQ 0) XW)) H → va_D A (pR g b1 N1 fr1 ++ (pW g aW (aP 0) (aQ 0) XW)) → va_S A s.heap H locs → lv_has ls 9 [(0, .ref (aW 0)), (1, .ref b1), (2, .int x2), (3, .int x3), (4, .int x4), (5, .int x5)] → j148 x2 x3 x4 x5 k1 k2 XW = some XWz → W p l e (headSpec wsX4_add rmX4_add).room s m args below meth c H locs 0 0 Q0 (F0 m 148 ls [.int k2, .int k1, .ref (aW 4)]) := by
        intro x2 x3 x4 x5 k1 k2 XW H locs ls hP hD hS hl hf
        rw [ej148] at hf
        obtain ⟨f13, h14, hf⟩ := bnd_el hf
        obtain ⟨X15, e16, hf⟩ := sl_el hf
        refine wr_v (rest := []) (wc := (pR g (aW 4) 150 (XW 3))) (wc' := (pR g (aW 4) 150 f13)) (ws2 := (pR g b1 N1 fr1 ++ (pW g aW (aP 0) (aQ 0) X15))) hP hD hS hA [5] rfl rfl (by subst e16; rfl) (rnN (As := [.ref (aW 4), .int k1, .int k2]) ⟨hx, hb, hml, hown, hts⟩ (c_X5_put l g (aW 4) 150 _ _ _ _ _ h14) ⟨va_cnB 3 hts gX4_add_X5_put_n65 rfl rfl rfl (hKW.2 _ (List.mem_of_getElem? (i := 1) rfl)) (hts (.initialized RX5) (List.mem_of_getElem? (i := 9) rfl)) (by decide +kernel) ⟨Nat.le_of_ble_eq_true rfl, Nat.le_of_ble_eq_true rfl⟩, (hts (.static yX5_put) (List.mem_of_getElem? (i := 18) rfl)), trivial⟩ hKW hP hD [5] (by decide) rfl rfl hl.1 rfl (lv_room (Nat.le_of_ble_eq_true rfl)) dX4_add_148 ⟨Nat.zero_le _, Nat.zero_le _⟩) (fun H locs hP hD hS => ?_)
        refine lv_aload_n hx hb dX4_add_151 rfl (lv_at hl 0 rfl) ?_
        refine va_get (D := g.1) (ci := 4) (v := .ref (aW 5)) (C := RX4) (T := TX4) (N := 9) hx hb hts i_X4 hown hK hP 1 rfl rfl 4 (by decide) (hts (.fieldLink RX4 24 "WordFlasher$Words" "figures" "[I") (List.mem_of_getElem? (i := 6) rfl)) (fun _ h9 => h9) rfl dX4_add_152 ?_
        refine lv_aload_n hx hb dX4_add_155 rfl (lv_at hl 0 rfl) ?_
        refine va_get (D := g.1) (ci := 4) (v := .int (X15 8 0)) (C := RX4) (T := TX4) (N := 9) hx hb hts i_X4 hown hK hP 1 rfl rfl 8 (by decide) (hts (.fieldLink RX4 40 "WordFlasher$Words" "many" "I") (List.mem_of_getElem? (i := 2) rfl)) (fun _ h9 => h9) rfl dX4_add_156 ?_
        refine lv_iload hx hb dX4_add_159 (lv_at hl 5 rfl) ?_
        obtain ⟨f17, h18, hf⟩ := bnd_el hf
        obtain ⟨X19, e20, hf⟩ := sl_el hf
        refine wr_v (rest := []) (wc := (pR g (aW 5) 150 (X15 4))) (wc' := (pR g (aW 5) 150 f17)) (ws2 := (pR g b1 N1 fr1 ++ (pW g aW (aP 0) (aQ 0) X19))) hP hD hS hA [6] rfl rfl (by subst e20; rfl) (rnN (As := [.ref (aW 5), .int (X15 8 0), .int x5]) ⟨hx, hb, hml, hown, hts⟩ (c_X5_put l g (aW 5) 150 _ _ _ _ _ h18) ⟨va_cnB 3 hts gX4_add_X5_put_n65 rfl rfl rfl (hKW.2 _ (List.mem_of_getElem? (i := 1) rfl)) (hts (.initialized RX5) (List.mem_of_getElem? (i := 9) rfl)) (by decide +kernel) ⟨Nat.le_of_ble_eq_true rfl, Nat.le_of_ble_eq_true rfl⟩, (hts (.static yX5_put) (List.mem_of_getElem? (i := 18) rfl)), trivial⟩ hKW hP hD [6] (by decide) rfl rfl hl.1 rfl (lv_room (Nat.le_of_ble_eq_true rfl)) dX4_add_161 ⟨Nat.zero_le _, Nat.zero_le _⟩) (fun H locs hP hD hS => ?_)
        refine lv_aload_n hx hb dX4_add_164 rfl (lv_at hl 0 rfl) ?_
        refine va_get (D := g.1) (ci := 4) (v := .ref (aW 6)) (C := RX4) (T := TX4) (N := 9) hx hb hts i_X4 hown hK hP 1 rfl rfl 5 (by decide) (hts (.fieldLink RX4 27 "WordFlasher$Words" "spots" "[I") (List.mem_of_getElem? (i := 7) rfl)) (fun _ h9 => h9) rfl dX4_add_165 ?_
        refine lv_aload_n hx hb dX4_add_168 rfl (lv_at hl 0 rfl) ?_
        refine va_get (D := g.1) (ci := 4) (v := .int (X19 8 0)) (C := RX4) (T := TX4) (N := 9) hx hb hts i_X4 hown hK hP 1 rfl rfl 8 (by decide) (hts (.fieldLink RX4 40 "WordFlasher$Words" "many" "I") (List.mem_of_getElem? (i := 2) rfl)) (fun _ h9 => h9) rfl dX4_add_169 ?_
        refine lv_iload hx hb dX4_add_172 (lv_at hl 4 rfl) ?_
        obtain ⟨j194, ej194, hf⟩ := sl_el hf
        have J_194 : ∀ (k1 k2 : Int32) (XW : DM) (H : Heap) (locs : List Loc) (ls : Array Slot), va_P g.1 vwCl (pR g b1 N1 fr1 ++ (pW g aW (aP 0) (aQ 0) XW)) H → va_D A (pR g b1 N1 fr1 ++ (pW g aW (aP 0) (aQ 0) XW)) → va_S A s.heap H locs → lv_has ls 9 [(0, .ref (aW 0))] → j194 k1 k2 XW = some XWz → W p l e (headSpec wsX4_add rmX4_add).room s m args below meth c H locs 0 0 Q0 (F0 m 194 ls [.int k2, .int k1, .ref (aW 6)]) := by
          intro k1 k2 XW H locs ls hP hD hS hl hf
          rw [ej194] at hf
          obtain ⟨f21, h22, hf⟩ := bnd_el hf
          obtain ⟨X23, e24, hf⟩ := sl_el hf
          refine wr_v (rest := []) (wc := (pR g (aW 6) 150 (XW 5))) (wc' := (pR g (aW 6) 150 f21)) (ws2 := (pR g b1 N1 fr1 ++ (pW g aW (aP 0) (aQ 0) X23))) hP hD hS hA [7] rfl rfl (by subst e24; rfl) (rnN (As := [.ref (aW 6), .int k1, .int k2]) ⟨hx, hb, hml, hown, hts⟩ (c_X5_put l g (aW 6) 150 _ _ _ _ _ h22) ⟨va_cnB 3 hts gX4_add_X5_put_n65 rfl rfl rfl (hKW.2 _ (List.mem_of_getElem? (i := 1) rfl)) (hts (.initialized RX5) (List.mem_of_getElem? (i := 9) rfl)) (by decide +kernel) ⟨Nat.le_of_ble_eq_true rfl, Nat.le_of_ble_eq_true rfl⟩, (hts (.static yX5_put) (List.mem_of_getElem? (i := 18) rfl)), trivial⟩ hKW hP hD [7] (by decide) rfl rfl hl.1 rfl (lv_room (Nat.le_of_ble_eq_true rfl)) dX4_add_194 ⟨Nat.zero_le _, Nat.zero_le _⟩) (fun H locs hP hD hS => ?_)
          refine lv_aload_n hx hb dX4_add_197 rfl (lv_at hl 0 rfl) ?_
          refine lv_dup hx hb dX4_add_198 rfl ?_
          refine va_get (D := g.1) (ci := 4) (v := .int (X23 8 0)) (C := RX4) (T := TX4) (N := 9) hx hb hts i_X4 hown hK hP 1 rfl rfl 8 (by decide) (hts (.fieldLink RX4 40 "WordFlasher$Words" "many" "I") (List.mem_of_getElem? (i := 2) rfl)) (fun _ h9 => h9) rfl dX4_add_199 ?_
          refine lv_iconst (v := 1) hx hb dX4_add_202 (by decide) ?_
          refine lv_iadd hx hb dX4_add_203 ?_
          obtain ⟨X25, e26, hf⟩ := sl_el hf
          refine va_put (D := g.1) (ci := 4) (v := .int ((X23 8 0) + 1)) (ty := .int) (C := RX4) (T := TX4) (N := 9) hx hb hts i_X4 tyX4 tyX4_ok nmX4 hown hK hP hD hS 1 rfl rfl 8 (by decide) (hts (.fieldLink RX4 40 "WordFlasher$Words" "many" "I") (List.mem_of_getElem? (i := 2) rfl)) (fun _ h9 => h9) rfl (by decide +kernel) rfl rfl (Nat.le_of_ble_eq_true rfl) dX4_add_204 (fun H locs hP hD hS => ?_)
          have hP : va_P g.1 vwCl (pR g b1 N1 fr1 ++ (pW g aW (aP 0) (aQ 0) X25)) H := by subst e26; exact hP
          have hD : va_D A (pR g b1 N1 fr1 ++ (pW g aW (aP 0) (aQ 0) X25)) := by subst e26; exact hD
          have er0 := Option.some.inj hf
          rw [← hQ0]; exact W.vret hx hb hr (fun t ht hW => ⟨⟨(), rfl, trivial, by dsimp only; rw [ht, ← er0]; exact hP⟩, hS.F ht⟩) hS.2.2 dX4_add_207
        refine lv_if_ne (tgt := 181) hx hb dX4_add_174 (by decide) (fun c27 => ?_) (fun c27 => ?_)
        · have hf := ite_f hf c27
          refine lv_aload_n hx hb dX4_add_181 rfl (lv_at hl 0 rfl) ?_
          refine lv_aload_n hx hb dX4_add_182 rfl (lv_at hl 1 rfl) ?_
          refine lv_iload_n hx hb dX4_add_183 rfl (lv_at hl 2 rfl) ?_
          refine lv_iload_n hx hb dX4_add_184 rfl (lv_at hl 3 rfl) ?_
          refine lv_iload hx hb dX4_add_185 (lv_at hl 4 rfl) ?_
          refine lv_iconst (v := 1) hx hb dX4_add_187 (by decide) ?_
          refine lv_isub hx hb dX4_add_188 ?_
          refine lv_iconst (v := 3) hx hb dX4_add_189 (by decide) ?_
          obtain ⟨z30, v28, e29, hf⟩ := dvA_el hf
          refine lv_idiv hx hb dX4_add_190 z30 ?_
          refine lv_as e29 ?_
          obtain ⟨r31, h32, hf⟩ := bnd_el hf
          refine rdV (As := [.ref b1, .int x2, .int x3, .int v28]) (rest := [.int (X19 8 0), .ref (aW 6)]) ⟨hx, hb, hml, hown, hts⟩ (c_X4_letterIn l g b1 N1 aW _ _ _ _ _ _ h32) (cwV 4 hts gX4_add_X4_letterIn rfl rfl rfl (by decide +kernel) ⟨Nat.le_of_ble_eq_true rfl, Nat.le_of_ble_eq_true rfl⟩) hKW hP [0] rfl (va_recv hK hP (ci := 4) (q0 := 1) rfl rfl) rfl hl.1 rfl (lv_room (Nat.le_of_ble_eq_true rfl)) dX4_add_191 ⟨Nat.zero_le _, Nat.zero_le _⟩ (fun r33 q34 => ?_)
          obtain ⟨q34, nb35⟩ := q34
          refine lv_as q34.symm ?_
          exact J_194 (X19 8 0) r31 X19 _ _ ls hP hD hS (lv_sub hl [0] rfl) hf
        · have hf := ite_t hf c27
          refine lv_iconst (v := (-1)) hx hb dX4_add_177 (by decide) ?_
          refine lv_goto (tgt := 194) hx hb dX4_add_178 (by decide) ?_
          exact J_194 (X19 8 0) (-1) X19 _ _ ls hP hD hS (lv_sub hl [0] rfl) hf
      refine lv_if_eq (tgt := 143) hx hb dX4_add_136 (by decide) (fun c36 => ?_) (fun c36 => ?_)
      · have hf := ite_t hf c36
        refine lv_iload hx hb dX4_add_143 (lv_at hl 7 rfl) ?_
        obtain ⟨r37, h38, hf⟩ := bnd_el hf
        refine rdN (As := [.int x6]) (rest := [.int (X11 8 0), .ref (aW 4)]) ⟨hx, hb, hml, hown, hts⟩ (c_X5_closingBy l g _ _ h38) ⟨va_cnB 1 hts gX4_add_X5_closingBy_n68 rfl rfl rfl (hKW.2 _ (List.mem_of_getElem? (i := 0) rfl)) (hts (.initialized RX5) (List.mem_of_getElem? (i := 9) rfl)) (by decide +kernel) ⟨Nat.le_of_ble_eq_true rfl, Nat.le_of_ble_eq_true rfl⟩, (hts (.static yX5_closingBy) (List.mem_of_getElem? (i := 20) rfl)), trivial⟩ hKW hP [] rfl rfl hl.1 rfl (lv_room (Nat.le_of_ble_eq_true rfl)) dX4_add_145 ⟨Nat.zero_le _, Nat.zero_le _⟩ (fun r39 q40 => ?_)
        obtain ⟨q40, nb41⟩ := q40
        refine lv_as q40.symm ?_
        exact J_148 x2 x3 x4 x5 (X11 8 0) r37 X11 _ _ ls hP hD hS (lv_sub hl [1, 2, 3, 4, 5, 6] rfl) hf
      · have hf := ite_f hf c36
        refine lv_iconst (v := 3) hx hb dX4_add_139 (by decide) ?_
        refine lv_goto (tgt := 148) hx hb dX4_add_140 (by decide) ?_
        exact J_148 x2 x3 x4 x5 (X11 8 0) 3 X11 _ _ ls hP hD hS (lv_sub hl [1, 2, 3, 4, 5, 6] rfl) hf
    obtain ⟨j84, ej84, hf⟩ := sl_el hf
    have J_84 : ∀ (x2 x3 x4 x5 x6 : Int32) (XW : DM) (H : Heap) (locs : List Loc) (ls : Array Slot), va_P g.1 vwCl (pR g b1 N1 fr1 ++ (pW g aW (aP 0) (aQ 0) XW)) H → va_D A (pR g b1 N1 fr1 ++ (pW g aW (aP 0) (aQ 0) XW)) → va_S A s.heap H locs → lv_has ls 9 [(0, .ref (aW 0)), (1, .ref b1), (2, .int x2), (3, .int x3), (4, .int x4), (5, .int x5), (6, .int x6)] → j84 x2 x3 x4 x5 x6 XW = some XWz → W p l e (headSpec wsX4_add rmX4_add).room s m args below meth c H locs 0 0 Q0 (F0 m 84 ls []) := by
      intro x2 x3 x4 x5 x6 XW H locs ls hP hD hS hl hf
      rw [ej84] at hf
      refine lv_iconst (v := 0) hx hb dX4_add_84 (by decide) ?_
      exact J_85 x2 x3 x4 x5 x6 0 XW _ _ ls hP hD hS (lv_sub hl [0, 1, 2, 3, 4, 5, 6] rfl) hf
    refine lv_icmp_ne (tgt := 84) hx hb dX4_add_70 (by decide) (fun c42 => ?_) (fun c42 => ?_)
    · have hf := ite_f hf c42
      exact J_84 x2 x3 x4 x5 x6 XW _ _ ls hP hD hS (lv_sub hl [0, 1, 2, 3, 4, 5, 6] rfl) hf
    · have hf := ite_t hf c42
      refine lv_iload hx hb dX4_add_73 (lv_at hl 6 rfl) ?_
      refine lv_bipush (v := 124) hx hb dX4_add_75 (by decide) ?_
      refine lv_icmp_ne (tgt := 84) hx hb dX4_add_77 (by decide) (fun c43 => ?_) (fun c43 => ?_)
      · have hf := ite_f hf c43
        exact J_84 x2 x3 x4 x5 x6 XW _ _ ls hP hD hS (lv_sub hl [0, 1, 2, 3, 4, 5, 6] rfl) hf
      · have hf := ite_t hf c43
        refine lv_iconst (v := 1) hx hb dX4_add_80 (by decide) ?_
        refine lv_goto (tgt := 85) hx hb dX4_add_81 (by decide) ?_
        exact J_85 x2 x3 x4 x5 x6 1 XW _ _ ls hP hD hS (lv_sub hl [0, 1, 2, 3, 4, 5, 6] rfl) hf
  have L_12 : ∀ fu : Nat, ∀ (x2 x3 x4 x5 x6 x7 : Int32) (XW : DM) (H : Heap) (locs : List Loc) (ls : Array Slot), va_P g.1 vwCl (pR g b1 N1 fr1 ++ (pW g aW (aP 0) (aQ 0) XW)) H → va_D A (pR g b1 N1 fr1 ++ (pW g aW (aP 0) (aQ 0) XW)) → va_S A s.heap H locs → lv_has ls 9 [(0, .ref (aW 0)), (1, .ref b1), (2, .int x2), (3, .int x3), (4, .int x4), (5, .int x5), (6, .int x6), (7, .int x7)] → fX4_add_L12 n N1 fr1 j66 fu x2 x3 x4 x5 x6 x7 XW = some XWz → W p l e (headSpec wsX4_add rmX4_add).room s m args below meth c H locs 0 0 Q0 (F0 m 12 ls []) := by
    intro fu
    induction fu with
    | zero => intros; rename_i hf; rw [fX4_add_L12] at hf; cases hf
    | succ fu ih =>
      intro x2 x3 x4 x5 x6 x7 XW H locs ls hP hD hS hl hf
      rw [fX4_add_L12] at hf
      refine lv_iload hx hb dX4_add_12 (lv_at hl 7 rfl) ?_
      refine lv_iload_n hx hb dX4_add_14 rfl (lv_at hl 3 rfl) ?_
      refine lv_icmp_ge (tgt := 66) hx hb dX4_add_15 (by decide) (fun c44 => ?_) (fun c44 => ?_)
      · have hf := ite_t hf c44
        exact J_66 x2 x3 x4 x5 x6 XW _ _ ls hP hD hS (lv_sub hl [0, 1, 2, 3, 4, 5, 6] rfl) hf
      · have hf := ite_f hf c44
        refine lv_aload_n hx hb dX4_add_18 rfl (lv_at hl 1 rfl) ?_
        refine lv_iload hx hb dX4_add_19 (lv_at hl 7 rfl) ?_
        obtain ⟨r45, h46, hf⟩ := bnd_el hf
        refine rdN (As := [.ref b1, .int x7]) (rest := []) ⟨hx, hb, hml, hown, hts⟩ (c_X5_at l g b1 N1 _ _ _ h46) ⟨va_cnB 2 hts gX4_add_X5_at_n44 rfl rfl rfl (hKW.2 _ (List.mem_of_getElem? (i := 5) rfl)) (hts (.initialized RX5) (List.mem_of_getElem? (i := 9) rfl)) (by decide +kernel) ⟨Nat.le_of_ble_eq_true rfl, Nat.le_of_ble_eq_true rfl⟩, (hts (.static yX5_at) (List.mem_of_getElem? (i := 8) rfl)), trivial⟩ hKW hP [0] rfl rfl hl.1 rfl (lv_room (Nat.le_of_ble_eq_true rfl)) dX4_add_21 ⟨Nat.zero_le _, Nat.zero_le _⟩ (fun r47 q48 => ?_)
        obtain ⟨q48, nb49⟩ := q48
        refine lv_as q48.symm ?_
        refine lv_istore (lv' := [(8, .int r45), (0, .ref (aW 0)), (1, .ref b1), (2, .int x2), (3, .int x3), (4, .int x4), (5, .int x5), (6, .int x6), (7, .int x7)]) hx hb dX4_add_24 hl (by decide) rfl (fun ls hl => ?_)
        refine lv_iload hx hb dX4_add_26 (lv_at hl 0 rfl) ?_
        obtain ⟨r50, h51, hf⟩ := bnd_el hf
        refine rdN (As := [.int r45]) (rest := []) ⟨hx, hb, hml, hown, hts⟩ (c_X5_isLetter l g _ _ h51) ⟨va_cnB 1 hts gX4_add_X5_isLetter_n55 rfl rfl rfl (hKW.2 _ (List.mem_of_getElem? (i := 4) rfl)) (hts (.initialized RX5) (List.mem_of_getElem? (i := 9) rfl)) (by decide +kernel) ⟨Nat.le_of_ble_eq_true rfl, Nat.le_of_ble_eq_true rfl⟩, (hts (.static yX5_isLetter) (List.mem_of_getElem? (i := 11) rfl)), trivial⟩ hKW hP [] rfl rfl hl.1 rfl (lv_room (Nat.le_of_ble_eq_true rfl)) dX4_add_28 ⟨Nat.zero_le _, Nat.zero_le _⟩ (fun r52 q53 => ?_)
        obtain ⟨q53, nb54⟩ := q53
        refine lv_as q53.symm ?_
        rw [q53] at nb54
        obtain ⟨j37, ej37, hf⟩ := sl_el hf
        have J_37 : ∀ (x2 x3 x4 x5 x6 x7 x8 : Int32) (XW : DM) (H : Heap) (locs : List Loc) (ls : Array Slot), va_P g.1 vwCl (pR g b1 N1 fr1 ++ (pW g aW (aP 0) (aQ 0) XW)) H → va_D A (pR g b1 N1 fr1 ++ (pW g aW (aP 0) (aQ 0) XW)) → va_S A s.heap H locs → lv_has ls 9 [(0, .ref (aW 0)), (1, .ref b1), (2, .int x2), (3, .int x3), (4, .int x4), (5, .int x5), (6, .int x6), (7, .int x7), (8, .int x8)] → j37 x2 x3 x4 x5 x6 x7 x8 XW = some XWz → W p l e (headSpec wsX4_add rmX4_add).room s m args below meth c H locs 0 0 Q0 (F0 m 37 ls []) := by
          intro x2 x3 x4 x5 x6 x7 x8 XW H locs ls hP hD hS hl hf
          rw [ej37] at hf
          refine lv_iload hx hb dX4_add_37 (lv_at hl 8 rfl) ?_
          obtain ⟨r55, h56, hf⟩ := bnd_el hf
          refine rdN (As := [.int x8]) (rest := []) ⟨hx, hb, hml, hown, hts⟩ (c_X5_isFigure l g _ _ h56) ⟨va_cnB 1 hts gX4_add_X5_isFigure_n59 rfl rfl rfl (hKW.2 _ (List.mem_of_getElem? (i := 3) rfl)) (hts (.initialized RX5) (List.mem_of_getElem? (i := 9) rfl)) (by decide +kernel) ⟨Nat.le_of_ble_eq_true rfl, Nat.le_of_ble_eq_true rfl⟩, (hts (.static yX5_isFigure) (List.mem_of_getElem? (i := 14) rfl)), trivial⟩ hKW hP [] rfl rfl hl.1 rfl (lv_room (Nat.le_of_ble_eq_true rfl)) dX4_add_39 ⟨Nat.zero_le _, Nat.zero_le _⟩ (fun r57 q58 => ?_)
          obtain ⟨q58, nb59⟩ := q58
          refine lv_as q58.symm ?_
          rw [q58] at nb59
          obtain ⟨j48, ej48, hf⟩ := sl_el hf
          have J_48 : ∀ (x2 x3 x4 x5 x6 x7 x8 : Int32) (XW : DM) (H : Heap) (locs : List Loc) (ls : Array Slot), va_P g.1 vwCl (pR g b1 N1 fr1 ++ (pW g aW (aP 0) (aQ 0) XW)) H → va_D A (pR g b1 N1 fr1 ++ (pW g aW (aP 0) (aQ 0) XW)) → va_S A s.heap H locs → lv_has ls 9 [(0, .ref (aW 0)), (1, .ref b1), (2, .int x2), (3, .int x3), (4, .int x4), (5, .int x5), (6, .int x6), (7, .int x7), (8, .int x8)] → j48 x2 x3 x4 x5 x6 x7 x8 XW = some XWz → W p l e (headSpec wsX4_add rmX4_add).room s m args below meth c H locs 0 0 Q0 (F0 m 48 ls []) := by
            intro x2 x3 x4 x5 x6 x7 x8 XW H locs ls hP hD hS hl hf
            rw [ej48] at hf
            refine lv_iload hx hb dX4_add_48 (lv_at hl 8 rfl) ?_
            obtain ⟨r60, h61, hf⟩ := bnd_el hf
            refine rdN (As := [.int x8]) (rest := []) ⟨hx, hb, hml, hown, hts⟩ (c_X5_isTrailing l g _ _ h61) ⟨va_cnB 1 hts gX4_add_X5_isTrailing_n62 rfl rfl rfl (hKW.2 _ (List.mem_of_getElem? (i := 2) rfl)) (hts (.initialized RX5) (List.mem_of_getElem? (i := 9) rfl)) (by decide +kernel) ⟨Nat.le_of_ble_eq_true rfl, Nat.le_of_ble_eq_true rfl⟩, (hts (.static yX5_isTrailing) (List.mem_of_getElem? (i := 16) rfl)), trivial⟩ hKW hP [] rfl rfl hl.1 rfl (lv_room (Nat.le_of_ble_eq_true rfl)) dX4_add_50 ⟨Nat.zero_le _, Nat.zero_le _⟩ (fun r62 q63 => ?_)
            obtain ⟨q63, nb64⟩ := q63
            refine lv_as q63.symm ?_
            rw [q63] at nb64
            obtain ⟨j60, ej60, hf⟩ := sl_el hf
            have J_60 : ∀ (x2 x3 x4 x5 x6 x7 : Int32) (XW : DM) (H : Heap) (locs : List Loc) (ls : Array Slot), va_P g.1 vwCl (pR g b1 N1 fr1 ++ (pW g aW (aP 0) (aQ 0) XW)) H → va_D A (pR g b1 N1 fr1 ++ (pW g aW (aP 0) (aQ 0) XW)) → va_S A s.heap H locs → lv_has ls 9 [(0, .ref (aW 0)), (1, .ref b1), (2, .int x2), (3, .int x3), (4, .int x4), (5, .int x5), (6, .int x6), (7, .int x7)] → j60 x2 x3 x4 x5 x6 x7 XW = some XWz → W p l e (headSpec wsX4_add rmX4_add).room s m args below meth c H locs 0 0 Q0 (F0 m 60 ls []) := by
              intro x2 x3 x4 x5 x6 x7 XW H locs ls hP hD hS hl hf
              rw [ej60] at hf
              obtain ⟨v65, e66, hf⟩ := sl_el hf
              refine lv_iinc (v := v65) (lv' := [(7, .int v65), (0, .ref (aW 0)), (1, .ref b1), (2, .int x2), (3, .int x3), (4, .int x4), (5, .int x5), (6, .int x6)]) hx hb dX4_add_60 hl (k := 7) rfl (by rw [e66]; rfl) (by decide) rfl (fun ls hl => ?_)
              refine lv_goto (tgt := 12) hx hb dX4_add_63 (by decide) ?_
              exact ih x2 x3 x4 x5 x6 v65 XW _ _ ls hP hD hS (lv_sub hl [1, 2, 3, 4, 5, 6, 7, 0] rfl) hf
            refine lv_if_ne (tgt := 60) hx hb dX4_add_53 (by decide) (fun c67 => ?_) (fun c67 => ?_)
            · have hf := ite_f hf c67
              exact J_60 x2 x3 x4 x5 x6 x7 XW _ _ ls hP hD hS (lv_sub hl [0, 1, 2, 3, 4, 5, 6, 7] rfl) hf
            · have hf := ite_t hf c67
              refine lv_iload hx hb dX4_add_56 (lv_at hl 8 rfl) ?_
              refine lv_istore (lv' := [(6, .int x8), (0, .ref (aW 0)), (1, .ref b1), (2, .int x2), (3, .int x3), (4, .int x4), (5, .int x5), (7, .int x7), (8, .int x8)]) hx hb dX4_add_58 hl (by decide) rfl (fun ls hl => ?_)
              exact J_60 x2 x3 x4 x5 x8 x7 XW _ _ ls hP hD hS (lv_sub hl [1, 2, 3, 4, 5, 6, 0, 7] rfl) hf
          refine lv_if_eq (tgt := 48) hx hb dX4_add_42 (by decide) (fun c68 => ?_) (fun c68 => ?_)
          · have hf := ite_t hf c68
            exact J_48 x2 x3 x4 x5 x6 x7 x8 XW _ _ ls hP hD hS (lv_sub hl [0, 1, 2, 3, 4, 5, 6, 7, 8] rfl) hf
          · have hf := ite_f hf c68
            refine lv_iconst (v := 1) hx hb dX4_add_45 (by decide) ?_
            refine lv_istore (lv' := [(5, .int 1), (0, .ref (aW 0)), (1, .ref b1), (2, .int x2), (3, .int x3), (4, .int x4), (6, .int x6), (7, .int x7), (8, .int x8)]) hx hb dX4_add_46 hl (by decide) rfl (fun ls hl => ?_)
            exact J_48 x2 x3 x4 1 x6 x7 x8 XW _ _ ls hP hD hS (lv_sub hl [1, 2, 3, 4, 5, 0, 6, 7, 8] rfl) hf
        refine lv_if_eq (tgt := 37) hx hb dX4_add_31 (by decide) (fun c69 => ?_) (fun c69 => ?_)
        · have hf := ite_t hf c69
          exact J_37 x2 x3 x4 x5 x6 x7 r45 XW _ _ ls hP hD hS (lv_sub hl [1, 2, 3, 4, 5, 6, 7, 8, 0] rfl) hf
        · have hf := ite_f hf c69
          obtain ⟨v70, e71, hf⟩ := sl_el hf
          refine lv_iinc (v := v70) (lv' := [(4, .int v70), (8, .int r45), (0, .ref (aW 0)), (1, .ref b1), (2, .int x2), (3, .int x3), (5, .int x5), (6, .int x6), (7, .int x7)]) hx hb dX4_add_34 hl (k := 5) rfl (by rw [e71]; rfl) (by decide) rfl (fun ls hl => ?_)
          exact J_37 x2 x3 v70 x5 x6 x7 r45 XW _ _ ls hP hD hS (lv_sub hl [2, 3, 4, 5, 0, 6, 7, 8, 1] rfl) hf
  exact L_12 n p2 p3 0 0 (-1) p2 XW _ _ ls hP hD hS (lv_sub hl [4, 5, 6, 7, 3, 2, 1, 0] rfl) hf
abbrev rmX4_number : Room := { frames := 2, cells := 0, slots := 0, locals := 44 }
set_option maxHeartbeats 8000000 in
set_option maxRecDepth 100000 in
theorem c_X4_number (l : Launch) (g : GG) (aW : Nat → Nat) (aP : Nat → Nat) (aQ : Nat → Nat) (sz : Nat) (n : Nat) (XW : DM) (XP : DM) (XQ : DM) (XPz : DM) (XQz : DM) (hf : fX4_number n XW XP XQ = some (XPz, XQz)) : Met l yX4_number wsX4_number rmX4_number (va_Pc [.ref (aW 0)] (fun U => U.heap.size = sz ∧ va_P g.1 vwCl (pW g aW (aP 0) (aQ 0) XW ++ (pP g aP XP ++ (pP g aQ XQ))) U.heap ∧ KW g U ∧ va_D (fun _ => True) (pW g aW (aP 0) (aQ 0) XW ++ (pP g aP XP ++ (pP g aQ XQ))))) (va_Qv (fun (_ : Unit) => True) (fun (_ : Unit) t => va_P g.1 vwCl (pW g aW (aP 0) (aQ 0) XW ++ (pP g aP XPz ++ (pP g aQ XQz))) t.heap) (va_A (pW g aW (aP 0) (aQ 0) XW ++ (pP g aP XP ++ (pP g aQ XQ))) sz)) 0 0 (va_A (pW g aW (aP 0) (aQ 0) XW ++ (pP g aP XP ++ (pP g aQ XQ))) sz) := by
  refine Met.ofW (cc := cX4_number) (maxL := 3) (ret := none) (by decide) rfl ?_
  intro p e s m args below meth c s₁ B hml hv
  obtain ⟨hargs, hsz, hP, hKW, hD0⟩ := hv
  have hK := hKW.1
  have hx := B.exec
  have hb := B.bytes
  have hr := B.returns
  have hts := atoms_spec (ws := wsX4_number) B.pre
  have hown : s.vm.findClass RX4 = some m.cls := findClass_of_methodNamed B.named
  have hlocks := B.notSynchronized
  subst hsz
  have hD := hD0.self (sz := s.heap.size)
  generalize hAe : va_A (pW g aW (aP 0) (aQ 0) XW ++ (pP g aP XP ++ (pP g aQ XQ))) s.heap.size = A at hD ⊢
  have hA : ∀ q : Nat, s.heap.size ≤ q → A q := fun q h => by rw [← hAe]; exact Or.inr h
  have hS : va_S A s.heap s.heap [] := va_S.rf
  have i_X4 : ∀ w ∈ wsX40, w ∈ wsX4_number := fun w h => List.mem_cons_of_mem _ (List.mem_append_left _ (List.mem_append_right _ h))
  have i_X2 : ∀ w ∈ wsX20, w ∈ wsX4_number := fun w h => List.mem_cons_of_mem _ (List.mem_append_right _ h)
  have hent : entryFrame m args 3 = F0 m 0 ((lg_sl ([.ref (aW 0)]) ++ List.replicate (3 - (lg_sl ([.ref (aW 0)])).length) Slot.unset).toArray) [] := by rw [hargs]; exact lg_entry_eq _ _ _
  rw [hent]
  have hl := lv_entry ([.ref (aW 0)]) (n := 3) (Nat.le_of_ble_eq_true rfl)
  generalize (lg_sl ([.ref (aW 0)]) ++ List.replicate (3 - (lg_sl ([.ref (aW 0)])).length) Slot.unset).toArray = ls at hl ⊢
  have hl : lv_has ls 3 [(0, .ref (aW 0))] := hl
  generalize hQ0 : MQ below _ _ _ _ _ _ = Q0
  unfold fX4_number at hf
  refine lv_aload_n hx hb dX4_number_0 rfl (lv_at hl 0 rfl) ?_
  refine va_get (D := g.1) (ci := 4) (v := .ref (aP 0)) (C := RX4) (T := TX4) (N := 9) hx hb hts i_X4 hown hK hP 0 rfl rfl 6 (by decide) (hts (.fieldLink RX4 33 "WordFlasher$Words" "sentences" "LWordFlasher$Spans;") (List.mem_of_getElem? (i := 1) rfl)) (fun _ h9 => h9) rfl dX4_number_1 ?_
  obtain ⟨X1, h2, hf⟩ := bnd_el hf
  refine wr_v (rest := []) (wc := (pP g aP XP)) (wc' := (pP g aP X1)) (ws2 := (pW g aW (aP 0) (aQ 0) XW ++ (pP g aP X1 ++ (pP g aQ XQ)))) hP hD hS hA [7, 8, 9, 10] rfl rfl (by rfl) (rnV (As := []) ⟨hx, hb, hml, hown, hts⟩ (c_X2_clear l g aP _ _ _ h2) (cwV 0 hts gX4_number_X2_clear rfl rfl rfl (by decide +kernel) ⟨Nat.le_of_ble_eq_true rfl, Nat.le_of_ble_eq_true rfl⟩) hKW hP hD [7, 8, 9, 10] (by decide) rfl (va_recv hK hP (ci := 2) (q0 := 7) rfl rfl) rfl hl.1 rfl (lv_room (Nat.le_of_ble_eq_true rfl)) dX4_number_4 ⟨Nat.zero_le _, Nat.zero_le _⟩) (fun H locs hP hD hS => ?_)
  refine lv_aload_n hx hb dX4_number_7 rfl (lv_at hl 0 rfl) ?_
  refine va_get (D := g.1) (ci := 4) (v := .ref (aQ 0)) (C := RX4) (T := TX4) (N := 9) hx hb hts i_X4 hown hK hP 0 rfl rfl 7 (by decide) (hts (.fieldLink RX4 37 "WordFlasher$Words" "pages" "LWordFlasher$Spans;") (List.mem_of_getElem? (i := 2) rfl)) (fun _ h9 => h9) rfl dX4_number_8 ?_
  obtain ⟨X3, h4, hf⟩ := bnd_el hf
  refine wr_v (rest := []) (wc := (pP g aQ XQ)) (wc' := (pP g aQ X3)) (ws2 := (pW g aW (aP 0) (aQ 0) XW ++ (pP g aP X1 ++ (pP g aQ X3)))) hP hD hS hA [11, 12, 13, 14] rfl rfl (by rfl) (rnV (As := []) ⟨hx, hb, hml, hown, hts⟩ (c_X2_clear l g aQ _ _ _ h4) (cwV 0 hts gX4_number_X2_clear rfl rfl rfl (by decide +kernel) ⟨Nat.le_of_ble_eq_true rfl, Nat.le_of_ble_eq_true rfl⟩) hKW hP hD [11, 12, 13, 14] (by decide) rfl (va_recv hK hP (ci := 2) (q0 := 11) rfl rfl) rfl hl.1 rfl (lv_room (Nat.le_of_ble_eq_true rfl)) dX4_number_11 ⟨Nat.zero_le _, Nat.zero_le _⟩) (fun H locs hP hD hS => ?_)
  refine lv_iconst (v := 3) hx hb dX4_number_14 (by decide) ?_
  refine lv_istore_n (lv' := [(1, .int 3), (0, .ref (aW 0))]) hx hb dX4_number_15 rfl hl (by decide) rfl (fun ls hl => ?_)
  refine lv_iconst (v := 0) hx hb dX4_number_16 (by decide) ?_
  refine lv_istore_n (lv' := [(2, .int 0), (1, .int 3), (0, .ref (aW 0))]) hx hb dX4_number_17 rfl hl (by decide) rfl (fun ls hl => ?_)
  have L_18 : ∀ fu : Nat, ∀ (x1 x2 : Int32) (XP : DM) (XQ : DM) (H : Heap) (locs : List Loc) (ls : Array Slot), va_P g.1 vwCl (pW g aW (aP 0) (aQ 0) XW ++ (pP g aP XP ++ (pP g aQ XQ))) H → va_D A (pW g aW (aP 0) (aQ 0) XW ++ (pP g aP XP ++ (pP g aQ XQ))) → va_S A s.heap H locs → lv_has ls 3 [(0, .ref (aW 0)), (1, .int x1), (2, .int x2)] → fX4_number_L18 n XW fu x1 x2 XP XQ = some (XPz, XQz) → W p l e (headSpec wsX4_number rmX4_number).room s m args below meth c H locs 0 0 Q0 (F0 m 18 ls []) := by
    intro fu
    induction fu with
    | zero => intros; rename_i hf; rw [fX4_number_L18] at hf; cases hf
    | succ fu ih =>
      intro x1 x2 XP XQ H locs ls hP hD hS hl hf
      rw [fX4_number_L18] at hf
      refine lv_iload_n hx hb dX4_number_18 rfl (lv_at hl 2 rfl) ?_
      refine lv_aload_n hx hb dX4_number_19 rfl (lv_at hl 0 rfl) ?_
      refine va_get (D := g.1) (ci := 4) (v := .int (XW 8 0)) (C := RX4) (T := TX4) (N := 9) hx hb hts i_X4 hown hK hP 0 rfl rfl 8 (by decide) (hts (.fieldLink RX4 40 "WordFlasher$Words" "many" "I") (List.mem_of_getElem? (i := 3) rfl)) (fun _ h9 => h9) rfl dX4_number_20 ?_
      refine lv_icmp_ge (tgt := 82) hx hb dX4_number_23 (by decide) (fun c5 => ?_) (fun c5 => ?_)
      · have hf := ite_t hf c5
        have er0 := Option.some.inj hf
        obtain ⟨er0, er1⟩ := Prod.mk.inj er0
        rw [← hQ0]; exact W.vret hx hb hr (fun t ht hW => ⟨⟨(), rfl, trivial, by dsimp only; rw [ht, ← er0, ← er1]; exact hP⟩, hS.F ht⟩) hS.2.2 dX4_number_82
      · have hf := ite_f hf c5
        refine lv_aload_n hx hb dX4_number_26 rfl (lv_at hl 0 rfl) ?_
        refine va_get (D := g.1) (ci := 4) (v := .ref (aP 0)) (C := RX4) (T := TX4) (N := 9) hx hb hts i_X4 hown hK hP 0 rfl rfl 6 (by decide) (hts (.fieldLink RX4 33 "WordFlasher$Words" "sentences" "LWordFlasher$Spans;") (List.mem_of_getElem? (i := 1) rfl)) (fun _ h9 => h9) rfl dX4_number_27 ?_
        refine lv_iload_n hx hb dX4_number_30 rfl (lv_at hl 2 rfl) ?_
        refine lv_iload_n hx hb dX4_number_31 rfl (lv_at hl 1 rfl) ?_
        refine lv_iconst (v := 2) hx hb dX4_number_32 (by decide) ?_
        obtain ⟨j46, ej46, hf⟩ := sl_el hf
        have J_46 : ∀ (x1 x2 k1 k2 : Int32) (XP : DM) (XQ : DM) (H : Heap) (locs : List Loc) (ls : Array Slot), va_P g.1 vwCl (pW g aW (aP 0) (aQ 0) XW ++ (pP g aP XP ++ (pP g aQ XQ))) H → va_D A (pW g aW (aP 0) (aQ 0) XW ++ (pP g aP XP ++ (pP g aQ XQ))) → va_S A s.heap H locs → lv_has ls 3 [(0, .ref (aW 0)), (1, .int x1), (2, .int x2)] → j46 x1 x2 k1 k2 XP XQ = some (XPz, XQz) → W p l e (headSpec wsX4_number rmX4_number).room s m args below meth c H locs 0 0 Q0 (F0 m 46 ls [.int k2, .int k1, .ref (aP 0)]) := by
          intro x1 x2 k1 k2 XP XQ H locs ls hP hD hS hl hf
          rw [ej46] at hf
          obtain ⟨X6, h7, hf⟩ := bnd_el hf
          refine wr_v (rest := []) (wc := (pP g aP XP)) (wc' := (pP g aP X6)) (ws2 := (pW g aW (aP 0) (aQ 0) XW ++ (pP g aP X6 ++ (pP g aQ XQ)))) hP hD hS hA [7, 8, 9, 10] rfl rfl (by rfl) (rnV (As := [.int k1, .int k2]) ⟨hx, hb, hml, hown, hts⟩ (c_X2_add l g aP _ _ _ _ _ h7) (cwV 2 hts gX4_number_X2_add rfl rfl rfl (by decide +kernel) ⟨Nat.le_of_ble_eq_true rfl, Nat.le_of_ble_eq_true rfl⟩) hKW hP hD [7, 8, 9, 10] (by decide) rfl (va_recv hK hP (ci := 2) (q0 := 7) rfl rfl) rfl hl.1 rfl (lv_room (Nat.le_of_ble_eq_true rfl)) dX4_number_46 ⟨Nat.zero_le _, Nat.zero_le _⟩) (fun H locs hP hD hS => ?_)
          refine lv_aload_n hx hb dX4_number_49 rfl (lv_at hl 0 rfl) ?_
          refine va_get (D := g.1) (ci := 4) (v := .ref (aQ 0)) (C := RX4) (T := TX4) (N := 9) hx hb hts i_X4 hown hK hP 0 rfl rfl 7 (by decide) (hts (.fieldLink RX4 37 "WordFlasher$Words" "pages" "LWordFlasher$Spans;") (List.mem_of_getElem? (i := 2) rfl)) (fun _ h9 => h9) rfl dX4_number_50 ?_
          refine lv_iload_n hx hb dX4_number_53 rfl (lv_at hl 2 rfl) ?_
          refine lv_iload_n hx hb dX4_number_54 rfl (lv_at hl 1 rfl) ?_
          refine lv_iconst (v := 3) hx hb dX4_number_55 (by decide) ?_
          obtain ⟨j64, ej64, hf⟩ := sl_el hf
          have J_64 : ∀ (x2 k1 k2 : Int32) (XP : DM) (XQ : DM) (H : Heap) (locs : List Loc) (ls : Array Slot), va_P g.1 vwCl (pW g aW (aP 0) (aQ 0) XW ++ (pP g aP XP ++ (pP g aQ XQ))) H → va_D A (pW g aW (aP 0) (aQ 0) XW ++ (pP g aP XP ++ (pP g aQ XQ))) → va_S A s.heap H locs → lv_has ls 3 [(0, .ref (aW 0)), (2, .int x2)] → j64 x2 k1 k2 XP XQ = some (XPz, XQz) → W p l e (headSpec wsX4_number rmX4_number).room s m args below meth c H locs 0 0 Q0 (F0 m 64 ls [.int k2, .int k1, .ref (aQ 0)]) := by
            intro x2 k1 k2 XP XQ H locs ls hP hD hS hl hf
            rw [ej64] at hf
            obtain ⟨X8, h9, hf⟩ := bnd_el hf
            refine wr_v (rest := []) (wc := (pP g aQ XQ)) (wc' := (pP g aQ X8)) (ws2 := (pW g aW (aP 0) (aQ 0) XW ++ (pP g aP XP ++ (pP g aQ X8)))) hP hD hS hA [11, 12, 13, 14] rfl rfl (by rfl) (rnV (As := [.int k1, .int k2]) ⟨hx, hb, hml, hown, hts⟩ (c_X2_add l g aQ _ _ _ _ _ h9) (cwV 2 hts gX4_number_X2_add rfl rfl rfl (by decide +kernel) ⟨Nat.le_of_ble_eq_true rfl, Nat.le_of_ble_eq_true rfl⟩) hKW hP hD [11, 12, 13, 14] (by decide) rfl (va_recv hK hP (ci := 2) (q0 := 11) rfl rfl) rfl hl.1 rfl (lv_room (Nat.le_of_ble_eq_true rfl)) dX4_number_64 ⟨Nat.zero_le _, Nat.zero_le _⟩) (fun H locs hP hD hS => ?_)
            refine lv_aload_n hx hb dX4_number_67 rfl (lv_at hl 0 rfl) ?_
            refine va_get (D := g.1) (ci := 4) (v := .ref (aW 4)) (C := RX4) (T := TX4) (N := 9) hx hb hts i_X4 hown hK hP 0 rfl rfl 3 (by decide) (hts (.fieldLink RX4 21 "WordFlasher$Words" "closings" "[I") (List.mem_of_getElem? (i := 4) rfl)) (fun _ h9 => h9) rfl dX4_number_68 ?_
            refine lv_iload_n hx hb dX4_number_71 rfl (lv_at hl 1 rfl) ?_
            obtain ⟨r10, h11, hf⟩ := bnd_el hf
            refine rdN (As := [.ref (aW 4), .int x2]) (rest := []) ⟨hx, hb, hml, hown, hts⟩ (c_X5_at l g (aW 4) 150 _ _ _ h11) ⟨va_cnB 2 hts gX4_number_X5_at_n44 rfl rfl rfl (hKW.2 _ (List.mem_of_getElem? (i := 5) rfl)) (hts (.initialized RX5) (List.mem_of_getElem? (i := 19) rfl)) (by decide +kernel) ⟨Nat.le_of_ble_eq_true rfl, Nat.le_of_ble_eq_true rfl⟩, (hts (.static yX5_at) (List.mem_of_getElem? (i := 21) rfl)), trivial⟩ hKW hP [4] rfl rfl hl.1 rfl (lv_room (Nat.le_of_ble_eq_true rfl)) dX4_number_72 ⟨Nat.zero_le _, Nat.zero_le _⟩ (fun r12 q13 => ?_)
            obtain ⟨q13, nb14⟩ := q13
            refine lv_as q13.symm ?_
            refine lv_istore_n (lv' := [(1, .int r10), (0, .ref (aW 0)), (2, .int x2)]) hx hb dX4_number_75 rfl hl (by decide) rfl (fun ls hl => ?_)
            obtain ⟨v15, e16, hf⟩ := sl_el hf
            refine lv_iinc (v := v15) (lv' := [(2, .int v15), (1, .int r10), (0, .ref (aW 0))]) hx hb dX4_number_76 hl (k := 2) rfl (by rw [e16]; rfl) (by decide) rfl (fun ls hl => ?_)
            refine lv_goto (tgt := 18) hx hb dX4_number_79 (by decide) ?_
            exact ih r10 v15 XP X8 _ _ ls hP hD hS (lv_sub hl [2, 1, 0] rfl) hf
          refine lv_icmp_ne (tgt := 63) hx hb dX4_number_56 (by decide) (fun c17 => ?_) (fun c17 => ?_)
          · have hf := ite_f hf c17
            refine lv_iconst (v := 0) hx hb dX4_number_63 (by decide) ?_
            exact J_64 x2 x2 0 X6 XQ _ _ ls hP hD hS (lv_sub hl [0, 2] rfl) hf
          · have hf := ite_t hf c17
            refine lv_iconst (v := 1) hx hb dX4_number_59 (by decide) ?_
            refine lv_goto (tgt := 64) hx hb dX4_number_60 (by decide) ?_
            exact J_64 x2 x2 1 X6 XQ _ _ ls hP hD hS (lv_sub hl [0, 2] rfl) hf
        obtain ⟨j41, ej41, hf⟩ := sl_el hf
        have J_41 : ∀ (x1 x2 k1 : Int32) (XP : DM) (XQ : DM) (H : Heap) (locs : List Loc) (ls : Array Slot), va_P g.1 vwCl (pW g aW (aP 0) (aQ 0) XW ++ (pP g aP XP ++ (pP g aQ XQ))) H → va_D A (pW g aW (aP 0) (aQ 0) XW ++ (pP g aP XP ++ (pP g aQ XQ))) → va_S A s.heap H locs → lv_has ls 3 [(0, .ref (aW 0)), (1, .int x1), (2, .int x2)] → j41 x1 x2 k1 XP XQ = some (XPz, XQz) → W p l e (headSpec wsX4_number rmX4_number).room s m args below meth c H locs 0 0 Q0 (F0 m 41 ls [.int k1, .ref (aP 0)]) := by
          intro x1 x2 k1 XP XQ H locs ls hP hD hS hl hf
          rw [ej41] at hf
          refine lv_iconst (v := 1) hx hb dX4_number_41 (by decide) ?_
          refine lv_goto (tgt := 46) hx hb dX4_number_42 (by decide) ?_
          exact J_46 x1 x2 k1 1 XP XQ _ _ ls hP hD hS (lv_sub hl [0, 1, 2] rfl) hf
        refine lv_icmp_eq (tgt := 41) hx hb dX4_number_33 (by decide) (fun c18 => ?_) (fun c18 => ?_)
        · have hf := ite_t hf c18
          exact J_41 x1 x2 x2 XP XQ _ _ ls hP hD hS (lv_sub hl [0, 1, 2] rfl) hf
        · have hf := ite_f hf c18
          refine lv_iload_n hx hb dX4_number_36 rfl (lv_at hl 1 rfl) ?_
          refine lv_iconst (v := 3) hx hb dX4_number_37 (by decide) ?_
          refine lv_icmp_ne (tgt := 45) hx hb dX4_number_38 (by decide) (fun c19 => ?_) (fun c19 => ?_)
          · have hf := ite_f hf c19
            refine lv_iconst (v := 0) hx hb dX4_number_45 (by decide) ?_
            exact J_46 x1 x2 x2 0 XP XQ _ _ ls hP hD hS (lv_sub hl [0, 1, 2] rfl) hf
          · have hf := ite_t hf c19
            exact J_41 x1 x2 x2 XP XQ _ _ ls hP hD hS (lv_sub hl [0, 1, 2] rfl) hf
  exact L_18 n 3 0 X1 X3 _ _ ls hP hD hS (lv_sub hl [2, 1, 0] rfl) hf
abbrev rmX4_read : Room := { frames := 4, cells := 0, slots := 0, locals := 94 }
set_option maxHeartbeats 8000000 in
set_option maxRecDepth 100000 in
theorem c_X4_read (l : Launch) (g : GG) (b1 N1 : Nat) (aW : Nat → Nat) (aP : Nat → Nat) (aQ : Nat → Nat) (sz : Nat) (n : Nat) (fr1 : (Nat → Int32)) (XW : DM) (XP : DM) (XQ : DM) (p2 : Int32) (XWz : DM) (XPz : DM) (XQz : DM) (hf : fX4_read n N1 fr1 XW XP XQ p2 = some (XWz, XPz, XQz)) : Met l yX4_read wsX4_read rmX4_read (va_Pc [.ref (aW 0), .ref b1, .int p2] (fun U => U.heap.size = sz ∧ va_P g.1 vwCl (pR g b1 N1 fr1 ++ (pW g aW (aP 0) (aQ 0) XW ++ (pP g aP XP ++ (pP g aQ XQ)))) U.heap ∧ KW g U ∧ va_D (fun _ => True) (pR g b1 N1 fr1 ++ (pW g aW (aP 0) (aQ 0) XW ++ (pP g aP XP ++ (pP g aQ XQ)))))) (va_Qv (fun (_ : Unit) => True) (fun (_ : Unit) t => va_P g.1 vwCl (pR g b1 N1 fr1 ++ (pW g aW (aP 0) (aQ 0) XWz ++ (pP g aP XPz ++ (pP g aQ XQz)))) t.heap) (va_A (pR g b1 N1 fr1 ++ (pW g aW (aP 0) (aQ 0) XW ++ (pP g aP XP ++ (pP g aQ XQ)))) sz)) 0 0 (va_A (pR g b1 N1 fr1 ++ (pW g aW (aP 0) (aQ 0) XW ++ (pP g aP XP ++ (pP g aQ XQ)))) sz) := by
  refine Met.ofW (cc := cX4_read) (maxL := 5) (ret := none) (by decide) rfl ?_
  intro p e s m args below meth c s₁ B hml hv
  obtain ⟨hargs, hsz, hP, hKW, hD0⟩ := hv
  have hK := hKW.1
  have hx := B.exec
  have hb := B.bytes
  have hr := B.returns
  have hts := atoms_spec (ws := wsX4_read) B.pre
  have hown : s.vm.findClass RX4 = some m.cls := findClass_of_methodNamed B.named
  have hlocks := B.notSynchronized
  subst hsz
  have hD := hD0.self (sz := s.heap.size)
  generalize hAe : va_A (pR g b1 N1 fr1 ++ (pW g aW (aP 0) (aQ 0) XW ++ (pP g aP XP ++ (pP g aQ XQ)))) s.heap.size = A at hD ⊢
  have hA : ∀ q : Nat, s.heap.size ≤ q → A q := fun q h => by rw [← hAe]; exact Or.inr h
  have hS : va_S A s.heap s.heap [] := va_S.rf
  have i_X4 : ∀ w ∈ wsX40, w ∈ wsX4_read := fun w h => List.mem_cons_of_mem _ (List.mem_append_left _ (List.mem_append_right _ h))
  have i_X2 : ∀ w ∈ wsX20, w ∈ wsX4_read := fun w h => List.mem_cons_of_mem _ (List.mem_append_right _ h)
  have hent : entryFrame m args 5 = F0 m 0 ((lg_sl ([.ref (aW 0), .ref b1, .int p2]) ++ List.replicate (5 - (lg_sl ([.ref (aW 0), .ref b1, .int p2])).length) Slot.unset).toArray) [] := by rw [hargs]; exact lg_entry_eq _ _ _
  rw [hent]
  have hl := lv_entry ([.ref (aW 0), .ref b1, .int p2]) (n := 5) (Nat.le_of_ble_eq_true rfl)
  generalize (lg_sl ([.ref (aW 0), .ref b1, .int p2]) ++ List.replicate (5 - (lg_sl ([.ref (aW 0), .ref b1, .int p2])).length) Slot.unset).toArray = ls at hl ⊢
  have hl : lv_has ls 5 [(0, .ref (aW 0)), (1, .ref b1), (2, .int p2)] := hl
  generalize hQ0 : MQ below _ _ _ _ _ _ = Q0
  unfold fX4_read at hf
  refine lv_aload_n hx hb dX4_read_0 rfl (lv_at hl 0 rfl) ?_
  refine lv_iconst (v := 0) hx hb dX4_read_1 (by decide) ?_
  obtain ⟨X1, e2, hf⟩ := sl_el hf
  refine va_put (D := g.1) (ci := 4) (v := .int 0) (ty := .int) (C := RX4) (T := TX4) (N := 9) hx hb hts i_X4 tyX4 tyX4_ok nmX4 hown hK hP hD hS 1 rfl rfl 8 (by decide) (hts (.fieldLink RX4 40 "WordFlasher$Words" "many" "I") (List.mem_of_getElem? (i := 1) rfl)) (fun _ h9 => h9) rfl (by decide +kernel) rfl rfl (Nat.le_of_ble_eq_true rfl) dX4_read_2 (fun H locs hP hD hS => ?_)
  have hP : va_P g.1 vwCl (pR g b1 N1 fr1 ++ (pW g aW (aP 0) (aQ 0) X1 ++ (pP g aP XP ++ (pP g aQ XQ)))) H := by subst e2; exact hP
  have hD : va_D A (pR g b1 N1 fr1 ++ (pW g aW (aP 0) (aQ 0) X1 ++ (pP g aP XP ++ (pP g aQ XQ)))) := by subst e2; exact hD
  refine lv_iconst (v := 0) hx hb dX4_read_5 (by decide) ?_
  refine lv_istore_n (lv' := [(3, .int 0), (0, .ref (aW 0)), (1, .ref b1), (2, .int p2)]) hx hb dX4_read_6 rfl hl (by decide) rfl (fun ls hl => ?_)
  refine lv_iconst (v := 0) hx hb dX4_read_7 (by decide) ?_
  refine lv_istore (lv' := [(4, .int 0), (3, .int 0), (0, .ref (aW 0)), (1, .ref b1), (2, .int p2)]) hx hb dX4_read_8 hl (by decide) rfl (fun ls hl => ?_)
  obtain ⟨j58, ej58, hf⟩ := sl_el hf
  have J_58 : ∀ (XW : DM) (XP : DM) (XQ : DM) (H : Heap) (locs : List Loc) (ls : Array Slot), va_P g.1 vwCl (pR g b1 N1 fr1 ++ (pW g aW (aP 0) (aQ 0) XW ++ (pP g aP XP ++ (pP g aQ XQ)))) H → va_D A (pR g b1 N1 fr1 ++ (pW g aW (aP 0) (aQ 0) XW ++ (pP g aP XP ++ (pP g aQ XQ)))) → va_S A s.heap H locs → lv_has ls 5 [(0, .ref (aW 0))] → j58 XW XP XQ = some (XWz, XPz, XQz) → W p l e (headSpec wsX4_read rmX4_read).room s m args below meth c H locs 0 0 Q0 (F0 m 58 ls []) := by
    intro XW XP XQ H locs ls hP hD hS hl hf
    rw [ej58] at hf
    refine lv_aload_n hx hb dX4_read_58 rfl (lv_at hl 0 rfl) ?_
    obtain ⟨u6, h5, hf⟩ := bnd_el hf
    refine wr_v (rest := []) (wc := (pW g aW (aP 0) (aQ 0) XW ++ (pP g aP XP ++ (pP g aQ XQ)))) (wc' := (pW g aW (aP 0) (aQ 0) XW ++ (pP g aP u6.1 ++ (pP g aQ u6.2)))) (ws2 := (pR g b1 N1 fr1 ++ (pW g aW (aP 0) (aQ 0) XW ++ (pP g aP u6.1 ++ (pP g aQ u6.2))))) hP hD hS hA [1, 2, 3, 4, 5, 6, 7, 8, 9, 10, 11, 12, 13, 14, 15] rfl rfl (by rfl) (rnV (As := []) ⟨hx, hb, hml, hown, hts⟩ (c_X4_number l g aW aP aQ _ _ _ _ _ _ _ h5) (cwV 0 hts gX4_read_X4_number rfl rfl rfl (by decide +kernel) ⟨Nat.le_of_ble_eq_true rfl, Nat.le_of_ble_eq_true rfl⟩) hKW hP hD [1, 2, 3, 4, 5, 6, 7, 8, 9, 10, 11, 12, 13, 14, 15] (by decide) rfl (va_recv hK hP (ci := 4) (q0 := 1) rfl rfl) rfl hl.1 rfl (lv_room (Nat.le_of_ble_eq_true rfl)) dX4_read_59 ⟨Nat.zero_le _, Nat.zero_le _⟩) (fun H locs hP hD hS => ?_)
    have er0 := Option.some.inj hf
    obtain ⟨er0, er1⟩ := Prod.mk.inj er0
    obtain ⟨er1, er2⟩ := Prod.mk.inj er1
    rw [← hQ0]; exact W.vret hx hb hr (fun t ht hW => ⟨⟨(), rfl, trivial, by dsimp only; rw [ht, ← er0, ← er1, ← er2]; exact hP⟩, hS.F ht⟩) hS.2.2 dX4_read_62
  have L_10 : ∀ fu : Nat, ∀ (x2 x3 x4 : Int32) (XW : DM) (XP : DM) (XQ : DM) (H : Heap) (locs : List Loc) (ls : Array Slot), va_P g.1 vwCl (pR g b1 N1 fr1 ++ (pW g aW (aP 0) (aQ 0) XW ++ (pP g aP XP ++ (pP g aQ XQ)))) H → va_D A (pR g b1 N1 fr1 ++ (pW g aW (aP 0) (aQ 0) XW ++ (pP g aP XP ++ (pP g aQ XQ)))) → va_S A s.heap H locs → lv_has ls 5 [(0, .ref (aW 0)), (1, .ref b1), (2, .int x2), (3, .int x3), (4, .int x4)] → fX4_read_L10 n N1 fr1 j58 fu x2 x3 x4 XW XP XQ = some (XWz, XPz, XQz) → W p l e (headSpec wsX4_read rmX4_read).room s m args below meth c H locs 0 0 Q0 (F0 m 10 ls []) := by
    intro fu
    induction fu with
    | zero => intros; rename_i hf; rw [fX4_read_L10] at hf; cases hf
    | succ fu ih =>
      intro x2 x3 x4 XW XP XQ H locs ls hP hD hS hl hf
      rw [fX4_read_L10] at hf
      refine lv_iload hx hb dX4_read_10 (lv_at hl 4 rfl) ?_
      refine lv_iload_n hx hb dX4_read_12 rfl (lv_at hl 2 rfl) ?_
      refine lv_icmp_gt (tgt := 58) hx hb dX4_read_13 (by decide) (fun c7 => ?_) (fun c7 => ?_)
      · have hf := ite_t hf c7
        exact J_58 XW XP XQ _ _ ls hP hD hS (lv_sub hl [0] rfl) hf
      · have hf := ite_f hf c7
        refine lv_iload hx hb dX4_read_16 (lv_at hl 4 rfl) ?_
        refine lv_iload_n hx hb dX4_read_18 rfl (lv_at hl 2 rfl) ?_
        obtain ⟨j52, ej52, hf⟩ := sl_el hf
        have J_52 : ∀ (x2 x3 x4 : Int32) (XW : DM) (XP : DM) (XQ : DM) (H : Heap) (locs : List Loc) (ls : Array Slot), va_P g.1 vwCl (pR g b1 N1 fr1 ++ (pW g aW (aP 0) (aQ 0) XW ++ (pP g aP XP ++ (pP g aQ XQ)))) H → va_D A (pR g b1 N1 fr1 ++ (pW g aW (aP 0) (aQ 0) XW ++ (pP g aP XP ++ (pP g aQ XQ)))) → va_S A s.heap H locs → lv_has ls 5 [(0, .ref (aW 0)), (1, .ref b1), (2, .int x2), (3, .int x3), (4, .int x4)] → j52 x2 x3 x4 XW XP XQ = some (XWz, XPz, XQz) → W p l e (headSpec wsX4_read rmX4_read).room s m args below meth c H locs 0 0 Q0 (F0 m 52 ls []) := by
          intro x2 x3 x4 XW XP XQ H locs ls hP hD hS hl hf
          rw [ej52] at hf
          obtain ⟨v8, e9, hf⟩ := sl_el hf
          refine lv_iinc (v := v8) (lv' := [(4, .int v8), (0, .ref (aW 0)), (1, .ref b1), (2, .int x2), (3, .int x3)]) hx hb dX4_read_52 hl (k := 4) rfl (by rw [e9]; rfl) (by decide) rfl (fun ls hl => ?_)
          refine lv_goto (tgt := 10) hx hb dX4_read_55 (by decide) ?_
          exact ih x2 x3 v8 XW XP XQ _ _ ls hP hD hS (lv_sub hl [1, 2, 3, 4, 0] rfl) hf
        obtain ⟨j33, ej33, hf⟩ := sl_el hf
        have J_33 : ∀ (x2 x3 x4 : Int32) (XW : DM) (XP : DM) (XQ : DM) (H : Heap) (locs : List Loc) (ls : Array Slot), va_P g.1 vwCl (pR g b1 N1 fr1 ++ (pW g aW (aP 0) (aQ 0) XW ++ (pP g aP XP ++ (pP g aQ XQ)))) H → va_D A (pR g b1 N1 fr1 ++ (pW g aW (aP 0) (aQ 0) XW ++ (pP g aP XP ++ (pP g aQ XQ)))) → va_S A s.heap H locs → lv_has ls 5 [(0, .ref (aW 0)), (1, .ref b1), (2, .int x2), (3, .int x3), (4, .int x4)] → j33 x2 x3 x4 XW XP XQ = some (XWz, XPz, XQz) → W p l e (headSpec wsX4_read rmX4_read).room s m args below meth c H locs 0 0 Q0 (F0 m 33 ls []) := by
          intro x2 x3 x4 XW XP XQ H locs ls hP hD hS hl hf
          rw [ej33] at hf
          refine lv_iload hx hb dX4_read_33 (lv_at hl 4 rfl) ?_
          refine lv_iload_n hx hb dX4_read_35 rfl (lv_at hl 3 rfl) ?_
          obtain ⟨j47, ej47, hf⟩ := sl_el hf
          have J_47 : ∀ (x2 x4 : Int32) (XW : DM) (XP : DM) (XQ : DM) (H : Heap) (locs : List Loc) (ls : Array Slot), va_P g.1 vwCl (pR g b1 N1 fr1 ++ (pW g aW (aP 0) (aQ 0) XW ++ (pP g aP XP ++ (pP g aQ XQ)))) H → va_D A (pR g b1 N1 fr1 ++ (pW g aW (aP 0) (aQ 0) XW ++ (pP g aP XP ++ (pP g aQ XQ)))) → va_S A s.heap H locs → lv_has ls 5 [(0, .ref (aW 0)), (1, .ref b1), (2, .int x2), (4, .int x4)] → j47 x2 x4 XW XP XQ = some (XWz, XPz, XQz) → W p l e (headSpec wsX4_read rmX4_read).room s m args below meth c H locs 0 0 Q0 (F0 m 47 ls []) := by
            intro x2 x4 XW XP XQ H locs ls hP hD hS hl hf
            rw [ej47] at hf
            refine lv_iload hx hb dX4_read_47 (lv_at hl 3 rfl) ?_
            refine lv_iconst (v := 1) hx hb dX4_read_49 (by decide) ?_
            refine lv_iadd hx hb dX4_read_50 ?_
            obtain ⟨v10, e11, hf⟩ := sl_el hf
            refine lv_as e11 ?_
            refine lv_istore_n (lv' := [(3, .int v10), (0, .ref (aW 0)), (1, .ref b1), (2, .int x2), (4, .int x4)]) hx hb dX4_read_51 rfl hl (by decide) rfl (fun ls hl => ?_)
            exact J_52 x2 v10 x4 XW XP XQ _ _ ls hP hD hS (lv_sub hl [1, 2, 3, 0, 4] rfl) hf
          refine lv_icmp_le (tgt := 47) hx hb dX4_read_36 (by decide) (fun c12 => ?_) (fun c12 => ?_)
          · have hf := ite_t hf c12
            exact J_47 x2 x4 XW XP XQ _ _ ls hP hD hS (lv_sub hl [0, 1, 2, 4] rfl) hf
          · have hf := ite_f hf c12
            refine lv_aload_n hx hb dX4_read_39 rfl (lv_at hl 0 rfl) ?_
            refine lv_aload_n hx hb dX4_read_40 rfl (lv_at hl 1 rfl) ?_
            refine lv_iload_n hx hb dX4_read_41 rfl (lv_at hl 3 rfl) ?_
            refine lv_iload hx hb dX4_read_42 (lv_at hl 4 rfl) ?_
            obtain ⟨X13, h14, hf⟩ := bnd_el hf
            refine wr_v (rest := []) (wc := (pR g b1 N1 fr1 ++ (pW g aW (aP 0) (aQ 0) XW))) (wc' := (pR g b1 N1 fr1 ++ (pW g aW (aP 0) (aQ 0) X13))) (ws2 := (pR g b1 N1 fr1 ++ (pW g aW (aP 0) (aQ 0) X13 ++ (pP g aP XP ++ (pP g aQ XQ))))) hP hD hS hA [0, 1, 2, 3, 4, 5, 6, 7] rfl rfl (by rfl) (rnV (As := [.ref b1, .int x3, .int x4]) ⟨hx, hb, hml, hown, hts⟩ (c_X4_add l g b1 N1 aW aP aQ _ _ _ _ _ _ _ h14) (cwV 3 hts gX4_read_X4_add rfl rfl rfl (by decide +kernel) ⟨Nat.le_of_ble_eq_true rfl, Nat.le_of_ble_eq_true rfl⟩) hKW hP hD [0, 1, 2, 3, 4, 5, 6, 7] (by decide) rfl (va_recv hK hP (ci := 4) (q0 := 1) rfl rfl) rfl hl.1 rfl (lv_room (Nat.le_of_ble_eq_true rfl)) dX4_read_44 ⟨Nat.zero_le _, Nat.zero_le _⟩) (fun H locs hP hD hS => ?_)
            exact J_47 x2 x4 X13 XP XQ _ _ ls hP hD hS (lv_sub hl [0, 1, 2, 4] rfl) hf
        refine lv_icmp_eq (tgt := 33) hx hb dX4_read_19 (by decide) (fun c15 => ?_) (fun c15 => ?_)
        · have hf := ite_t hf c15
          exact J_33 x2 x3 x4 XW XP XQ _ _ ls hP hD hS (lv_sub hl [0, 1, 2, 3, 4] rfl) hf
        · have hf := ite_f hf c15
          refine lv_aload_n hx hb dX4_read_22 rfl (lv_at hl 1 rfl) ?_
          refine lv_iload hx hb dX4_read_23 (lv_at hl 4 rfl) ?_
          obtain ⟨r16, h17, hf⟩ := bnd_el hf
          refine rdN (As := [.ref b1, .int x4]) (rest := []) ⟨hx, hb, hml, hown, hts⟩ (c_X5_at l g b1 N1 _ _ _ h17) ⟨va_cnB 2 hts gX4_read_X5_at_n44 rfl rfl rfl (hKW.2 _ (List.mem_of_getElem? (i := 5) rfl)) (hts (.initialized RX5) (List.mem_of_getElem? (i := 3) rfl)) (by decide +kernel) ⟨Nat.le_of_ble_eq_true rfl, Nat.le_of_ble_eq_true rfl⟩, (hts (.static yX5_at) (List.mem_of_getElem? (i := 2) rfl)), trivial⟩ hKW hP [0] rfl rfl hl.1 rfl (lv_room (Nat.le_of_ble_eq_true rfl)) dX4_read_25 ⟨Nat.zero_le _, Nat.zero_le _⟩ (fun r18 q19 => ?_)
          obtain ⟨q19, nb20⟩ := q19
          refine lv_as q19.symm ?_
          refine lv_bipush (v := 32) hx hb dX4_read_28 (by decide) ?_
          refine lv_icmp_ne (tgt := 52) hx hb dX4_read_30 (by decide) (fun c21 => ?_) (fun c21 => ?_)
          · have hf := ite_f hf c21
            exact J_52 x2 x3 x4 XW XP XQ _ _ ls hP hD hS (lv_sub hl [0, 1, 2, 3, 4] rfl) hf
          · have hf := ite_t hf c21
            exact J_33 x2 x3 x4 XW XP XQ _ _ ls hP hD hS (lv_sub hl [0, 1, 2, 3, 4] rfl) hf
  exact L_10 n p2 0 0 X1 XP XQ _ _ ls hP hD hS (lv_sub hl [2, 3, 4, 1, 0] rfl) hf
