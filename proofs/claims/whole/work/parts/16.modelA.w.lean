abbrev rmX6_in : Room := { frames := 0, cells := 0, slots := 0, locals := 0 }
set_option maxHeartbeats 8000000 in
set_option maxRecDepth 100000 in
theorem c_X6_in (l : Launch) (g : GG)  (p0 p1 p2 : Int32) (r : Int32) (hf : fX6_in p0 p1 p2 = some r) : Met l yX6_in wsX6_in rmX6_in (va_Pc [.int p0, .int p1, .int p2] (fun U => va_P g.1 vwCl ([] : va_W) U.heap ∧ KW g U)) (vp_Si (fun r' => r' = r ∧ narrow .boolean (.int r') = .int r')) 0 0 (fun _ => False) := by
  refine Met.ofW (cc := cX6_in) (maxL := 3) (ret := (some .boolean)) (by decide) rfl ?_
  intro p e s m args below meth c s₁ B hml hv
  obtain ⟨hargs, hP, hKW⟩ := hv
  have hK := hKW.1
  have hx := B.exec
  have hb := B.bytes
  have hr := B.returns
  have hts := atoms_spec (ws := wsX6_in) B.pre
  have hown : s.vm.findClass RX6 = some m.cls := findClass_of_methodNamed B.named
  have hlocks := B.notSynchronized
  have hent : entryFrame m args 3 = F0 m 0 ((lg_sl ([.int p0, .int p1, .int p2]) ++ List.replicate (3 - (lg_sl ([.int p0, .int p1, .int p2])).length) Slot.unset).toArray) [] := by rw [hargs]; exact lg_entry_eq _ _ _
  rw [hent]
  have hl := lv_entry ([.int p0, .int p1, .int p2]) (n := 3) (Nat.le_of_ble_eq_true rfl)
  generalize (lg_sl ([.int p0, .int p1, .int p2]) ++ List.replicate (3 - (lg_sl ([.int p0, .int p1, .int p2])).length) Slot.unset).toArray = ls at hl ⊢
  have hl : lv_has ls 3 [(0, .int p0), (1, .int p1), (2, .int p2)] := hl
  generalize hQ0 : MQ below _ _ _ _ _ _ = Q0
  unfold fX6_in at hf
  refine lv_iload_n hx hb dX6_in_0 rfl (lv_at hl 0 rfl) ?_
  refine lv_iload_n hx hb dX6_in_1 rfl (lv_at hl 1 rfl) ?_
  refine lv_icmp_lt (tgt := 14) hx hb dX6_in_2 (by decide) (fun c1 => ?_) (fun c1 => ?_)
  · have hf := ite_t hf c1
    refine lv_iconst (v := 0) hx hb dX6_in_14 (by decide) ?_
    have er0 := Option.some.inj hf
    rw [← hQ0]; exact W.zret (v := 0) hx hb hr rfl (fun t ht hW => ⟨0, rfl, ⟨er0, rfl⟩, ht⟩) (fun q h => by cases h) dX6_in_15
  · have hf := ite_f hf c1
    refine lv_iload_n hx hb dX6_in_5 rfl (lv_at hl 0 rfl) ?_
    refine lv_iload_n hx hb dX6_in_6 rfl (lv_at hl 2 rfl) ?_
    refine lv_icmp_gt (tgt := 14) hx hb dX6_in_7 (by decide) (fun c2 => ?_) (fun c2 => ?_)
    · have hf := ite_t hf c2
      refine lv_iconst (v := 0) hx hb dX6_in_14 (by decide) ?_
      have er0 := Option.some.inj hf
      rw [← hQ0]; exact W.zret (v := 0) hx hb hr rfl (fun t ht hW => ⟨0, rfl, ⟨er0, rfl⟩, ht⟩) (fun q h => by cases h) dX6_in_15
    · have hf := ite_f hf c2
      refine lv_iconst (v := 1) hx hb dX6_in_10 (by decide) ?_
      refine lv_goto (tgt := 15) hx hb dX6_in_11 (by decide) ?_
      have er0 := Option.some.inj hf
      rw [← hQ0]; exact W.zret (v := 1) hx hb hr rfl (fun t ht hW => ⟨1, rfl, ⟨er0, rfl⟩, ht⟩) (fun q h => by cases h) dX6_in_15
abbrev rmX6_isWord : Room := { frames := 1, cells := 0, slots := 0, locals := 22 }
set_option maxHeartbeats 8000000 in
set_option maxRecDepth 100000 in
theorem c_X6_isWord (l : Launch) (g : GG) (aM : Nat → Nat) (XM : DM) (p1 : Int32) (r : Int32) (hf : fX6_isWord XM p1 = some r) : Met l yX6_isWord wsX6_isWord rmX6_isWord (va_Pc [.ref (aM 0), .int p1] (fun U => va_P g.1 vwCl (pM g aM XM) U.heap ∧ KW g U)) (vp_Si (fun r' => r' = r ∧ narrow .boolean (.int r') = .int r')) 0 0 (fun _ => False) := by
  refine Met.ofW (cc := cX6_isWord) (maxL := 2) (ret := (some .boolean)) (by decide) rfl ?_
  intro p e s m args below meth c s₁ B hml hv
  obtain ⟨hargs, hP, hKW⟩ := hv
  have hK := hKW.1
  have hx := B.exec
  have hb := B.bytes
  have hr := B.returns
  have hts := atoms_spec (ws := wsX6_isWord) B.pre
  have hown : s.vm.findClass RX6 = some m.cls := findClass_of_methodNamed B.named
  have hlocks := B.notSynchronized
  have i_X6 : ∀ w ∈ wsX60, w ∈ wsX6_isWord := fun w h => List.mem_cons_of_mem _ (List.mem_append_right _ h)
  have hent : entryFrame m args 2 = F0 m 0 ((lg_sl ([.ref (aM 0), .int p1]) ++ List.replicate (2 - (lg_sl ([.ref (aM 0), .int p1])).length) Slot.unset).toArray) [] := by rw [hargs]; exact lg_entry_eq _ _ _
  rw [hent]
  have hl := lv_entry ([.ref (aM 0), .int p1]) (n := 2) (Nat.le_of_ble_eq_true rfl)
  generalize (lg_sl ([.ref (aM 0), .int p1]) ++ List.replicate (2 - (lg_sl ([.ref (aM 0), .int p1])).length) Slot.unset).toArray = ls at hl ⊢
  have hl : lv_has ls 2 [(0, .ref (aM 0)), (1, .int p1)] := hl
  generalize hQ0 : MQ below _ _ _ _ _ _ = Q0
  unfold fX6_isWord at hf
  refine lv_iload_n hx hb dX6_isWord_0 rfl (lv_at hl 1 rfl) ?_
  refine lv_iconst (v := 0) hx hb dX6_isWord_1 (by decide) ?_
  refine lv_aload_n hx hb dX6_isWord_2 rfl (lv_at hl 0 rfl) ?_
  refine va_get (D := g.1) (ci := 6) (v := .int (XM 9 0)) (C := RX6) (T := TX6) (N := 19) hx hb hts i_X6 hown hK hP 0 rfl rfl 9 (by decide) (hts (.fieldLink RX6 45 "WordFlasherModel" "words" "I") (List.mem_of_getElem? (i := 1) rfl)) (fun _ h9 => h9) rfl dX6_isWord_3 ?_
  refine lv_iconst (v := 1) hx hb dX6_isWord_6 (by decide) ?_
  refine lv_isub hx hb dX6_isWord_7 ?_
  obtain ⟨r1, h2, hf⟩ := bnd_el hf
  refine rdS (As := [.int p1, .int 0, .int ((XM 9 0) - 1)]) (rest := []) ⟨hx, hb, hml, hown, hts⟩ (c_X6_in l g _ _ _ _ h2) (va_cwS 3 hts gX6_isWord_X6_in rfl rfl rfl (by decide +kernel) ⟨Nat.le_of_ble_eq_true rfl, Nat.le_of_ble_eq_true rfl⟩) hKW hP [] rfl rfl hl.1 rfl (lv_room (Nat.le_of_ble_eq_true rfl)) dX6_isWord_8 ⟨Nat.zero_le _, Nat.zero_le _⟩ (fun r3 q4 => ?_)
  obtain ⟨q4, nb5⟩ := q4
  refine lv_as q4.symm ?_
  rw [q4] at nb5
  have er0 := Option.some.inj hf
  rw [← hQ0]; exact W.zret (v := r1) hx hb hr nb5 (fun t ht hW => ⟨r1, rfl, ⟨er0, nb5⟩, ht⟩) (fun q h => by cases h) dX6_isWord_11
abbrev rmX6_isSentence : Room := { frames := 1, cells := 0, slots := 0, locals := 22 }
set_option maxHeartbeats 8000000 in
set_option maxRecDepth 100000 in
theorem c_X6_isSentence (l : Launch) (g : GG) (aM : Nat → Nat) (XM : DM) (p1 : Int32) (r : Int32) (hf : fX6_isSentence XM p1 = some r) : Met l yX6_isSentence wsX6_isSentence rmX6_isSentence (va_Pc [.ref (aM 0), .int p1] (fun U => va_P g.1 vwCl (pM g aM XM) U.heap ∧ KW g U)) (vp_Si (fun r' => r' = r ∧ narrow .boolean (.int r') = .int r')) 0 0 (fun _ => False) := by
  refine Met.ofW (cc := cX6_isSentence) (maxL := 2) (ret := (some .boolean)) (by decide) rfl ?_
  intro p e s m args below meth c s₁ B hml hv
  obtain ⟨hargs, hP, hKW⟩ := hv
  have hK := hKW.1
  have hx := B.exec
  have hb := B.bytes
  have hr := B.returns
  have hts := atoms_spec (ws := wsX6_isSentence) B.pre
  have hown : s.vm.findClass RX6 = some m.cls := findClass_of_methodNamed B.named
  have hlocks := B.notSynchronized
  have i_X6 : ∀ w ∈ wsX60, w ∈ wsX6_isSentence := fun w h => List.mem_cons_of_mem _ (List.mem_append_right _ h)
  have hent : entryFrame m args 2 = F0 m 0 ((lg_sl ([.ref (aM 0), .int p1]) ++ List.replicate (2 - (lg_sl ([.ref (aM 0), .int p1])).length) Slot.unset).toArray) [] := by rw [hargs]; exact lg_entry_eq _ _ _
  rw [hent]
  have hl := lv_entry ([.ref (aM 0), .int p1]) (n := 2) (Nat.le_of_ble_eq_true rfl)
  generalize (lg_sl ([.ref (aM 0), .int p1]) ++ List.replicate (2 - (lg_sl ([.ref (aM 0), .int p1])).length) Slot.unset).toArray = ls at hl ⊢
  have hl : lv_has ls 2 [(0, .ref (aM 0)), (1, .int p1)] := hl
  generalize hQ0 : MQ below _ _ _ _ _ _ = Q0
  unfold fX6_isSentence at hf
  refine lv_iload_n hx hb dX6_isSentence_0 rfl (lv_at hl 1 rfl) ?_
  refine lv_iconst (v := 0) hx hb dX6_isSentence_1 (by decide) ?_
  refine lv_aload_n hx hb dX6_isSentence_2 rfl (lv_at hl 0 rfl) ?_
  refine va_get (D := g.1) (ci := 6) (v := .int (XM 10 0)) (C := RX6) (T := TX6) (N := 19) hx hb hts i_X6 hown hK hP 0 rfl rfl 10 (by decide) (hts (.fieldLink RX6 53 "WordFlasherModel" "sentences" "I") (List.mem_of_getElem? (i := 1) rfl)) (fun _ h9 => h9) rfl dX6_isSentence_3 ?_
  refine lv_iconst (v := 1) hx hb dX6_isSentence_6 (by decide) ?_
  refine lv_isub hx hb dX6_isSentence_7 ?_
  obtain ⟨r1, h2, hf⟩ := bnd_el hf
  refine rdS (As := [.int p1, .int 0, .int ((XM 10 0) - 1)]) (rest := []) ⟨hx, hb, hml, hown, hts⟩ (c_X6_in l g _ _ _ _ h2) (va_cwS 3 hts gX6_isSentence_X6_in rfl rfl rfl (by decide +kernel) ⟨Nat.le_of_ble_eq_true rfl, Nat.le_of_ble_eq_true rfl⟩) hKW hP [] rfl rfl hl.1 rfl (lv_room (Nat.le_of_ble_eq_true rfl)) dX6_isSentence_8 ⟨Nat.zero_le _, Nat.zero_le _⟩ (fun r3 q4 => ?_)
  obtain ⟨q4, nb5⟩ := q4
  refine lv_as q4.symm ?_
  rw [q4] at nb5
  have er0 := Option.some.inj hf
  rw [← hQ0]; exact W.zret (v := r1) hx hb hr nb5 (fun t ht hW => ⟨r1, rfl, ⟨er0, nb5⟩, ht⟩) (fun q h => by cases h) dX6_isSentence_11
abbrev rmX6_isPage : Room := { frames := 1, cells := 0, slots := 0, locals := 22 }
set_option maxHeartbeats 8000000 in
set_option maxRecDepth 100000 in
theorem c_X6_isPage (l : Launch) (g : GG) (aM : Nat → Nat) (XM : DM) (p1 : Int32) (r : Int32) (hf : fX6_isPage XM p1 = some r) : Met l yX6_isPage wsX6_isPage rmX6_isPage (va_Pc [.ref (aM 0), .int p1] (fun U => va_P g.1 vwCl (pM g aM XM) U.heap ∧ KW g U)) (vp_Si (fun r' => r' = r ∧ narrow .boolean (.int r') = .int r')) 0 0 (fun _ => False) := by
  refine Met.ofW (cc := cX6_isPage) (maxL := 2) (ret := (some .boolean)) (by decide) rfl ?_
  intro p e s m args below meth c s₁ B hml hv
  obtain ⟨hargs, hP, hKW⟩ := hv
  have hK := hKW.1
  have hx := B.exec
  have hb := B.bytes
  have hr := B.returns
  have hts := atoms_spec (ws := wsX6_isPage) B.pre
  have hown : s.vm.findClass RX6 = some m.cls := findClass_of_methodNamed B.named
  have hlocks := B.notSynchronized
  have i_X6 : ∀ w ∈ wsX60, w ∈ wsX6_isPage := fun w h => List.mem_cons_of_mem _ (List.mem_append_right _ h)
  have hent : entryFrame m args 2 = F0 m 0 ((lg_sl ([.ref (aM 0), .int p1]) ++ List.replicate (2 - (lg_sl ([.ref (aM 0), .int p1])).length) Slot.unset).toArray) [] := by rw [hargs]; exact lg_entry_eq _ _ _
  rw [hent]
  have hl := lv_entry ([.ref (aM 0), .int p1]) (n := 2) (Nat.le_of_ble_eq_true rfl)
  generalize (lg_sl ([.ref (aM 0), .int p1]) ++ List.replicate (2 - (lg_sl ([.ref (aM 0), .int p1])).length) Slot.unset).toArray = ls at hl ⊢
  have hl : lv_has ls 2 [(0, .ref (aM 0)), (1, .int p1)] := hl
  generalize hQ0 : MQ below _ _ _ _ _ _ = Q0
  unfold fX6_isPage at hf
  refine lv_iload_n hx hb dX6_isPage_0 rfl (lv_at hl 1 rfl) ?_
  refine lv_iconst (v := 0) hx hb dX6_isPage_1 (by decide) ?_
  refine lv_aload_n hx hb dX6_isPage_2 rfl (lv_at hl 0 rfl) ?_
  refine va_get (D := g.1) (ci := 6) (v := .int (XM 11 0)) (C := RX6) (T := TX6) (N := 19) hx hb hts i_X6 hown hK hP 0 rfl rfl 11 (by decide) (hts (.fieldLink RX6 56 "WordFlasherModel" "pages" "I") (List.mem_of_getElem? (i := 1) rfl)) (fun _ h9 => h9) rfl dX6_isPage_3 ?_
  refine lv_iconst (v := 1) hx hb dX6_isPage_6 (by decide) ?_
  refine lv_isub hx hb dX6_isPage_7 ?_
  obtain ⟨r1, h2, hf⟩ := bnd_el hf
  refine rdS (As := [.int p1, .int 0, .int ((XM 11 0) - 1)]) (rest := []) ⟨hx, hb, hml, hown, hts⟩ (c_X6_in l g _ _ _ _ h2) (va_cwS 3 hts gX6_isPage_X6_in rfl rfl rfl (by decide +kernel) ⟨Nat.le_of_ble_eq_true rfl, Nat.le_of_ble_eq_true rfl⟩) hKW hP [] rfl rfl hl.1 rfl (lv_room (Nat.le_of_ble_eq_true rfl)) dX6_isPage_8 ⟨Nat.zero_le _, Nat.zero_le _⟩ (fun r3 q4 => ?_)
  obtain ⟨q4, nb5⟩ := q4
  refine lv_as q4.symm ?_
  rw [q4] at nb5
  have er0 := Option.some.inj hf
  rw [← hQ0]; exact W.zret (v := r1) hx hb hr nb5 (fun t ht hW => ⟨r1, rfl, ⟨er0, nb5⟩, ht⟩) (fun q h => by cases h) dX6_isPage_11
abbrev rmX6_records : Room := { frames := 0, cells := 0, slots := 0, locals := 0 }
set_option maxHeartbeats 8000000 in
set_option maxRecDepth 100000 in
theorem c_X6_records (l : Launch) (g : GG) (aM : Nat → Nat) (sz : Nat) (n : Nat) (XM : DM) (XMz : DM) (hf : fX6_records n XM = some XMz) : Met l yX6_records wsX6_records rmX6_records (va_Pc [.ref (aM 0)] (fun U => U.heap.size = sz ∧ va_P g.1 vwCl (pM g aM XM) U.heap ∧ KW g U ∧ va_D (fun _ => True) (pM g aM XM))) (va_Qv (fun (_ : Unit) => True) (fun (_ : Unit) t => va_P g.1 vwCl (pM g aM XMz) t.heap) (va_A (pM g aM XM) sz)) 0 0 (va_A (pM g aM XM) sz) := by
  refine Met.ofW (cc := cX6_records) (maxL := 2) (ret := none) (by decide) rfl ?_
  intro p e s m args below meth c s₁ B hml hv
  obtain ⟨hargs, hsz, hP, hKW, hD0⟩ := hv
  have hK := hKW.1
  have hx := B.exec
  have hb := B.bytes
  have hr := B.returns
  have hts := atoms_spec (ws := wsX6_records) B.pre
  have hown : s.vm.findClass RX6 = some m.cls := findClass_of_methodNamed B.named
  have hlocks := B.notSynchronized
  subst hsz
  have hD := hD0.self (sz := s.heap.size)
  generalize hAe : va_A (pM g aM XM) s.heap.size = A at hD ⊢
  have hA : ∀ q : Nat, s.heap.size ≤ q → A q := fun q h => by rw [← hAe]; exact Or.inr h
  have hS : va_S A s.heap s.heap [] := va_S.rf
  have i_X6 : ∀ w ∈ wsX60, w ∈ wsX6_records := fun w h => List.mem_cons_of_mem _ (List.mem_append_right _ h)
  have hent : entryFrame m args 2 = F0 m 0 ((lg_sl ([.ref (aM 0)]) ++ List.replicate (2 - (lg_sl ([.ref (aM 0)])).length) Slot.unset).toArray) [] := by rw [hargs]; exact lg_entry_eq _ _ _
  rw [hent]
  have hl := lv_entry ([.ref (aM 0)]) (n := 2) (Nat.le_of_ble_eq_true rfl)
  generalize (lg_sl ([.ref (aM 0)]) ++ List.replicate (2 - (lg_sl ([.ref (aM 0)])).length) Slot.unset).toArray = ls at hl ⊢
  have hl : lv_has ls 2 [(0, .ref (aM 0))] := hl
  generalize hQ0 : MQ below _ _ _ _ _ _ = Q0
  unfold fX6_records at hf
  refine lv_aload_n hx hb dX6_records_0 rfl (lv_at hl 0 rfl) ?_
  refine va_get (D := g.1) (ci := 6) (v := .int (XM 2 0)) (C := RX6) (T := TX6) (N := 19) hx hb hts i_X6 hown hK hP 0 rfl rfl 2 (by decide) (hts (.fieldLink RX6 59 "WordFlasherModel" "states" "I") (List.mem_of_getElem? (i := 1) rfl)) (fun _ h9 => h9) rfl dX6_records_1 ?_
  refine lv_iconst (v := 4) hx hb dX6_records_4 (by decide) ?_
  obtain ⟨j49, ej49, hf⟩ := sl_el hf
  have J_49 : ∀ (XM : DM) (H : Heap) (locs : List Loc) (ls : Array Slot), va_P g.1 vwCl (pM g aM XM) H → va_D A (pM g aM XM) → va_S A s.heap H locs → lv_has ls 2 [(0, .ref (aM 0))] → j49 XM = some XMz → W p l e (headSpec wsX6_records rmX6_records).room s m args below meth c H locs 0 0 Q0 (F0 m 49 ls []) := by
    intro XM H locs ls hP hD hS hl hf
    rw [ej49] at hf
    refine lv_iconst (v := 0) hx hb dX6_records_49 (by decide) ?_
    refine lv_istore_n (lv' := [(1, .int 0), (0, .ref (aM 0))]) hx hb dX6_records_50 rfl hl (by decide) rfl (fun ls hl => ?_)
    obtain ⟨j85, ej85, hf⟩ := sl_el hf
    have J_85 : ∀ (XM : DM) (H : Heap) (locs : List Loc) (ls : Array Slot), va_P g.1 vwCl (pM g aM XM) H → va_D A (pM g aM XM) → va_S A s.heap H locs → lv_has ls 2 [(0, .ref (aM 0))] → j85 XM = some XMz → W p l e (headSpec wsX6_records rmX6_records).room s m args below meth c H locs 0 0 Q0 (F0 m 85 ls []) := by
      intro XM H locs ls hP hD hS hl hf
      rw [ej85] at hf
      refine lv_aload_n hx hb dX6_records_85 rfl (lv_at hl 0 rfl) ?_
      refine lv_dup hx hb dX6_records_86 rfl ?_
      refine va_get (D := g.1) (ci := 6) (v := .int (XM 2 0)) (C := RX6) (T := TX6) (N := 19) hx hb hts i_X6 hown hK hP 0 rfl rfl 2 (by decide) (hts (.fieldLink RX6 59 "WordFlasherModel" "states" "I") (List.mem_of_getElem? (i := 1) rfl)) (fun _ h9 => h9) rfl dX6_records_87 ?_
      refine lv_iconst (v := 1) hx hb dX6_records_90 (by decide) ?_
      refine lv_iadd hx hb dX6_records_91 ?_
      obtain ⟨X1, e2, hf⟩ := sl_el hf
      refine va_put (D := g.1) (ci := 6) (v := .int ((XM 2 0) + 1)) (ty := .int) (C := RX6) (T := TX6) (N := 19) hx hb hts i_X6 tyX6 tyX6_ok nmX6 hown hK hP hD hS 0 rfl rfl 2 (by decide) (hts (.fieldLink RX6 59 "WordFlasherModel" "states" "I") (List.mem_of_getElem? (i := 1) rfl)) (fun _ h9 => h9) rfl (by decide +kernel) rfl rfl (Nat.le_of_ble_eq_true rfl) dX6_records_92 (fun H locs hP hD hS => ?_)
      have hP : va_P g.1 vwCl (pM g aM X1) H := by subst e2; exact hP
      have hD : va_D A (pM g aM X1) := by subst e2; exact hD
      have er0 := Option.some.inj hf
      rw [← hQ0]; exact W.vret hx hb hr (fun t ht hW => ⟨⟨(), rfl, trivial, by dsimp only; rw [ht, ← er0]; exact hP⟩, hS.F ht⟩) hS.2.2 dX6_records_95
    have L_51 : ∀ fu : Nat, ∀ (x1 : Int32) (XM : DM) (H : Heap) (locs : List Loc) (ls : Array Slot), va_P g.1 vwCl (pM g aM XM) H → va_D A (pM g aM XM) → va_S A s.heap H locs → lv_has ls 2 [(0, .ref (aM 0)), (1, .int x1)] → fX6_records_L51 n j85 fu x1 XM = some XMz → W p l e (headSpec wsX6_records rmX6_records).room s m args below meth c H locs 0 0 Q0 (F0 m 51 ls []) := by
      intro fu
      induction fu with
      | zero => intros; rename_i hf; rw [fX6_records_L51] at hf; cases hf
      | succ fu ih =>
        intro x1 XM H locs ls hP hD hS hl hf
        rw [fX6_records_L51] at hf
        refine lv_iload_n hx hb dX6_records_51 rfl (lv_at hl 1 rfl) ?_
        refine lv_sipush (v := 348) hx hb dX6_records_52 (by decide) ?_
        refine lv_icmp_ge (tgt := 85) hx hb dX6_records_55 (by decide) (fun c3 => ?_) (fun c3 => ?_)
        · have hf := ite_t hf c3
          exact J_85 XM _ _ ls hP hD hS (lv_sub hl [0] rfl) hf
        · have hf := ite_f hf c3
          refine lv_aload_n hx hb dX6_records_58 rfl (lv_at hl 0 rfl) ?_
          refine va_get (D := g.1) (ci := 6) (v := .ref (aM 2)) (C := RX6) (T := TX6) (N := 19) hx hb hts i_X6 hown hK hP 0 rfl rfl 1 (by decide) (hts (.fieldLink RX6 13 "WordFlasherModel" "was" "[I") (List.mem_of_getElem? (i := 2) rfl)) (fun _ h9 => h9) rfl dX6_records_59 ?_
          refine lv_sipush (v := 348) hx hb dX6_records_62 (by decide) ?_
          refine lv_aload_n hx hb dX6_records_65 rfl (lv_at hl 0 rfl) ?_
          refine va_get (D := g.1) (ci := 6) (v := .int (XM 2 0)) (C := RX6) (T := TX6) (N := 19) hx hb hts i_X6 hown hK hP 0 rfl rfl 2 (by decide) (hts (.fieldLink RX6 59 "WordFlasherModel" "states" "I") (List.mem_of_getElem? (i := 1) rfl)) (fun _ h9 => h9) rfl dX6_records_66 ?_
          refine lv_imul hx hb dX6_records_69 ?_
          refine lv_iload_n hx hb dX6_records_70 rfl (lv_at hl 1 rfl) ?_
          refine lv_iadd hx hb dX6_records_71 ?_
          refine lv_aload_n hx hb dX6_records_72 rfl (lv_at hl 0 rfl) ?_
          refine va_get (D := g.1) (ci := 6) (v := .ref (aM 1)) (C := RX6) (T := TX6) (N := 19) hx hb hts i_X6 hown hK hP 0 rfl rfl 0 (by decide) (hts (.fieldLink RX6 7 "WordFlasherModel" "d" "[I") (List.mem_of_getElem? (i := 3) rfl)) (fun _ h9 => h9) rfl dX6_records_73 ?_
          refine lv_iload_n hx hb dX6_records_76 rfl (lv_at hl 1 rfl) ?_
          obtain ⟨h6, v4, e5, hf⟩ := rdA_el hf
          refine va_iald hx hb hK hP 1 0 rfl rfl h6 dX6_records_77 ?_
          refine lv_as e5 ?_
          obtain ⟨h9, f7, e8, hf⟩ := wrA_el hf
          obtain ⟨X10, e11, hf⟩ := sl_el hf
          refine va_iast hx hb hK hP hD hS 2 0 rfl rfl h9 dX6_records_78 (fun H locs hP hD hS => ?_)
          have hP : va_P g.1 vwCl (pM g aM X10) H := by subst e11; subst e8; exact hP
          have hD : va_D A (pM g aM X10) := by subst e11; subst e8; exact hD
          obtain ⟨v12, e13, hf⟩ := sl_el hf
          refine lv_iinc (v := v12) (lv' := [(1, .int v12), (0, .ref (aM 0))]) hx hb dX6_records_79 hl (k := 1) rfl (by rw [e13]; rfl) (by decide) rfl (fun ls hl => ?_)
          refine lv_goto (tgt := 51) hx hb dX6_records_82 (by decide) ?_
          exact ih v12 X10 _ _ ls hP hD hS (lv_sub hl [1, 0] rfl) hf
    exact L_51 n 0 XM _ _ ls hP hD hS (lv_sub hl [1, 0] rfl) hf
  refine lv_icmp_ne (tgt := 49) hx hb dX6_records_5 (by decide) (fun c14 => ?_) (fun c14 => ?_)
  · have hf := ite_f hf c14
    exact J_49 XM _ _ ls hP hD hS (lv_sub hl [0] rfl) hf
  · have hf := ite_t hf c14
    refine lv_iconst (v := 0) hx hb dX6_records_8 (by decide) ?_
    refine lv_istore_n (lv' := [(1, .int 0), (0, .ref (aM 0))]) hx hb dX6_records_9 rfl hl (by decide) rfl (fun ls hl => ?_)
    obtain ⟨j39, ej39, hf⟩ := sl_el hf
    have J_39 : ∀ (XM : DM) (H : Heap) (locs : List Loc) (ls : Array Slot), va_P g.1 vwCl (pM g aM XM) H → va_D A (pM g aM XM) → va_S A s.heap H locs → lv_has ls 2 [(0, .ref (aM 0))] → j39 XM = some XMz → W p l e (headSpec wsX6_records rmX6_records).room s m args below meth c H locs 0 0 Q0 (F0 m 39 ls []) := by
      intro XM H locs ls hP hD hS hl hf
      rw [ej39] at hf
      refine lv_aload_n hx hb dX6_records_39 rfl (lv_at hl 0 rfl) ?_
      refine lv_dup hx hb dX6_records_40 rfl ?_
      refine va_get (D := g.1) (ci := 6) (v := .int (XM 2 0)) (C := RX6) (T := TX6) (N := 19) hx hb hts i_X6 hown hK hP 0 rfl rfl 2 (by decide) (hts (.fieldLink RX6 59 "WordFlasherModel" "states" "I") (List.mem_of_getElem? (i := 1) rfl)) (fun _ h9 => h9) rfl dX6_records_41 ?_
      refine lv_iconst (v := 1) hx hb dX6_records_44 (by decide) ?_
      refine lv_isub hx hb dX6_records_45 ?_
      obtain ⟨X15, e16, hf⟩ := sl_el hf
      refine va_put (D := g.1) (ci := 6) (v := .int ((XM 2 0) - 1)) (ty := .int) (C := RX6) (T := TX6) (N := 19) hx hb hts i_X6 tyX6 tyX6_ok nmX6 hown hK hP hD hS 0 rfl rfl 2 (by decide) (hts (.fieldLink RX6 59 "WordFlasherModel" "states" "I") (List.mem_of_getElem? (i := 1) rfl)) (fun _ h9 => h9) rfl (by decide +kernel) rfl rfl (Nat.le_of_ble_eq_true rfl) dX6_records_46 (fun H locs hP hD hS => ?_)
      have hP : va_P g.1 vwCl (pM g aM X15) H := by subst e16; exact hP
      have hD : va_D A (pM g aM X15) := by subst e16; exact hD
      exact J_49 X15 _ _ ls hP hD hS (lv_sub hl [0] rfl) hf
    have L_10 : ∀ fu : Nat, ∀ (x1 : Int32) (XM : DM) (H : Heap) (locs : List Loc) (ls : Array Slot), va_P g.1 vwCl (pM g aM XM) H → va_D A (pM g aM XM) → va_S A s.heap H locs → lv_has ls 2 [(0, .ref (aM 0)), (1, .int x1)] → fX6_records_L10 n j39 fu x1 XM = some XMz → W p l e (headSpec wsX6_records rmX6_records).room s m args below meth c H locs 0 0 Q0 (F0 m 10 ls []) := by
      intro fu
      induction fu with
      | zero => intros; rename_i hf; rw [fX6_records_L10] at hf; cases hf
      | succ fu ih =>
        intro x1 XM H locs ls hP hD hS hl hf
        rw [fX6_records_L10] at hf
        refine lv_iload_n hx hb dX6_records_10 rfl (lv_at hl 1 rfl) ?_
        refine lv_sipush (v := 1044) hx hb dX6_records_11 (by decide) ?_
        refine lv_icmp_ge (tgt := 39) hx hb dX6_records_14 (by decide) (fun c17 => ?_) (fun c17 => ?_)
        · have hf := ite_t hf c17
          exact J_39 XM _ _ ls hP hD hS (lv_sub hl [0] rfl) hf
        · have hf := ite_f hf c17
          refine lv_aload_n hx hb dX6_records_17 rfl (lv_at hl 0 rfl) ?_
          refine va_get (D := g.1) (ci := 6) (v := .ref (aM 2)) (C := RX6) (T := TX6) (N := 19) hx hb hts i_X6 hown hK hP 0 rfl rfl 1 (by decide) (hts (.fieldLink RX6 13 "WordFlasherModel" "was" "[I") (List.mem_of_getElem? (i := 2) rfl)) (fun _ h9 => h9) rfl dX6_records_18 ?_
          refine lv_iload_n hx hb dX6_records_21 rfl (lv_at hl 1 rfl) ?_
          refine lv_aload_n hx hb dX6_records_22 rfl (lv_at hl 0 rfl) ?_
          refine va_get (D := g.1) (ci := 6) (v := .ref (aM 2)) (C := RX6) (T := TX6) (N := 19) hx hb hts i_X6 hown hK hP 0 rfl rfl 1 (by decide) (hts (.fieldLink RX6 13 "WordFlasherModel" "was" "[I") (List.mem_of_getElem? (i := 2) rfl)) (fun _ h9 => h9) rfl dX6_records_23 ?_
          refine lv_iload_n hx hb dX6_records_26 rfl (lv_at hl 1 rfl) ?_
          refine lv_sipush (v := 348) hx hb dX6_records_27 (by decide) ?_
          refine lv_iadd hx hb dX6_records_30 ?_
          obtain ⟨h20, v18, e19, hf⟩ := rdA_el hf
          refine va_iald hx hb hK hP 2 0 rfl rfl h20 dX6_records_31 ?_
          refine lv_as e19 ?_
          obtain ⟨h23, f21, e22, hf⟩ := wrA_el hf
          obtain ⟨X24, e25, hf⟩ := sl_el hf
          refine va_iast hx hb hK hP hD hS 2 0 rfl rfl h23 dX6_records_32 (fun H locs hP hD hS => ?_)
          have hP : va_P g.1 vwCl (pM g aM X24) H := by subst e25; subst e22; exact hP
          have hD : va_D A (pM g aM X24) := by subst e25; subst e22; exact hD
          obtain ⟨v26, e27, hf⟩ := sl_el hf
          refine lv_iinc (v := v26) (lv' := [(1, .int v26), (0, .ref (aM 0))]) hx hb dX6_records_33 hl (k := 1) rfl (by rw [e27]; rfl) (by decide) rfl (fun ls hl => ?_)
          refine lv_goto (tgt := 10) hx hb dX6_records_36 (by decide) ?_
          exact ih v26 X24 _ _ ls hP hD hS (lv_sub hl [1, 0] rfl) hf
    exact L_10 n 0 XM _ _ ls hP hD hS (lv_sub hl [1, 0] rfl) hf
abbrev rmX6_isFigure : Room := { frames := 1, cells := 0, slots := 0, locals := 22 }
set_option maxHeartbeats 8000000 in
set_option maxRecDepth 100000 in
theorem c_X6_isFigure (l : Launch) (g : GG)  (p0 : Int32) (r : Int32) (hf : fX6_isFigure p0 = some r) : Met l yX6_isFigure wsX6_isFigure rmX6_isFigure (va_Pc [.int p0] (fun U => va_P g.1 vwCl ([] : va_W) U.heap ∧ KW g U)) (vp_Si (fun r' => r' = r ∧ narrow .boolean (.int r') = .int r')) 0 0 (fun _ => False) := by
  refine Met.ofW (cc := cX6_isFigure) (maxL := 1) (ret := (some .boolean)) (by decide) rfl ?_
  intro p e s m args below meth c s₁ B hml hv
  obtain ⟨hargs, hP, hKW⟩ := hv
  have hK := hKW.1
  have hx := B.exec
  have hb := B.bytes
  have hr := B.returns
  have hts := atoms_spec (ws := wsX6_isFigure) B.pre
  have hown : s.vm.findClass RX6 = some m.cls := findClass_of_methodNamed B.named
  have hlocks := B.notSynchronized
  have hent : entryFrame m args 1 = F0 m 0 ((lg_sl ([.int p0]) ++ List.replicate (1 - (lg_sl ([.int p0])).length) Slot.unset).toArray) [] := by rw [hargs]; exact lg_entry_eq _ _ _
  rw [hent]
  have hl := lv_entry ([.int p0]) (n := 1) (Nat.le_of_ble_eq_true rfl)
  generalize (lg_sl ([.int p0]) ++ List.replicate (1 - (lg_sl ([.int p0])).length) Slot.unset).toArray = ls at hl ⊢
  have hl : lv_has ls 1 [(0, .int p0)] := hl
  generalize hQ0 : MQ below _ _ _ _ _ _ = Q0
  unfold fX6_isFigure at hf
  refine lv_iload_n hx hb dX6_isFigure_0 rfl (lv_at hl 0 rfl) ?_
  refine lv_bipush (v := 48) hx hb dX6_isFigure_1 (by decide) ?_
  refine lv_bipush (v := 57) hx hb dX6_isFigure_3 (by decide) ?_
  obtain ⟨r1, h2, hf⟩ := bnd_el hf
  refine rdS (As := [.int p0, .int 48, .int 57]) (rest := []) ⟨hx, hb, hml, hown, hts⟩ (c_X6_in l g _ _ _ _ h2) (va_cwS 3 hts gX6_isFigure_X6_in rfl rfl rfl (by decide +kernel) ⟨Nat.le_of_ble_eq_true rfl, Nat.le_of_ble_eq_true rfl⟩) hKW hP [] rfl rfl hl.1 rfl (lv_room (Nat.le_of_ble_eq_true rfl)) dX6_isFigure_5 ⟨Nat.zero_le _, Nat.zero_le _⟩ (fun r3 q4 => ?_)
  obtain ⟨q4, nb5⟩ := q4
  refine lv_as q4.symm ?_
  rw [q4] at nb5
  have er0 := Option.some.inj hf
  rw [← hQ0]; exact W.zret (v := r1) hx hb hr nb5 (fun t ht hW => ⟨r1, rfl, ⟨er0, nb5⟩, ht⟩) (fun q h => by cases h) dX6_isFigure_8
abbrev rmX6_isLetter : Room := { frames := 2, cells := 0, slots := 0, locals := 42 }
set_option maxHeartbeats 8000000 in
set_option maxRecDepth 100000 in
theorem c_X6_isLetter (l : Launch) (g : GG)  (p0 : Int32) (r : Int32) (hf : fX6_isLetter p0 = some r) : Met l yX6_isLetter wsX6_isLetter rmX6_isLetter (va_Pc [.int p0] (fun U => va_P g.1 vwCl ([] : va_W) U.heap ∧ KW g U)) (vp_Si (fun r' => r' = r ∧ narrow .boolean (.int r') = .int r')) 0 0 (fun _ => False) := by
  refine Met.ofW (cc := cX6_isLetter) (maxL := 1) (ret := (some .boolean)) (by decide) rfl ?_
  intro p e s m args below meth c s₁ B hml hv
  obtain ⟨hargs, hP, hKW⟩ := hv
  have hK := hKW.1
  have hx := B.exec
  have hb := B.bytes
  have hr := B.returns
  have hts := atoms_spec (ws := wsX6_isLetter) B.pre
  have hown : s.vm.findClass RX6 = some m.cls := findClass_of_methodNamed B.named
  have hlocks := B.notSynchronized
  have hent : entryFrame m args 1 = F0 m 0 ((lg_sl ([.int p0]) ++ List.replicate (1 - (lg_sl ([.int p0])).length) Slot.unset).toArray) [] := by rw [hargs]; exact lg_entry_eq _ _ _
  rw [hent]
  have hl := lv_entry ([.int p0]) (n := 1) (Nat.le_of_ble_eq_true rfl)
  generalize (lg_sl ([.int p0]) ++ List.replicate (1 - (lg_sl ([.int p0])).length) Slot.unset).toArray = ls at hl ⊢
  have hl : lv_has ls 1 [(0, .int p0)] := hl
  generalize hQ0 : MQ below _ _ _ _ _ _ = Q0
  unfold fX6_isLetter at hf
  refine lv_iload_n hx hb dX6_isLetter_0 rfl (lv_at hl 0 rfl) ?_
  obtain ⟨r1, h2, hf⟩ := bnd_el hf
  refine rdS (As := [.int p0]) (rest := []) ⟨hx, hb, hml, hown, hts⟩ (c_X6_isFigure l g _ _ h2) (va_cwS 1 hts gX6_isLetter_X6_isFigure rfl rfl rfl (by decide +kernel) ⟨Nat.le_of_ble_eq_true rfl, Nat.le_of_ble_eq_true rfl⟩) hKW hP [] rfl rfl hl.1 rfl (lv_room (Nat.le_of_ble_eq_true rfl)) dX6_isLetter_1 ⟨Nat.zero_le _, Nat.zero_le _⟩ (fun r3 q4 => ?_)
  obtain ⟨q4, nb5⟩ := q4
  refine lv_as q4.symm ?_
  rw [q4] at nb5
  refine lv_if_ne (tgt := 29) hx hb dX6_isLetter_4 (by decide) (fun c6 => ?_) (fun c6 => ?_)
  · have hf := ite_f hf c6
    refine lv_iconst (v := 1) hx hb dX6_isLetter_29 (by decide) ?_
    refine lv_goto (tgt := 34) hx hb dX6_isLetter_30 (by decide) ?_
    have er0 := Option.some.inj hf
    rw [← hQ0]; exact W.zret (v := 1) hx hb hr rfl (fun t ht hW => ⟨1, rfl, ⟨er0, rfl⟩, ht⟩) (fun q h => by cases h) dX6_isLetter_34
  · have hf := ite_t hf c6
    refine lv_iload_n hx hb dX6_isLetter_7 rfl (lv_at hl 0 rfl) ?_
    refine lv_bipush (v := 97) hx hb dX6_isLetter_8 (by decide) ?_
    refine lv_bipush (v := 122) hx hb dX6_isLetter_10 (by decide) ?_
    obtain ⟨r7, h8, hf⟩ := bnd_el hf
    refine rdS (As := [.int p0, .int 97, .int 122]) (rest := []) ⟨hx, hb, hml, hown, hts⟩ (c_X6_in l g _ _ _ _ h8) (va_cwS 3 hts gX6_isLetter_X6_in rfl rfl rfl (by decide +kernel) ⟨Nat.le_of_ble_eq_true rfl, Nat.le_of_ble_eq_true rfl⟩) hKW hP [] rfl rfl hl.1 rfl (lv_room (Nat.le_of_ble_eq_true rfl)) dX6_isLetter_12 ⟨Nat.zero_le _, Nat.zero_le _⟩ (fun r9 q10 => ?_)
    obtain ⟨q10, nb11⟩ := q10
    refine lv_as q10.symm ?_
    rw [q10] at nb11
    refine lv_if_ne (tgt := 29) hx hb dX6_isLetter_15 (by decide) (fun c12 => ?_) (fun c12 => ?_)
    · have hf := ite_f hf c12
      refine lv_iconst (v := 1) hx hb dX6_isLetter_29 (by decide) ?_
      refine lv_goto (tgt := 34) hx hb dX6_isLetter_30 (by decide) ?_
      have er0 := Option.some.inj hf
      rw [← hQ0]; exact W.zret (v := 1) hx hb hr rfl (fun t ht hW => ⟨1, rfl, ⟨er0, rfl⟩, ht⟩) (fun q h => by cases h) dX6_isLetter_34
    · have hf := ite_t hf c12
      refine lv_iload_n hx hb dX6_isLetter_18 rfl (lv_at hl 0 rfl) ?_
      refine lv_bipush (v := 65) hx hb dX6_isLetter_19 (by decide) ?_
      refine lv_bipush (v := 90) hx hb dX6_isLetter_21 (by decide) ?_
      obtain ⟨r13, h14, hf⟩ := bnd_el hf
      refine rdS (As := [.int p0, .int 65, .int 90]) (rest := []) ⟨hx, hb, hml, hown, hts⟩ (c_X6_in l g _ _ _ _ h14) (va_cwS 3 hts gX6_isLetter_X6_in rfl rfl rfl (by decide +kernel) ⟨Nat.le_of_ble_eq_true rfl, Nat.le_of_ble_eq_true rfl⟩) hKW hP [] rfl rfl hl.1 rfl (lv_room (Nat.le_of_ble_eq_true rfl)) dX6_isLetter_23 ⟨Nat.zero_le _, Nat.zero_le _⟩ (fun r15 q16 => ?_)
      obtain ⟨q16, nb17⟩ := q16
      refine lv_as q16.symm ?_
      rw [q16] at nb17
      refine lv_if_eq (tgt := 33) hx hb dX6_isLetter_26 (by decide) (fun c18 => ?_) (fun c18 => ?_)
      · have hf := ite_t hf c18
        refine lv_iconst (v := 0) hx hb dX6_isLetter_33 (by decide) ?_
        have er0 := Option.some.inj hf
        rw [← hQ0]; exact W.zret (v := 0) hx hb hr rfl (fun t ht hW => ⟨0, rfl, ⟨er0, rfl⟩, ht⟩) (fun q h => by cases h) dX6_isLetter_34
      · have hf := ite_f hf c18
        refine lv_iconst (v := 1) hx hb dX6_isLetter_29 (by decide) ?_
        refine lv_goto (tgt := 34) hx hb dX6_isLetter_30 (by decide) ?_
        have er0 := Option.some.inj hf
        rw [← hQ0]; exact W.zret (v := 1) hx hb hr rfl (fun t ht hW => ⟨1, rfl, ⟨er0, rfl⟩, ht⟩) (fun q h => by cases h) dX6_isLetter_34
abbrev rmX6_kindOf : Room := { frames := 0, cells := 0, slots := 0, locals := 0 }
set_option maxHeartbeats 8000000 in
set_option maxRecDepth 100000 in
theorem c_X6_kindOf (l : Launch) (g : GG) (aM : Nat → Nat) (n : Nat) (XM : DM) (p1 p2 : Int32) (r : Int32) (hf : fX6_kindOf n XM p1 p2 = some r) : Met l yX6_kindOf wsX6_kindOf rmX6_kindOf (va_Pc [.ref (aM 0), .int p1, .int p2] (fun U => va_P g.1 vwCl (pM g aM XM) U.heap ∧ KW g U)) (vp_Si (fun r' => r' = r ∧ True)) 0 0 (fun _ => False) := by
  refine Met.ofW (cc := cX6_kindOf) (maxL := 5) (ret := (some .int)) (by decide) rfl ?_
  intro p e s m args below meth c s₁ B hml hv
  obtain ⟨hargs, hP, hKW⟩ := hv
  have hK := hKW.1
  have hx := B.exec
  have hb := B.bytes
  have hr := B.returns
  have hts := atoms_spec (ws := wsX6_kindOf) B.pre
  have hown : s.vm.findClass RX6 = some m.cls := findClass_of_methodNamed B.named
  have hlocks := B.notSynchronized
  have i_X6 : ∀ w ∈ wsX60, w ∈ wsX6_kindOf := fun w h => List.mem_cons_of_mem _ (List.mem_append_right _ h)
  have hent : entryFrame m args 5 = F0 m 0 ((lg_sl ([.ref (aM 0), .int p1, .int p2]) ++ List.replicate (5 - (lg_sl ([.ref (aM 0), .int p1, .int p2])).length) Slot.unset).toArray) [] := by rw [hargs]; exact lg_entry_eq _ _ _
  rw [hent]
  have hl := lv_entry ([.ref (aM 0), .int p1, .int p2]) (n := 5) (Nat.le_of_ble_eq_true rfl)
  generalize (lg_sl ([.ref (aM 0), .int p1, .int p2]) ++ List.replicate (5 - (lg_sl ([.ref (aM 0), .int p1, .int p2])).length) Slot.unset).toArray = ls at hl ⊢
  have hl : lv_has ls 5 [(0, .ref (aM 0)), (1, .int p1), (2, .int p2)] := hl
  generalize hQ0 : MQ below _ _ _ _ _ _ = Q0
  unfold fX6_kindOf at hf
  refine lv_iload_n hx hb dX6_kindOf_0 rfl (lv_at hl 2 rfl) ?_
  refine lv_iconst (v := 1) hx hb dX6_kindOf_1 (by decide) ?_
  obtain ⟨j20, ej20, hf⟩ := sl_el hf
  have J_20 : ∀ (x1 x2 : Int32) (ls : Array Slot), lv_has ls 5 [(0, .ref (aM 0)), (1, .int x1), (2, .int x2)] → j20 x1 x2 = some r → W p l e (headSpec wsX6_kindOf rmX6_kindOf).room s m args below meth c s.heap [] 0 0 Q0 (F0 m 20 ls []) := by
    intro x1 x2 ls hl hf
    rw [ej20] at hf
    refine lv_iload_n hx hb dX6_kindOf_20 rfl (lv_at hl 1 rfl) ?_
    refine lv_iload_n hx hb dX6_kindOf_21 rfl (lv_at hl 2 rfl) ?_
    refine lv_iadd hx hb dX6_kindOf_22 ?_
    refine lv_iconst (v := 1) hx hb dX6_kindOf_23 (by decide) ?_
    refine lv_isub hx hb dX6_kindOf_24 ?_
    obtain ⟨v1, e2, hf⟩ := sl_el hf
    refine lv_as e2 ?_
    refine lv_istore_n (lv' := [(3, .int v1), (0, .ref (aM 0)), (1, .int x1), (2, .int x2)]) hx hb dX6_kindOf_25 rfl hl (by decide) rfl (fun ls hl => ?_)
    obtain ⟨j89, ej89, hf⟩ := sl_el hf
    have J_89 : ∀ (x1 x3 : Int32) (ls : Array Slot), lv_has ls 5 [(0, .ref (aM 0)), (1, .int x1), (3, .int x3)] → j89 x1 x3 = some r → W p l e (headSpec wsX6_kindOf rmX6_kindOf).room s m args below meth c s.heap [] 0 0 Q0 (F0 m 89 ls []) := by
      intro x1 x3 ls hl hf
      rw [ej89] at hf
      refine lv_iload_n hx hb dX6_kindOf_89 rfl (lv_at hl 2 rfl) ?_
      refine lv_iload_n hx hb dX6_kindOf_90 rfl (lv_at hl 1 rfl) ?_
      obtain ⟨j106, ej106, hf⟩ := sl_el hf
      have J_106 : ∀ (k0 : Int32) (ls : Array Slot), lv_has ls 5 [] → j106 k0 = some r → W p l e (headSpec wsX6_kindOf rmX6_kindOf).room s m args below meth c s.heap [] 0 0 Q0 (F0 m 106 ls [.int k0]) := by
        intro k0 ls hl hf
        rw [ej106] at hf
        refine lv_istore (lv' := [(4, .int k0)]) hx hb dX6_kindOf_106 hl (by decide) rfl (fun ls hl => ?_)
        refine lv_iload hx hb dX6_kindOf_108 (lv_at hl 0 rfl) ?_
        refine lv_bipush (v := 46) hx hb dX6_kindOf_110 (by decide) ?_
        refine lv_icmp_eq (tgt := 129) hx hb dX6_kindOf_112 (by decide) (fun c3 => ?_) (fun c3 => ?_)
        · have hf := ite_t hf c3
          refine lv_iconst (v := 2) hx hb dX6_kindOf_129 (by decide) ?_
          refine lv_goto (tgt := 159) hx hb dX6_kindOf_130 (by decide) ?_
          have er0 := Option.some.inj hf
          rw [← hQ0]; exact W.iret (v := 2) hx hb hr (fun t ht hW => ⟨2, rfl, ⟨er0, trivial⟩, ht⟩) (fun q h => by cases h) dX6_kindOf_159
        · have hf := ite_f hf c3
          refine lv_iload hx hb dX6_kindOf_115 (lv_at hl 0 rfl) ?_
          refine lv_bipush (v := 33) hx hb dX6_kindOf_117 (by decide) ?_
          refine lv_icmp_eq (tgt := 129) hx hb dX6_kindOf_119 (by decide) (fun c4 => ?_) (fun c4 => ?_)
          · have hf := ite_t hf c4
            refine lv_iconst (v := 2) hx hb dX6_kindOf_129 (by decide) ?_
            refine lv_goto (tgt := 159) hx hb dX6_kindOf_130 (by decide) ?_
            have er0 := Option.some.inj hf
            rw [← hQ0]; exact W.iret (v := 2) hx hb hr (fun t ht hW => ⟨2, rfl, ⟨er0, trivial⟩, ht⟩) (fun q h => by cases h) dX6_kindOf_159
          · have hf := ite_f hf c4
            refine lv_iload hx hb dX6_kindOf_122 (lv_at hl 0 rfl) ?_
            refine lv_bipush (v := 63) hx hb dX6_kindOf_124 (by decide) ?_
            refine lv_icmp_ne (tgt := 133) hx hb dX6_kindOf_126 (by decide) (fun c5 => ?_) (fun c5 => ?_)
            · have hf := ite_f hf c5
              refine lv_iload hx hb dX6_kindOf_133 (lv_at hl 0 rfl) ?_
              refine lv_bipush (v := 44) hx hb dX6_kindOf_135 (by decide) ?_
              refine lv_icmp_eq (tgt := 154) hx hb dX6_kindOf_137 (by decide) (fun c6 => ?_) (fun c6 => ?_)
              · have hf := ite_t hf c6
                refine lv_iconst (v := 1) hx hb dX6_kindOf_154 (by decide) ?_
                refine lv_goto (tgt := 159) hx hb dX6_kindOf_155 (by decide) ?_
                have er0 := Option.some.inj hf
                rw [← hQ0]; exact W.iret (v := 1) hx hb hr (fun t ht hW => ⟨1, rfl, ⟨er0, trivial⟩, ht⟩) (fun q h => by cases h) dX6_kindOf_159
              · have hf := ite_f hf c6
                refine lv_iload hx hb dX6_kindOf_140 (lv_at hl 0 rfl) ?_
                refine lv_bipush (v := 59) hx hb dX6_kindOf_142 (by decide) ?_
                refine lv_icmp_eq (tgt := 154) hx hb dX6_kindOf_144 (by decide) (fun c7 => ?_) (fun c7 => ?_)
                · have hf := ite_t hf c7
                  refine lv_iconst (v := 1) hx hb dX6_kindOf_154 (by decide) ?_
                  refine lv_goto (tgt := 159) hx hb dX6_kindOf_155 (by decide) ?_
                  have er0 := Option.some.inj hf
                  rw [← hQ0]; exact W.iret (v := 1) hx hb hr (fun t ht hW => ⟨1, rfl, ⟨er0, trivial⟩, ht⟩) (fun q h => by cases h) dX6_kindOf_159
                · have hf := ite_f hf c7
                  refine lv_iload hx hb dX6_kindOf_147 (lv_at hl 0 rfl) ?_
                  refine lv_bipush (v := 58) hx hb dX6_kindOf_149 (by decide) ?_
                  refine lv_icmp_ne (tgt := 158) hx hb dX6_kindOf_151 (by decide) (fun c8 => ?_) (fun c8 => ?_)
                  · have hf := ite_f hf c8
                    refine lv_iconst (v := 0) hx hb dX6_kindOf_158 (by decide) ?_
                    have er0 := Option.some.inj hf
                    rw [← hQ0]; exact W.iret (v := 0) hx hb hr (fun t ht hW => ⟨0, rfl, ⟨er0, trivial⟩, ht⟩) (fun q h => by cases h) dX6_kindOf_159
                  · have hf := ite_t hf c8
                    refine lv_iconst (v := 1) hx hb dX6_kindOf_154 (by decide) ?_
                    refine lv_goto (tgt := 159) hx hb dX6_kindOf_155 (by decide) ?_
                    have er0 := Option.some.inj hf
                    rw [← hQ0]; exact W.iret (v := 1) hx hb hr (fun t ht hW => ⟨1, rfl, ⟨er0, trivial⟩, ht⟩) (fun q h => by cases h) dX6_kindOf_159
            · have hf := ite_t hf c5
              refine lv_iconst (v := 2) hx hb dX6_kindOf_129 (by decide) ?_
              refine lv_goto (tgt := 159) hx hb dX6_kindOf_130 (by decide) ?_
              have er0 := Option.some.inj hf
              rw [← hQ0]; exact W.iret (v := 2) hx hb hr (fun t ht hW => ⟨2, rfl, ⟨er0, trivial⟩, ht⟩) (fun q h => by cases h) dX6_kindOf_159
      refine lv_icmp_ge (tgt := 98) hx hb dX6_kindOf_91 (by decide) (fun c9 => ?_) (fun c9 => ?_)
      · have hf := ite_t hf c9
        refine lv_aload_n hx hb dX6_kindOf_98 rfl (lv_at hl 0 rfl) ?_
        refine va_get (D := g.1) (ci := 6) (v := .ref (aM 1)) (C := RX6) (T := TX6) (N := 19) hx hb hts i_X6 hown hK hP 0 rfl rfl 0 (by decide) (hts (.fieldLink RX6 7 "WordFlasherModel" "d" "[I") (List.mem_of_getElem? (i := 1) rfl)) (fun _ h9 => h9) rfl dX6_kindOf_99 ?_
        refine lv_iconst (v := 1) hx hb dX6_kindOf_102 (by decide) ?_
        refine lv_iload_n hx hb dX6_kindOf_103 rfl (lv_at hl 2 rfl) ?_
        refine lv_iadd hx hb dX6_kindOf_104 ?_
        obtain ⟨h12, v10, e11, hf⟩ := rdA_el hf
        refine va_iald hx hb hK hP 1 0 rfl rfl h12 dX6_kindOf_105 ?_
        refine lv_as e11 ?_
        exact J_106 v10 ls (lv_sub hl [] rfl) hf
      · have hf := ite_f hf c9
        refine lv_iconst (v := 0) hx hb dX6_kindOf_94 (by decide) ?_
        refine lv_goto (tgt := 106) hx hb dX6_kindOf_95 (by decide) ?_
        exact J_106 0 ls (lv_sub hl [] rfl) hf
    have L_26 : ∀ fu : Nat, ∀ (x1 x3 : Int32) (ls : Array Slot), lv_has ls 5 [(0, .ref (aM 0)), (1, .int x1), (3, .int x3)] → fX6_kindOf_L26 n XM j89 fu x1 x3 = some r → W p l e (headSpec wsX6_kindOf rmX6_kindOf).room s m args below meth c s.heap [] 0 0 Q0 (F0 m 26 ls []) := by
      intro fu
      induction fu with
      | zero => intros; rename_i hf; rw [fX6_kindOf_L26] at hf; cases hf
      | succ fu ih =>
        intro x1 x3 ls hl hf
        rw [fX6_kindOf_L26] at hf
        refine lv_iload_n hx hb dX6_kindOf_26 rfl (lv_at hl 2 rfl) ?_
        refine lv_iload_n hx hb dX6_kindOf_27 rfl (lv_at hl 1 rfl) ?_
        refine lv_icmp_lt (tgt := 89) hx hb dX6_kindOf_28 (by decide) (fun c13 => ?_) (fun c13 => ?_)
        · have hf := ite_t hf c13
          exact J_89 x1 x3 ls (lv_sub hl [0, 1, 2] rfl) hf
        · have hf := ite_f hf c13
          refine lv_aload_n hx hb dX6_kindOf_31 rfl (lv_at hl 0 rfl) ?_
          refine va_get (D := g.1) (ci := 6) (v := .ref (aM 1)) (C := RX6) (T := TX6) (N := 19) hx hb hts i_X6 hown hK hP 0 rfl rfl 0 (by decide) (hts (.fieldLink RX6 7 "WordFlasherModel" "d" "[I") (List.mem_of_getElem? (i := 1) rfl)) (fun _ h9 => h9) rfl dX6_kindOf_32 ?_
          refine lv_iconst (v := 1) hx hb dX6_kindOf_35 (by decide) ?_
          refine lv_iload_n hx hb dX6_kindOf_36 rfl (lv_at hl 2 rfl) ?_
          refine lv_iadd hx hb dX6_kindOf_37 ?_
          obtain ⟨h16, v14, e15, hf⟩ := rdA_el hf
          refine va_iald hx hb hK hP 1 0 rfl rfl h16 dX6_kindOf_38 ?_
          refine lv_as e15 ?_
          refine lv_bipush (v := 41) hx hb dX6_kindOf_39 (by decide) ?_
          obtain ⟨j83, ej83, hf⟩ := sl_el hf
          have J_83 : ∀ (x1 x3 : Int32) (ls : Array Slot), lv_has ls 5 [(0, .ref (aM 0)), (1, .int x1), (3, .int x3)] → j83 x1 x3 = some r → W p l e (headSpec wsX6_kindOf rmX6_kindOf).room s m args below meth c s.heap [] 0 0 Q0 (F0 m 83 ls []) := by
            intro x1 x3 ls hl hf
            rw [ej83] at hf
            obtain ⟨v17, e18, hf⟩ := sl_el hf
            refine lv_iinc (v := v17) (lv' := [(3, .int v17), (0, .ref (aM 0)), (1, .int x1)]) hx hb dX6_kindOf_83 hl (k := 2) rfl (by rw [e18]; rfl) (by decide) rfl (fun ls hl => ?_)
            refine lv_goto (tgt := 26) hx hb dX6_kindOf_86 (by decide) ?_
            exact ih x1 v17 ls (lv_sub hl [1, 2, 0] rfl) hf
          refine lv_icmp_eq (tgt := 83) hx hb dX6_kindOf_41 (by decide) (fun c19 => ?_) (fun c19 => ?_)
          · have hf := ite_t hf c19
            exact J_83 x1 x3 ls (lv_sub hl [0, 1, 2] rfl) hf
          · have hf := ite_f hf c19
            refine lv_aload_n hx hb dX6_kindOf_44 rfl (lv_at hl 0 rfl) ?_
            refine va_get (D := g.1) (ci := 6) (v := .ref (aM 1)) (C := RX6) (T := TX6) (N := 19) hx hb hts i_X6 hown hK hP 0 rfl rfl 0 (by decide) (hts (.fieldLink RX6 7 "WordFlasherModel" "d" "[I") (List.mem_of_getElem? (i := 1) rfl)) (fun _ h9 => h9) rfl dX6_kindOf_45 ?_
            refine lv_iconst (v := 1) hx hb dX6_kindOf_48 (by decide) ?_
            refine lv_iload_n hx hb dX6_kindOf_49 rfl (lv_at hl 2 rfl) ?_
            refine lv_iadd hx hb dX6_kindOf_50 ?_
            obtain ⟨h22, v20, e21, hf⟩ := rdA_el hf
            refine va_iald hx hb hK hP 1 0 rfl rfl h22 dX6_kindOf_51 ?_
            refine lv_as e21 ?_
            refine lv_bipush (v := 93) hx hb dX6_kindOf_52 (by decide) ?_
            refine lv_icmp_eq (tgt := 83) hx hb dX6_kindOf_54 (by decide) (fun c23 => ?_) (fun c23 => ?_)
            · have hf := ite_t hf c23
              exact J_83 x1 x3 ls (lv_sub hl [0, 1, 2] rfl) hf
            · have hf := ite_f hf c23
              refine lv_aload_n hx hb dX6_kindOf_57 rfl (lv_at hl 0 rfl) ?_
              refine va_get (D := g.1) (ci := 6) (v := .ref (aM 1)) (C := RX6) (T := TX6) (N := 19) hx hb hts i_X6 hown hK hP 0 rfl rfl 0 (by decide) (hts (.fieldLink RX6 7 "WordFlasherModel" "d" "[I") (List.mem_of_getElem? (i := 1) rfl)) (fun _ h9 => h9) rfl dX6_kindOf_58 ?_
              refine lv_iconst (v := 1) hx hb dX6_kindOf_61 (by decide) ?_
              refine lv_iload_n hx hb dX6_kindOf_62 rfl (lv_at hl 2 rfl) ?_
              refine lv_iadd hx hb dX6_kindOf_63 ?_
              obtain ⟨h26, v24, e25, hf⟩ := rdA_el hf
              refine va_iald hx hb hK hP 1 0 rfl rfl h26 dX6_kindOf_64 ?_
              refine lv_as e25 ?_
              refine lv_bipush (v := 34) hx hb dX6_kindOf_65 (by decide) ?_
              refine lv_icmp_eq (tgt := 83) hx hb dX6_kindOf_67 (by decide) (fun c27 => ?_) (fun c27 => ?_)
              · have hf := ite_t hf c27
                exact J_83 x1 x3 ls (lv_sub hl [0, 1, 2] rfl) hf
              · have hf := ite_f hf c27
                refine lv_aload_n hx hb dX6_kindOf_70 rfl (lv_at hl 0 rfl) ?_
                refine va_get (D := g.1) (ci := 6) (v := .ref (aM 1)) (C := RX6) (T := TX6) (N := 19) hx hb hts i_X6 hown hK hP 0 rfl rfl 0 (by decide) (hts (.fieldLink RX6 7 "WordFlasherModel" "d" "[I") (List.mem_of_getElem? (i := 1) rfl)) (fun _ h9 => h9) rfl dX6_kindOf_71 ?_
                refine lv_iconst (v := 1) hx hb dX6_kindOf_74 (by decide) ?_
                refine lv_iload_n hx hb dX6_kindOf_75 rfl (lv_at hl 2 rfl) ?_
                refine lv_iadd hx hb dX6_kindOf_76 ?_
                obtain ⟨h30, v28, e29, hf⟩ := rdA_el hf
                refine va_iald hx hb hK hP 1 0 rfl rfl h30 dX6_kindOf_77 ?_
                refine lv_as e29 ?_
                refine lv_bipush (v := 39) hx hb dX6_kindOf_78 (by decide) ?_
                refine lv_icmp_ne (tgt := 89) hx hb dX6_kindOf_80 (by decide) (fun c31 => ?_) (fun c31 => ?_)
                · have hf := ite_f hf c31
                  exact J_89 x1 x3 ls (lv_sub hl [0, 1, 2] rfl) hf
                · have hf := ite_t hf c31
                  exact J_83 x1 x3 ls (lv_sub hl [0, 1, 2] rfl) hf
    exact L_26 n x1 v1 ls (lv_sub hl [1, 2, 0] rfl) hf
  refine lv_icmp_ne (tgt := 20) hx hb dX6_kindOf_2 (by decide) (fun c32 => ?_) (fun c32 => ?_)
  · have hf := ite_f hf c32
    exact J_20 p1 p2 ls (lv_sub hl [0, 1, 2] rfl) hf
  · have hf := ite_t hf c32
    refine lv_aload_n hx hb dX6_kindOf_5 rfl (lv_at hl 0 rfl) ?_
    refine va_get (D := g.1) (ci := 6) (v := .ref (aM 1)) (C := RX6) (T := TX6) (N := 19) hx hb hts i_X6 hown hK hP 0 rfl rfl 0 (by decide) (hts (.fieldLink RX6 7 "WordFlasherModel" "d" "[I") (List.mem_of_getElem? (i := 1) rfl)) (fun _ h9 => h9) rfl dX6_kindOf_6 ?_
    refine lv_iconst (v := 1) hx hb dX6_kindOf_9 (by decide) ?_
    refine lv_iload_n hx hb dX6_kindOf_10 rfl (lv_at hl 1 rfl) ?_
    refine lv_iadd hx hb dX6_kindOf_11 ?_
    obtain ⟨h35, v33, e34, hf⟩ := rdA_el hf
    refine va_iald hx hb hK hP 1 0 rfl rfl h35 dX6_kindOf_12 ?_
    refine lv_as e34 ?_
    refine lv_bipush (v := 124) hx hb dX6_kindOf_13 (by decide) ?_
    refine lv_icmp_ne (tgt := 20) hx hb dX6_kindOf_15 (by decide) (fun c36 => ?_) (fun c36 => ?_)
    · have hf := ite_f hf c36
      exact J_20 p1 p2 ls (lv_sub hl [0, 1, 2] rfl) hf
    · have hf := ite_t hf c36
      refine lv_iconst (v := 3) hx hb dX6_kindOf_18 (by decide) ?_
      have er0 := Option.some.inj hf
      rw [← hQ0]; exact W.iret (v := 3) hx hb hr (fun t ht hW => ⟨3, rfl, ⟨er0, trivial⟩, ht⟩) (fun q h => by cases h) dX6_kindOf_19
abbrev rmX6_readsWord : Room := { frames := 3, cells := 0, slots := 0, locals := 62 }
set_option maxHeartbeats 8000000 in
set_option maxRecDepth 100000 in
theorem c_X6_readsWord (l : Launch) (g : GG) (aM : Nat → Nat) (sz : Nat) (n : Nat) (XM : DM) (p1 p2 : Int32) (XMz : DM) (hf : fX6_readsWord n XM p1 p2 = some XMz) : Met l yX6_readsWord wsX6_readsWord rmX6_readsWord (va_Pc [.ref (aM 0), .int p1, .int p2] (fun U => U.heap.size = sz ∧ va_P g.1 vwCl (pM g aM XM) U.heap ∧ KW g U ∧ va_D (fun _ => True) (pM g aM XM))) (va_Qv (fun (_ : Unit) => True) (fun (_ : Unit) t => va_P g.1 vwCl (pM g aM XMz) t.heap) (va_A (pM g aM XM) sz)) 0 0 (va_A (pM g aM XM) sz) := by
  refine Met.ofW (cc := cX6_readsWord) (maxL := 5) (ret := none) (by decide) rfl ?_
  intro p e s m args below meth c s₁ B hml hv
  obtain ⟨hargs, hsz, hP, hKW, hD0⟩ := hv
  have hK := hKW.1
  have hx := B.exec
  have hb := B.bytes
  have hr := B.returns
  have hts := atoms_spec (ws := wsX6_readsWord) B.pre
  have hown : s.vm.findClass RX6 = some m.cls := findClass_of_methodNamed B.named
  have hlocks := B.notSynchronized
  subst hsz
  have hD := hD0.self (sz := s.heap.size)
  generalize hAe : va_A (pM g aM XM) s.heap.size = A at hD ⊢
  have hA : ∀ q : Nat, s.heap.size ≤ q → A q := fun q h => by rw [← hAe]; exact Or.inr h
  have hS : va_S A s.heap s.heap [] := va_S.rf
  have i_X6 : ∀ w ∈ wsX60, w ∈ wsX6_readsWord := fun w h => List.mem_cons_of_mem _ (List.mem_append_right _ h)
  have hent : entryFrame m args 5 = F0 m 0 ((lg_sl ([.ref (aM 0), .int p1, .int p2]) ++ List.replicate (5 - (lg_sl ([.ref (aM 0), .int p1, .int p2])).length) Slot.unset).toArray) [] := by rw [hargs]; exact lg_entry_eq _ _ _
  rw [hent]
  have hl := lv_entry ([.ref (aM 0), .int p1, .int p2]) (n := 5) (Nat.le_of_ble_eq_true rfl)
  generalize (lg_sl ([.ref (aM 0), .int p1, .int p2]) ++ List.replicate (5 - (lg_sl ([.ref (aM 0), .int p1, .int p2])).length) Slot.unset).toArray = ls at hl ⊢
  have hl : lv_has ls 5 [(0, .ref (aM 0)), (1, .int p1), (2, .int p2)] := hl
  generalize hQ0 : MQ below _ _ _ _ _ _ = Q0
  unfold fX6_readsWord at hf
  refine lv_aload_n hx hb dX6_readsWord_0 rfl (lv_at hl 0 rfl) ?_
  refine va_get (D := g.1) (ci := 6) (v := .int (XM 9 0)) (C := RX6) (T := TX6) (N := 19) hx hb hts i_X6 hown hK hP 0 rfl rfl 9 (by decide) (hts (.fieldLink RX6 45 "WordFlasherModel" "words" "I") (List.mem_of_getElem? (i := 1) rfl)) (fun _ h9 => h9) rfl dX6_readsWord_1 ?_
  refine lv_istore_n (lv' := [(3, .int (XM 9 0)), (0, .ref (aM 0)), (1, .int p1), (2, .int p2)]) hx hb dX6_readsWord_4 rfl hl (by decide) rfl (fun ls hl => ?_)
  refine lv_aload_n hx hb dX6_readsWord_5 rfl (lv_at hl 1 rfl) ?_
  refine va_get (D := g.1) (ci := 6) (v := .ref (aM 5)) (C := RX6) (T := TX6) (N := 19) hx hb hts i_X6 hown hK hP 0 rfl rfl 12 (by decide) (hts (.fieldLink RX6 23 "WordFlasherModel" "begin" "[I") (List.mem_of_getElem? (i := 2) rfl)) (fun _ h9 => h9) rfl dX6_readsWord_6 ?_
  refine lv_iload_n hx hb dX6_readsWord_9 rfl (lv_at hl 0 rfl) ?_
  refine lv_iload_n hx hb dX6_readsWord_10 rfl (lv_at hl 2 rfl) ?_
  obtain ⟨h3, f1, e2, hf⟩ := wrA_el hf
  obtain ⟨X4, e5, hf⟩ := sl_el hf
  refine va_iast hx hb hK hP hD hS 5 0 rfl rfl h3 dX6_readsWord_11 (fun H locs hP hD hS => ?_)
  have hP : va_P g.1 vwCl (pM g aM X4) H := by subst e5; subst e2; exact hP
  have hD : va_D A (pM g aM X4) := by subst e5; subst e2; exact hD
  refine lv_aload_n hx hb dX6_readsWord_12 rfl (lv_at hl 1 rfl) ?_
  refine va_get (D := g.1) (ci := 6) (v := .ref (aM 6)) (C := RX6) (T := TX6) (N := 19) hx hb hts i_X6 hown hK hP 0 rfl rfl 13 (by decide) (hts (.fieldLink RX6 26 "WordFlasherModel" "many" "[I") (List.mem_of_getElem? (i := 3) rfl)) (fun _ h9 => h9) rfl dX6_readsWord_13 ?_
  refine lv_iload_n hx hb dX6_readsWord_16 rfl (lv_at hl 0 rfl) ?_
  refine lv_iload_n hx hb dX6_readsWord_17 rfl (lv_at hl 3 rfl) ?_
  obtain ⟨h8, f6, e7, hf⟩ := wrA_el hf
  obtain ⟨X9, e10, hf⟩ := sl_el hf
  refine va_iast hx hb hK hP hD hS 6 0 rfl rfl h8 dX6_readsWord_18 (fun H locs hP hD hS => ?_)
  have hP : va_P g.1 vwCl (pM g aM X9) H := by subst e10; subst e7; exact hP
  have hD : va_D A (pM g aM X9) := by subst e10; subst e7; exact hD
  refine lv_aload_n hx hb dX6_readsWord_19 rfl (lv_at hl 1 rfl) ?_
  refine va_get (D := g.1) (ci := 6) (v := .ref (aM 8)) (C := RX6) (T := TX6) (N := 19) hx hb hts i_X6 hown hK hP 0 rfl rfl 15 (by decide) (hts (.fieldLink RX6 32 "WordFlasherModel" "kind" "[I") (List.mem_of_getElem? (i := 4) rfl)) (fun _ h9 => h9) rfl dX6_readsWord_20 ?_
  refine lv_iload_n hx hb dX6_readsWord_23 rfl (lv_at hl 0 rfl) ?_
  refine lv_aload_n hx hb dX6_readsWord_24 rfl (lv_at hl 1 rfl) ?_
  refine lv_iload_n hx hb dX6_readsWord_25 rfl (lv_at hl 2 rfl) ?_
  refine lv_iload_n hx hb dX6_readsWord_26 rfl (lv_at hl 3 rfl) ?_
  obtain ⟨r11, h12, hf⟩ := bnd_el hf
  refine rdV (As := [.int p1, .int p2]) (rest := [.int (XM 9 0), .ref (aM 8)]) ⟨hx, hb, hml, hown, hts⟩ (c_X6_kindOf l g aM _ _ _ _ _ h12) (cwV 2 hts gX6_readsWord_X6_kindOf rfl rfl rfl (by decide +kernel) ⟨Nat.le_of_ble_eq_true rfl, Nat.le_of_ble_eq_true rfl⟩) hKW hP [0, 1, 2, 3, 4, 5, 6, 7, 8, 9, 10, 11] rfl (va_recv hK hP (ci := 6) (q0 := 0) rfl rfl) rfl hl.1 rfl (lv_room (Nat.le_of_ble_eq_true rfl)) dX6_readsWord_27 ⟨Nat.zero_le _, Nat.zero_le _⟩ (fun r13 q14 => ?_)
  obtain ⟨q14, nb15⟩ := q14
  refine lv_as q14.symm ?_
  obtain ⟨h18, f16, e17, hf⟩ := wrA_el hf
  obtain ⟨X19, e20, hf⟩ := sl_el hf
  refine va_iast hx hb hK hP hD hS 8 0 rfl rfl h18 dX6_readsWord_30 (fun H locs hP hD hS => ?_)
  have hP : va_P g.1 vwCl (pM g aM X19) H := by subst e20; subst e17; exact hP
  have hD : va_D A (pM g aM X19) := by subst e20; subst e17; exact hD
  refine lv_aload_n hx hb dX6_readsWord_31 rfl (lv_at hl 1 rfl) ?_
  refine va_get (D := g.1) (ci := 6) (v := .ref (aM 7)) (C := RX6) (T := TX6) (N := 19) hx hb hts i_X6 hown hK hP 0 rfl rfl 14 (by decide) (hts (.fieldLink RX6 29 "WordFlasherModel" "letters" "[I") (List.mem_of_getElem? (i := 5) rfl)) (fun _ h9 => h9) rfl dX6_readsWord_32 ?_
  refine lv_iload_n hx hb dX6_readsWord_35 rfl (lv_at hl 0 rfl) ?_
  refine lv_iconst (v := 0) hx hb dX6_readsWord_36 (by decide) ?_
  obtain ⟨h23, f21, e22, hf⟩ := wrA_el hf
  obtain ⟨X24, e25, hf⟩ := sl_el hf
  refine va_iast hx hb hK hP hD hS 7 0 rfl rfl h23 dX6_readsWord_37 (fun H locs hP hD hS => ?_)
  have hP : va_P g.1 vwCl (pM g aM X24) H := by subst e25; subst e22; exact hP
  have hD : va_D A (pM g aM X24) := by subst e25; subst e22; exact hD
  refine lv_aload_n hx hb dX6_readsWord_38 rfl (lv_at hl 1 rfl) ?_
  refine va_get (D := g.1) (ci := 6) (v := .ref (aM 9)) (C := RX6) (T := TX6) (N := 19) hx hb hts i_X6 hown hK hP 0 rfl rfl 16 (by decide) (hts (.fieldLink RX6 35 "WordFlasherModel" "figures" "[Z") (List.mem_of_getElem? (i := 6) rfl)) (fun _ h9 => h9) rfl dX6_readsWord_39 ?_
  refine lv_iload_n hx hb dX6_readsWord_42 rfl (lv_at hl 0 rfl) ?_
  refine lv_iconst (v := 0) hx hb dX6_readsWord_43 (by decide) ?_
  obtain ⟨h28, f26, e27, hf⟩ := wrA_el hf
  obtain ⟨X29, e30, hf⟩ := sl_el hf
  refine va_zast hx hb hK hP hD hS 9 2 rfl rfl h28 dX6_readsWord_44 (fun H locs hP hD hS => ?_)
  have hP : va_P g.1 vwCl (pM g aM X29) H := by subst e30; subst e27; exact hP
  have hD : va_D A (pM g aM X29) := by subst e30; subst e27; exact hD
  refine lv_iload_n hx hb dX6_readsWord_45 rfl (lv_at hl 2 rfl) ?_
  refine lv_istore (lv' := [(4, .int p1), (3, .int (XM 9 0)), (0, .ref (aM 0)), (1, .int p1), (2, .int p2)]) hx hb dX6_readsWord_46 hl (by decide) rfl (fun ls hl => ?_)
  obtain ⟨j126, ej126, hf⟩ := sl_el hf
  have J_126 : ∀ (x3 : Int32) (XM : DM) (H : Heap) (locs : List Loc) (ls : Array Slot), va_P g.1 vwCl (pM g aM XM) H → va_D A (pM g aM XM) → va_S A s.heap H locs → lv_has ls 5 [(0, .ref (aM 0)), (3, .int x3)] → j126 x3 XM = some XMz → W p l e (headSpec wsX6_readsWord rmX6_readsWord).room s m args below meth c H locs 0 0 Q0 (F0 m 126 ls []) := by
    intro x3 XM H locs ls hP hD hS hl hf
    rw [ej126] at hf
    refine lv_aload_n hx hb dX6_readsWord_126 rfl (lv_at hl 0 rfl) ?_
    refine va_get (D := g.1) (ci := 6) (v := .ref (aM 10)) (C := RX6) (T := TX6) (N := 19) hx hb hts i_X6 hown hK hP 0 rfl rfl 17 (by decide) (hts (.fieldLink RX6 39 "WordFlasherModel" "sentenceOf" "[I") (List.mem_of_getElem? (i := 8) rfl)) (fun _ h9 => h9) rfl dX6_readsWord_127 ?_
    refine lv_iload_n hx hb dX6_readsWord_130 rfl (lv_at hl 1 rfl) ?_
    refine lv_iload_n hx hb dX6_readsWord_131 rfl (lv_at hl 1 rfl) ?_
    obtain ⟨j165, ej165, hf⟩ := sl_el hf
    have J_165 : ∀ (x3 k1 k2 : Int32) (XM : DM) (H : Heap) (locs : List Loc) (ls : Array Slot), va_P g.1 vwCl (pM g aM XM) H → va_D A (pM g aM XM) → va_S A s.heap H locs → lv_has ls 5 [(0, .ref (aM 0)), (3, .int x3)] → j165 x3 k1 k2 XM = some XMz → W p l e (headSpec wsX6_readsWord rmX6_readsWord).room s m args below meth c H locs 0 0 Q0 (F0 m 165 ls [.int k2, .int k1, .ref (aM 10)]) := by
      intro x3 k1 k2 XM H locs ls hP hD hS hl hf
      rw [ej165] at hf
      obtain ⟨h33, f31, e32, hf⟩ := wrA_el hf
      obtain ⟨X34, e35, hf⟩ := sl_el hf
      refine va_iast hx hb hK hP hD hS 10 0 rfl rfl h33 dX6_readsWord_165 (fun H locs hP hD hS => ?_)
      have hP : va_P g.1 vwCl (pM g aM X34) H := by subst e35; subst e32; exact hP
      have hD : va_D A (pM g aM X34) := by subst e35; subst e32; exact hD
      refine lv_aload_n hx hb dX6_readsWord_166 rfl (lv_at hl 0 rfl) ?_
      refine va_get (D := g.1) (ci := 6) (v := .ref (aM 11)) (C := RX6) (T := TX6) (N := 19) hx hb hts i_X6 hown hK hP 0 rfl rfl 18 (by decide) (hts (.fieldLink RX6 42 "WordFlasherModel" "pageOf" "[I") (List.mem_of_getElem? (i := 9) rfl)) (fun _ h9 => h9) rfl dX6_readsWord_167 ?_
      refine lv_iload_n hx hb dX6_readsWord_170 rfl (lv_at hl 1 rfl) ?_
      refine lv_iload_n hx hb dX6_readsWord_171 rfl (lv_at hl 1 rfl) ?_
      obtain ⟨j205, ej205, hf⟩ := sl_el hf
      have J_205 : ∀ (k1 k2 : Int32) (XM : DM) (H : Heap) (locs : List Loc) (ls : Array Slot), va_P g.1 vwCl (pM g aM XM) H → va_D A (pM g aM XM) → va_S A s.heap H locs → lv_has ls 5 [(0, .ref (aM 0))] → j205 k1 k2 XM = some XMz → W p l e (headSpec wsX6_readsWord rmX6_readsWord).room s m args below meth c H locs 0 0 Q0 (F0 m 205 ls [.int k2, .int k1, .ref (aM 11)]) := by
        intro k1 k2 XM H locs ls hP hD hS hl hf
        rw [ej205] at hf
        obtain ⟨h38, f36, e37, hf⟩ := wrA_el hf
        obtain ⟨X39, e40, hf⟩ := sl_el hf
        refine va_iast hx hb hK hP hD hS 11 0 rfl rfl h38 dX6_readsWord_205 (fun H locs hP hD hS => ?_)
        have hP : va_P g.1 vwCl (pM g aM X39) H := by subst e40; subst e37; exact hP
        have hD : va_D A (pM g aM X39) := by subst e40; subst e37; exact hD
        refine lv_aload_n hx hb dX6_readsWord_206 rfl (lv_at hl 0 rfl) ?_
        refine lv_dup hx hb dX6_readsWord_207 rfl ?_
        refine va_get (D := g.1) (ci := 6) (v := .int (X39 9 0)) (C := RX6) (T := TX6) (N := 19) hx hb hts i_X6 hown hK hP 0 rfl rfl 9 (by decide) (hts (.fieldLink RX6 45 "WordFlasherModel" "words" "I") (List.mem_of_getElem? (i := 1) rfl)) (fun _ h9 => h9) rfl dX6_readsWord_208 ?_
        refine lv_iconst (v := 1) hx hb dX6_readsWord_211 (by decide) ?_
        refine lv_iadd hx hb dX6_readsWord_212 ?_
        obtain ⟨X41, e42, hf⟩ := sl_el hf
        refine va_put (D := g.1) (ci := 6) (v := .int ((X39 9 0) + 1)) (ty := .int) (C := RX6) (T := TX6) (N := 19) hx hb hts i_X6 tyX6 tyX6_ok nmX6 hown hK hP hD hS 0 rfl rfl 9 (by decide) (hts (.fieldLink RX6 45 "WordFlasherModel" "words" "I") (List.mem_of_getElem? (i := 1) rfl)) (fun _ h9 => h9) rfl (by decide +kernel) rfl rfl (Nat.le_of_ble_eq_true rfl) dX6_readsWord_213 (fun H locs hP hD hS => ?_)
        have hP : va_P g.1 vwCl (pM g aM X41) H := by subst e42; exact hP
        have hD : va_D A (pM g aM X41) := by subst e42; exact hD
        have er0 := Option.some.inj hf
        rw [← hQ0]; exact W.vret hx hb hr (fun t ht hW => ⟨⟨(), rfl, trivial, by dsimp only; rw [ht, ← er0]; exact hP⟩, hS.F ht⟩) hS.2.2 dX6_readsWord_216
      refine lv_if_ne (tgt := 179) hx hb dX6_readsWord_172 (by decide) (fun c43 => ?_) (fun c43 => ?_)
      · have hf := ite_f hf c43
        refine lv_aload_n hx hb dX6_readsWord_179 rfl (lv_at hl 0 rfl) ?_
        refine va_get (D := g.1) (ci := 6) (v := .ref (aM 11)) (C := RX6) (T := TX6) (N := 19) hx hb hts i_X6 hown hK hP 0 rfl rfl 18 (by decide) (hts (.fieldLink RX6 42 "WordFlasherModel" "pageOf" "[I") (List.mem_of_getElem? (i := 9) rfl)) (fun _ h9 => h9) rfl dX6_readsWord_180 ?_
        refine lv_iload_n hx hb dX6_readsWord_183 rfl (lv_at hl 1 rfl) ?_
        refine lv_iconst (v := 1) hx hb dX6_readsWord_184 (by decide) ?_
        refine lv_isub hx hb dX6_readsWord_185 ?_
        obtain ⟨h46, v44, e45, hf⟩ := rdA_el hf
        refine va_iald hx hb hK hP 11 0 rfl rfl h46 dX6_readsWord_186 ?_
        refine lv_as e45 ?_
        refine lv_aload_n hx hb dX6_readsWord_187 rfl (lv_at hl 0 rfl) ?_
        refine va_get (D := g.1) (ci := 6) (v := .ref (aM 8)) (C := RX6) (T := TX6) (N := 19) hx hb hts i_X6 hown hK hP 0 rfl rfl 15 (by decide) (hts (.fieldLink RX6 32 "WordFlasherModel" "kind" "[I") (List.mem_of_getElem? (i := 4) rfl)) (fun _ h9 => h9) rfl dX6_readsWord_188 ?_
        refine lv_iload_n hx hb dX6_readsWord_191 rfl (lv_at hl 1 rfl) ?_
        refine lv_iconst (v := 1) hx hb dX6_readsWord_192 (by decide) ?_
        refine lv_isub hx hb dX6_readsWord_193 ?_
        obtain ⟨h49, v47, e48, hf⟩ := rdA_el hf
        refine va_iald hx hb hK hP 8 0 rfl rfl h49 dX6_readsWord_194 ?_
        refine lv_as e48 ?_
        refine lv_iconst (v := 3) hx hb dX6_readsWord_195 (by decide) ?_
        obtain ⟨j204, ej204, hf⟩ := sl_el hf
        have J_204 : ∀ (k1 k2 k3 : Int32) (XM : DM) (H : Heap) (locs : List Loc) (ls : Array Slot), va_P g.1 vwCl (pM g aM XM) H → va_D A (pM g aM XM) → va_S A s.heap H locs → lv_has ls 5 [(0, .ref (aM 0))] → j204 k1 k2 k3 XM = some XMz → W p l e (headSpec wsX6_readsWord rmX6_readsWord).room s m args below meth c H locs 0 0 Q0 (F0 m 204 ls [.int k3, .int k2, .int k1, .ref (aM 11)]) := by
          intro k1 k2 k3 XM H locs ls hP hD hS hl hf
          rw [ej204] at hf
          refine lv_iadd hx hb dX6_readsWord_204 ?_
          exact J_205 k1 (k2 + k3) XM _ _ ls hP hD hS (lv_sub hl [0] rfl) hf
        refine lv_icmp_ne (tgt := 203) hx hb dX6_readsWord_196 (by decide) (fun c50 => ?_) (fun c50 => ?_)
        · have hf := ite_f hf c50
          refine lv_iconst (v := 0) hx hb dX6_readsWord_203 (by decide) ?_
          exact J_204 x3 v44 0 X34 _ _ ls hP hD hS (lv_sub hl [0] rfl) hf
        · have hf := ite_t hf c50
          refine lv_iconst (v := 1) hx hb dX6_readsWord_199 (by decide) ?_
          refine lv_goto (tgt := 204) hx hb dX6_readsWord_200 (by decide) ?_
          exact J_204 x3 v44 1 X34 _ _ ls hP hD hS (lv_sub hl [0] rfl) hf
      · have hf := ite_t hf c43
        refine lv_iconst (v := 0) hx hb dX6_readsWord_175 (by decide) ?_
        refine lv_goto (tgt := 205) hx hb dX6_readsWord_176 (by decide) ?_
        exact J_205 x3 0 X34 _ _ ls hP hD hS (lv_sub hl [0] rfl) hf
    refine lv_if_ne (tgt := 139) hx hb dX6_readsWord_132 (by decide) (fun c51 => ?_) (fun c51 => ?_)
    · have hf := ite_f hf c51
      refine lv_aload_n hx hb dX6_readsWord_139 rfl (lv_at hl 0 rfl) ?_
      refine va_get (D := g.1) (ci := 6) (v := .ref (aM 10)) (C := RX6) (T := TX6) (N := 19) hx hb hts i_X6 hown hK hP 0 rfl rfl 17 (by decide) (hts (.fieldLink RX6 39 "WordFlasherModel" "sentenceOf" "[I") (List.mem_of_getElem? (i := 8) rfl)) (fun _ h9 => h9) rfl dX6_readsWord_140 ?_
      refine lv_iload_n hx hb dX6_readsWord_143 rfl (lv_at hl 1 rfl) ?_
      refine lv_iconst (v := 1) hx hb dX6_readsWord_144 (by decide) ?_
      refine lv_isub hx hb dX6_readsWord_145 ?_
      obtain ⟨h54, v52, e53, hf⟩ := rdA_el hf
      refine va_iald hx hb hK hP 10 0 rfl rfl h54 dX6_readsWord_146 ?_
      refine lv_as e53 ?_
      refine lv_aload_n hx hb dX6_readsWord_147 rfl (lv_at hl 0 rfl) ?_
      refine va_get (D := g.1) (ci := 6) (v := .ref (aM 8)) (C := RX6) (T := TX6) (N := 19) hx hb hts i_X6 hown hK hP 0 rfl rfl 15 (by decide) (hts (.fieldLink RX6 32 "WordFlasherModel" "kind" "[I") (List.mem_of_getElem? (i := 4) rfl)) (fun _ h9 => h9) rfl dX6_readsWord_148 ?_
      refine lv_iload_n hx hb dX6_readsWord_151 rfl (lv_at hl 1 rfl) ?_
      refine lv_iconst (v := 1) hx hb dX6_readsWord_152 (by decide) ?_
      refine lv_isub hx hb dX6_readsWord_153 ?_
      obtain ⟨h57, v55, e56, hf⟩ := rdA_el hf
      refine va_iald hx hb hK hP 8 0 rfl rfl h57 dX6_readsWord_154 ?_
      refine lv_as e56 ?_
      refine lv_iconst (v := 1) hx hb dX6_readsWord_155 (by decide) ?_
      obtain ⟨j164, ej164, hf⟩ := sl_el hf
      have J_164 : ∀ (x3 k1 k2 k3 : Int32) (XM : DM) (H : Heap) (locs : List Loc) (ls : Array Slot), va_P g.1 vwCl (pM g aM XM) H → va_D A (pM g aM XM) → va_S A s.heap H locs → lv_has ls 5 [(0, .ref (aM 0)), (3, .int x3)] → j164 x3 k1 k2 k3 XM = some XMz → W p l e (headSpec wsX6_readsWord rmX6_readsWord).room s m args below meth c H locs 0 0 Q0 (F0 m 164 ls [.int k3, .int k2, .int k1, .ref (aM 10)]) := by
        intro x3 k1 k2 k3 XM H locs ls hP hD hS hl hf
        rw [ej164] at hf
        refine lv_iadd hx hb dX6_readsWord_164 ?_
        exact J_165 x3 k1 (k2 + k3) XM _ _ ls hP hD hS (lv_sub hl [0, 1] rfl) hf
      refine lv_icmp_le (tgt := 163) hx hb dX6_readsWord_156 (by decide) (fun c58 => ?_) (fun c58 => ?_)
      · have hf := ite_t hf c58
        refine lv_iconst (v := 0) hx hb dX6_readsWord_163 (by decide) ?_
        exact J_164 x3 x3 v52 0 XM _ _ ls hP hD hS (lv_sub hl [0, 1] rfl) hf
      · have hf := ite_f hf c58
        refine lv_iconst (v := 1) hx hb dX6_readsWord_159 (by decide) ?_
        refine lv_goto (tgt := 164) hx hb dX6_readsWord_160 (by decide) ?_
        exact J_164 x3 x3 v52 1 XM _ _ ls hP hD hS (lv_sub hl [0, 1] rfl) hf
    · have hf := ite_t hf c51
      refine lv_iconst (v := 0) hx hb dX6_readsWord_135 (by decide) ?_
      refine lv_goto (tgt := 165) hx hb dX6_readsWord_136 (by decide) ?_
      exact J_165 x3 x3 0 XM _ _ ls hP hD hS (lv_sub hl [0, 1] rfl) hf
  have L_48 : ∀ fu : Nat, ∀ (x1 x2 x3 x4 : Int32) (XM : DM) (H : Heap) (locs : List Loc) (ls : Array Slot), va_P g.1 vwCl (pM g aM XM) H → va_D A (pM g aM XM) → va_S A s.heap H locs → lv_has ls 5 [(0, .ref (aM 0)), (1, .int x1), (2, .int x2), (3, .int x3), (4, .int x4)] → fX6_readsWord_L48 n j126 fu x1 x2 x3 x4 XM = some XMz → W p l e (headSpec wsX6_readsWord rmX6_readsWord).room s m args below meth c H locs 0 0 Q0 (F0 m 48 ls []) := by
    intro fu
    induction fu with
    | zero => intros; rename_i hf; rw [fX6_readsWord_L48] at hf; cases hf
    | succ fu ih =>
      intro x1 x2 x3 x4 XM H locs ls hP hD hS hl hf
      rw [fX6_readsWord_L48] at hf
      refine lv_iload hx hb dX6_readsWord_48 (lv_at hl 4 rfl) ?_
      refine lv_iload_n hx hb dX6_readsWord_50 rfl (lv_at hl 1 rfl) ?_
      refine lv_iload_n hx hb dX6_readsWord_51 rfl (lv_at hl 2 rfl) ?_
      refine lv_iadd hx hb dX6_readsWord_52 ?_
      refine lv_icmp_ge (tgt := 126) hx hb dX6_readsWord_53 (by decide) (fun c59 => ?_) (fun c59 => ?_)
      · have hf := ite_t hf c59
        exact J_126 x3 XM _ _ ls hP hD hS (lv_sub hl [0, 3] rfl) hf
      · have hf := ite_f hf c59
        refine lv_aload_n hx hb dX6_readsWord_56 rfl (lv_at hl 0 rfl) ?_
        refine va_get (D := g.1) (ci := 6) (v := .ref (aM 7)) (C := RX6) (T := TX6) (N := 19) hx hb hts i_X6 hown hK hP 0 rfl rfl 14 (by decide) (hts (.fieldLink RX6 29 "WordFlasherModel" "letters" "[I") (List.mem_of_getElem? (i := 5) rfl)) (fun _ h9 => h9) rfl dX6_readsWord_57 ?_
        refine lv_iload_n hx hb dX6_readsWord_60 rfl (lv_at hl 3 rfl) ?_
        refine lv_dup2_11 hx hb dX6_readsWord_61 rfl rfl ?_
        obtain ⟨h62, v60, e61, hf⟩ := rdA_el hf
        refine va_iald hx hb hK hP 7 0 rfl rfl h62 dX6_readsWord_62 ?_
        refine lv_as e61 ?_
        refine lv_aload_n hx hb dX6_readsWord_63 rfl (lv_at hl 0 rfl) ?_
        refine va_get (D := g.1) (ci := 6) (v := .ref (aM 1)) (C := RX6) (T := TX6) (N := 19) hx hb hts i_X6 hown hK hP 0 rfl rfl 0 (by decide) (hts (.fieldLink RX6 7 "WordFlasherModel" "d" "[I") (List.mem_of_getElem? (i := 7) rfl)) (fun _ h9 => h9) rfl dX6_readsWord_64 ?_
        refine lv_iconst (v := 1) hx hb dX6_readsWord_67 (by decide) ?_
        refine lv_iload hx hb dX6_readsWord_68 (lv_at hl 4 rfl) ?_
        refine lv_iadd hx hb dX6_readsWord_70 ?_
        obtain ⟨h65, v63, e64, hf⟩ := rdA_el hf
        refine va_iald hx hb hK hP 1 0 rfl rfl h65 dX6_readsWord_71 ?_
        refine lv_as e64 ?_
        obtain ⟨r66, h67, hf⟩ := bnd_el hf
        refine rdS (As := [.int v63]) (rest := [.int v60, .int x3, .ref (aM 7)]) ⟨hx, hb, hml, hown, hts⟩ (c_X6_isLetter l g _ _ h67) (va_cwS 1 hts gX6_readsWord_X6_isLetter rfl rfl rfl (by decide +kernel) ⟨Nat.le_of_ble_eq_true rfl, Nat.le_of_ble_eq_true rfl⟩) hKW hP [] rfl rfl hl.1 rfl (lv_room (Nat.le_of_ble_eq_true rfl)) dX6_readsWord_72 ⟨Nat.zero_le _, Nat.zero_le _⟩ (fun r68 q69 => ?_)
        obtain ⟨q69, nb70⟩ := q69
        refine lv_as q69.symm ?_
        rw [q69] at nb70
        obtain ⟨j83, ej83, hf⟩ := sl_el hf
        have J_83 : ∀ (x1 x2 x3 x4 k1 k2 k3 : Int32) (XM : DM) (H : Heap) (locs : List Loc) (ls : Array Slot), va_P g.1 vwCl (pM g aM XM) H → va_D A (pM g aM XM) → va_S A s.heap H locs → lv_has ls 5 [(0, .ref (aM 0)), (1, .int x1), (2, .int x2), (3, .int x3), (4, .int x4)] → j83 x1 x2 x3 x4 k1 k2 k3 XM = some XMz → W p l e (headSpec wsX6_readsWord rmX6_readsWord).room s m args below meth c H locs 0 0 Q0 (F0 m 83 ls [.int k3, .int k2, .int k1, .ref (aM 7)]) := by
          intro x1 x2 x3 x4 k1 k2 k3 XM H locs ls hP hD hS hl hf
          rw [ej83] at hf
          refine lv_iadd hx hb dX6_readsWord_83 ?_
          obtain ⟨h73, f71, e72, hf⟩ := wrA_el hf
          obtain ⟨X74, e75, hf⟩ := sl_el hf
          refine va_iast hx hb hK hP hD hS 7 0 rfl rfl h73 dX6_readsWord_84 (fun H locs hP hD hS => ?_)
          have hP : va_P g.1 vwCl (pM g aM X74) H := by subst e75; subst e72; exact hP
          have hD : va_D A (pM g aM X74) := by subst e75; subst e72; exact hD
          refine lv_aload_n hx hb dX6_readsWord_85 rfl (lv_at hl 0 rfl) ?_
          refine va_get (D := g.1) (ci := 6) (v := .ref (aM 9)) (C := RX6) (T := TX6) (N := 19) hx hb hts i_X6 hown hK hP 0 rfl rfl 16 (by decide) (hts (.fieldLink RX6 35 "WordFlasherModel" "figures" "[Z") (List.mem_of_getElem? (i := 6) rfl)) (fun _ h9 => h9) rfl dX6_readsWord_86 ?_
          refine lv_iload_n hx hb dX6_readsWord_89 rfl (lv_at hl 3 rfl) ?_
          refine lv_aload_n hx hb dX6_readsWord_90 rfl (lv_at hl 0 rfl) ?_
          refine va_get (D := g.1) (ci := 6) (v := .ref (aM 9)) (C := RX6) (T := TX6) (N := 19) hx hb hts i_X6 hown hK hP 0 rfl rfl 16 (by decide) (hts (.fieldLink RX6 35 "WordFlasherModel" "figures" "[Z") (List.mem_of_getElem? (i := 6) rfl)) (fun _ h9 => h9) rfl dX6_readsWord_91 ?_
          refine lv_iload_n hx hb dX6_readsWord_94 rfl (lv_at hl 3 rfl) ?_
          obtain ⟨h78, v76, e77, hf⟩ := rdA_el hf
          refine va_zald hx hb hK hP 9 2 rfl rfl h78 dX6_readsWord_95 ?_
          refine lv_as e77 ?_
          obtain ⟨j119, ej119, hf⟩ := sl_el hf
          have J_119 : ∀ (x1 x2 x3 x4 k1 k2 : Int32) (XM : DM) (H : Heap) (locs : List Loc) (ls : Array Slot), va_P g.1 vwCl (pM g aM XM) H → va_D A (pM g aM XM) → va_S A s.heap H locs → lv_has ls 5 [(0, .ref (aM 0)), (1, .int x1), (2, .int x2), (3, .int x3), (4, .int x4)] → j119 x1 x2 x3 x4 k1 k2 XM = some XMz → W p l e (headSpec wsX6_readsWord rmX6_readsWord).room s m args below meth c H locs 0 0 Q0 (F0 m 119 ls [.int k2, .int k1, .ref (aM 9)]) := by
            intro x1 x2 x3 x4 k1 k2 XM H locs ls hP hD hS hl hf
            rw [ej119] at hf
            obtain ⟨h81, f79, e80, hf⟩ := wrA_el hf
            obtain ⟨X82, e83, hf⟩ := sl_el hf
            refine va_zast hx hb hK hP hD hS 9 2 rfl rfl h81 dX6_readsWord_119 (fun H locs hP hD hS => ?_)
            have hP : va_P g.1 vwCl (pM g aM X82) H := by subst e83; subst e80; exact hP
            have hD : va_D A (pM g aM X82) := by subst e83; subst e80; exact hD
            obtain ⟨v84, e85, hf⟩ := sl_el hf
            refine lv_iinc (v := v84) (lv' := [(4, .int v84), (0, .ref (aM 0)), (1, .int x1), (2, .int x2), (3, .int x3)]) hx hb dX6_readsWord_120 hl (k := 4) rfl (by rw [e85]; rfl) (by decide) rfl (fun ls hl => ?_)
            refine lv_goto (tgt := 48) hx hb dX6_readsWord_123 (by decide) ?_
            exact ih x1 x2 x3 v84 X82 _ _ ls hP hD hS (lv_sub hl [1, 2, 3, 4, 0] rfl) hf
          obtain ⟨j114, ej114, hf⟩ := sl_el hf
          have J_114 : ∀ (x1 x2 x3 x4 k1 : Int32) (XM : DM) (H : Heap) (locs : List Loc) (ls : Array Slot), va_P g.1 vwCl (pM g aM XM) H → va_D A (pM g aM XM) → va_S A s.heap H locs → lv_has ls 5 [(0, .ref (aM 0)), (1, .int x1), (2, .int x2), (3, .int x3), (4, .int x4)] → j114 x1 x2 x3 x4 k1 XM = some XMz → W p l e (headSpec wsX6_readsWord rmX6_readsWord).room s m args below meth c H locs 0 0 Q0 (F0 m 114 ls [.int k1, .ref (aM 9)]) := by
            intro x1 x2 x3 x4 k1 XM H locs ls hP hD hS hl hf
            rw [ej114] at hf
            refine lv_iconst (v := 1) hx hb dX6_readsWord_114 (by decide) ?_
            refine lv_goto (tgt := 119) hx hb dX6_readsWord_115 (by decide) ?_
            exact J_119 x1 x2 x3 x4 k1 1 XM _ _ ls hP hD hS (lv_sub hl [0, 1, 2, 3, 4] rfl) hf
          refine lv_if_ne (tgt := 114) hx hb dX6_readsWord_96 (by decide) (fun c86 => ?_) (fun c86 => ?_)
          · have hf := ite_f hf c86
            exact J_114 x1 x2 x3 x4 x3 X74 _ _ ls hP hD hS (lv_sub hl [0, 1, 2, 3, 4] rfl) hf
          · have hf := ite_t hf c86
            refine lv_aload_n hx hb dX6_readsWord_99 rfl (lv_at hl 0 rfl) ?_
            refine va_get (D := g.1) (ci := 6) (v := .ref (aM 1)) (C := RX6) (T := TX6) (N := 19) hx hb hts i_X6 hown hK hP 0 rfl rfl 0 (by decide) (hts (.fieldLink RX6 7 "WordFlasherModel" "d" "[I") (List.mem_of_getElem? (i := 7) rfl)) (fun _ h9 => h9) rfl dX6_readsWord_100 ?_
            refine lv_iconst (v := 1) hx hb dX6_readsWord_103 (by decide) ?_
            refine lv_iload hx hb dX6_readsWord_104 (lv_at hl 4 rfl) ?_
            refine lv_iadd hx hb dX6_readsWord_106 ?_
            obtain ⟨h89, v87, e88, hf⟩ := rdA_el hf
            refine va_iald hx hb hK hP 1 0 rfl rfl h89 dX6_readsWord_107 ?_
            refine lv_as e88 ?_
            obtain ⟨r90, h91, hf⟩ := bnd_el hf
            refine rdS (As := [.int v87]) (rest := [.int x3, .ref (aM 9)]) ⟨hx, hb, hml, hown, hts⟩ (c_X6_isFigure l g _ _ h91) (va_cwS 1 hts gX6_readsWord_X6_isFigure rfl rfl rfl (by decide +kernel) ⟨Nat.le_of_ble_eq_true rfl, Nat.le_of_ble_eq_true rfl⟩) hKW hP [] rfl rfl hl.1 rfl (lv_room (Nat.le_of_ble_eq_true rfl)) dX6_readsWord_108 ⟨Nat.zero_le _, Nat.zero_le _⟩ (fun r92 q93 => ?_)
            obtain ⟨q93, nb94⟩ := q93
            refine lv_as q93.symm ?_
            rw [q93] at nb94
            refine lv_if_eq (tgt := 118) hx hb dX6_readsWord_111 (by decide) (fun c95 => ?_) (fun c95 => ?_)
            · have hf := ite_t hf c95
              refine lv_iconst (v := 0) hx hb dX6_readsWord_118 (by decide) ?_
              exact J_119 x1 x2 x3 x4 x3 0 X74 _ _ ls hP hD hS (lv_sub hl [0, 1, 2, 3, 4] rfl) hf
            · have hf := ite_f hf c95
              exact J_114 x1 x2 x3 x4 x3 X74 _ _ ls hP hD hS (lv_sub hl [0, 1, 2, 3, 4] rfl) hf
        refine lv_if_eq (tgt := 82) hx hb dX6_readsWord_75 (by decide) (fun c96 => ?_) (fun c96 => ?_)
        · have hf := ite_t hf c96
          refine lv_iconst (v := 0) hx hb dX6_readsWord_82 (by decide) ?_
          exact J_83 x1 x2 x3 x4 x3 v60 0 XM _ _ ls hP hD hS (lv_sub hl [0, 1, 2, 3, 4] rfl) hf
        · have hf := ite_f hf c96
          refine lv_iconst (v := 1) hx hb dX6_readsWord_78 (by decide) ?_
          refine lv_goto (tgt := 83) hx hb dX6_readsWord_79 (by decide) ?_
          exact J_83 x1 x2 x3 x4 x3 v60 1 XM _ _ ls hP hD hS (lv_sub hl [0, 1, 2, 3, 4] rfl) hf
  exact L_48 n p1 p2 (XM 9 0) p1 X29 _ _ ls hP hD hS (lv_sub hl [2, 3, 4, 1, 0] rfl) hf
abbrev rmX6_parses : Room := { frames := 4, cells := 0, slots := 0, locals := 86 }
set_option maxHeartbeats 8000000 in
set_option maxRecDepth 100000 in
theorem c_X6_parses (l : Launch) (g : GG) (aM : Nat → Nat) (sz : Nat) (n : Nat) (XM : DM) (XMz : DM) (hf : fX6_parses n XM = some XMz) : Met l yX6_parses wsX6_parses rmX6_parses (va_Pc [.ref (aM 0)] (fun U => U.heap.size = sz ∧ va_P g.1 vwCl (pM g aM XM) U.heap ∧ KW g U ∧ va_D (fun _ => True) (pM g aM XM))) (va_Qv (fun (_ : Unit) => True) (fun (_ : Unit) t => va_P g.1 vwCl (pM g aM XMz) t.heap) (va_A (pM g aM XM) sz)) 0 0 (va_A (pM g aM XM) sz) := by
  refine Met.ofW (cc := cX6_parses) (maxL := 4) (ret := none) (by decide) rfl ?_
  intro p e s m args below meth c s₁ B hml hv
  obtain ⟨hargs, hsz, hP, hKW, hD0⟩ := hv
  have hK := hKW.1
  have hx := B.exec
  have hb := B.bytes
  have hr := B.returns
  have hts := atoms_spec (ws := wsX6_parses) B.pre
  have hown : s.vm.findClass RX6 = some m.cls := findClass_of_methodNamed B.named
  have hlocks := B.notSynchronized
  subst hsz
  have hD := hD0.self (sz := s.heap.size)
  generalize hAe : va_A (pM g aM XM) s.heap.size = A at hD ⊢
  have hA : ∀ q : Nat, s.heap.size ≤ q → A q := fun q h => by rw [← hAe]; exact Or.inr h
  have hS : va_S A s.heap s.heap [] := va_S.rf
  have i_X6 : ∀ w ∈ wsX60, w ∈ wsX6_parses := fun w h => List.mem_cons_of_mem _ (List.mem_append_right _ h)
  have hent : entryFrame m args 4 = F0 m 0 ((lg_sl ([.ref (aM 0)]) ++ List.replicate (4 - (lg_sl ([.ref (aM 0)])).length) Slot.unset).toArray) [] := by rw [hargs]; exact lg_entry_eq _ _ _
  rw [hent]
  have hl := lv_entry ([.ref (aM 0)]) (n := 4) (Nat.le_of_ble_eq_true rfl)
  generalize (lg_sl ([.ref (aM 0)]) ++ List.replicate (4 - (lg_sl ([.ref (aM 0)])).length) Slot.unset).toArray = ls at hl ⊢
  have hl : lv_has ls 4 [(0, .ref (aM 0))] := hl
  generalize hQ0 : MQ below _ _ _ _ _ _ = Q0
  unfold fX6_parses at hf
  refine lv_aload_n hx hb dX6_parses_0 rfl (lv_at hl 0 rfl) ?_
  refine lv_iconst (v := 0) hx hb dX6_parses_1 (by decide) ?_
  obtain ⟨X1, e2, hf⟩ := sl_el hf
  refine va_put (D := g.1) (ci := 6) (v := .int 0) (ty := .int) (C := RX6) (T := TX6) (N := 19) hx hb hts i_X6 tyX6 tyX6_ok nmX6 hown hK hP hD hS 0 rfl rfl 9 (by decide) (hts (.fieldLink RX6 45 "WordFlasherModel" "words" "I") (List.mem_of_getElem? (i := 1) rfl)) (fun _ h9 => h9) rfl (by decide +kernel) rfl rfl (Nat.le_of_ble_eq_true rfl) dX6_parses_2 (fun H locs hP hD hS => ?_)
  have hP : va_P g.1 vwCl (pM g aM X1) H := by subst e2; exact hP
  have hD : va_D A (pM g aM X1) := by subst e2; exact hD
  refine lv_iconst (v := 0) hx hb dX6_parses_5 (by decide) ?_
  refine lv_istore_n (lv' := [(1, .int 0), (0, .ref (aM 0))]) hx hb dX6_parses_6 rfl hl (by decide) rfl (fun ls hl => ?_)
  refine lv_iconst (v := 0) hx hb dX6_parses_7 (by decide) ?_
  refine lv_istore_n (lv' := [(2, .int 0), (1, .int 0), (0, .ref (aM 0))]) hx hb dX6_parses_8 rfl hl (by decide) rfl (fun ls hl => ?_)
  obtain ⟨j82, ej82, hf⟩ := sl_el hf
  have J_82 : ∀ (XM : DM) (H : Heap) (locs : List Loc) (ls : Array Slot), va_P g.1 vwCl (pM g aM XM) H → va_D A (pM g aM XM) → va_S A s.heap H locs → lv_has ls 4 [(0, .ref (aM 0))] → j82 XM = some XMz → W p l e (headSpec wsX6_parses rmX6_parses).room s m args below meth c H locs 0 0 Q0 (F0 m 82 ls []) := by
    intro XM H locs ls hP hD hS hl hf
    rw [ej82] at hf
    refine lv_aload_n hx hb dX6_parses_82 rfl (lv_at hl 0 rfl) ?_
    refine lv_aload_n hx hb dX6_parses_83 rfl (lv_at hl 0 rfl) ?_
    refine va_get (D := g.1) (ci := 6) (v := .int (XM 9 0)) (C := RX6) (T := TX6) (N := 19) hx hb hts i_X6 hown hK hP 0 rfl rfl 9 (by decide) (hts (.fieldLink RX6 45 "WordFlasherModel" "words" "I") (List.mem_of_getElem? (i := 1) rfl)) (fun _ h9 => h9) rfl dX6_parses_84 ?_
    obtain ⟨j107, ej107, hf⟩ := sl_el hf
    have J_107 : ∀ (k1 : Int32) (XM : DM) (H : Heap) (locs : List Loc) (ls : Array Slot), va_P g.1 vwCl (pM g aM XM) H → va_D A (pM g aM XM) → va_S A s.heap H locs → lv_has ls 4 [(0, .ref (aM 0))] → j107 k1 XM = some XMz → W p l e (headSpec wsX6_parses rmX6_parses).room s m args below meth c H locs 0 0 Q0 (F0 m 107 ls [.int k1, .ref (aM 0)]) := by
      intro k1 XM H locs ls hP hD hS hl hf
      rw [ej107] at hf
      obtain ⟨X3, e4, hf⟩ := sl_el hf
      refine va_put (D := g.1) (ci := 6) (v := .int k1) (ty := .int) (C := RX6) (T := TX6) (N := 19) hx hb hts i_X6 tyX6 tyX6_ok nmX6 hown hK hP hD hS 0 rfl rfl 10 (by decide) (hts (.fieldLink RX6 53 "WordFlasherModel" "sentences" "I") (List.mem_of_getElem? (i := 4) rfl)) (fun _ h9 => h9) rfl (by decide +kernel) rfl rfl (Nat.le_of_ble_eq_true rfl) dX6_parses_107 (fun H locs hP hD hS => ?_)
      have hP : va_P g.1 vwCl (pM g aM X3) H := by subst e4; exact hP
      have hD : va_D A (pM g aM X3) := by subst e4; exact hD
      refine lv_aload_n hx hb dX6_parses_110 rfl (lv_at hl 0 rfl) ?_
      refine lv_aload_n hx hb dX6_parses_111 rfl (lv_at hl 0 rfl) ?_
      refine va_get (D := g.1) (ci := 6) (v := .int (X3 9 0)) (C := RX6) (T := TX6) (N := 19) hx hb hts i_X6 hown hK hP 0 rfl rfl 9 (by decide) (hts (.fieldLink RX6 45 "WordFlasherModel" "words" "I") (List.mem_of_getElem? (i := 1) rfl)) (fun _ h9 => h9) rfl dX6_parses_112 ?_
      obtain ⟨j135, ej135, hf⟩ := sl_el hf
      have J_135 : ∀ (k1 : Int32) (XM : DM) (H : Heap) (locs : List Loc) (ls : Array Slot), va_P g.1 vwCl (pM g aM XM) H → va_D A (pM g aM XM) → va_S A s.heap H locs → lv_has ls 4 [] → j135 k1 XM = some XMz → W p l e (headSpec wsX6_parses rmX6_parses).room s m args below meth c H locs 0 0 Q0 (F0 m 135 ls [.int k1, .ref (aM 0)]) := by
        intro k1 XM H locs ls hP hD hS hl hf
        rw [ej135] at hf
        obtain ⟨X5, e6, hf⟩ := sl_el hf
        refine va_put (D := g.1) (ci := 6) (v := .int k1) (ty := .int) (C := RX6) (T := TX6) (N := 19) hx hb hts i_X6 tyX6 tyX6_ok nmX6 hown hK hP hD hS 0 rfl rfl 11 (by decide) (hts (.fieldLink RX6 56 "WordFlasherModel" "pages" "I") (List.mem_of_getElem? (i := 6) rfl)) (fun _ h9 => h9) rfl (by decide +kernel) rfl rfl (Nat.le_of_ble_eq_true rfl) dX6_parses_135 (fun H locs hP hD hS => ?_)
        have hP : va_P g.1 vwCl (pM g aM X5) H := by subst e6; exact hP
        have hD : va_D A (pM g aM X5) := by subst e6; exact hD
        have er0 := Option.some.inj hf
        rw [← hQ0]; exact W.vret hx hb hr (fun t ht hW => ⟨⟨(), rfl, trivial, by dsimp only; rw [ht, ← er0]; exact hP⟩, hS.F ht⟩) hS.2.2 dX6_parses_138
      refine lv_if_ne (tgt := 122) hx hb dX6_parses_115 (by decide) (fun c7 => ?_) (fun c7 => ?_)
      · have hf := ite_f hf c7
        refine lv_aload_n hx hb dX6_parses_122 rfl (lv_at hl 0 rfl) ?_
        refine va_get (D := g.1) (ci := 6) (v := .ref (aM 11)) (C := RX6) (T := TX6) (N := 19) hx hb hts i_X6 hown hK hP 0 rfl rfl 18 (by decide) (hts (.fieldLink RX6 42 "WordFlasherModel" "pageOf" "[I") (List.mem_of_getElem? (i := 5) rfl)) (fun _ h9 => h9) rfl dX6_parses_123 ?_
        refine lv_aload_n hx hb dX6_parses_126 rfl (lv_at hl 0 rfl) ?_
        refine va_get (D := g.1) (ci := 6) (v := .int (X3 9 0)) (C := RX6) (T := TX6) (N := 19) hx hb hts i_X6 hown hK hP 0 rfl rfl 9 (by decide) (hts (.fieldLink RX6 45 "WordFlasherModel" "words" "I") (List.mem_of_getElem? (i := 1) rfl)) (fun _ h9 => h9) rfl dX6_parses_127 ?_
        refine lv_iconst (v := 1) hx hb dX6_parses_130 (by decide) ?_
        refine lv_isub hx hb dX6_parses_131 ?_
        obtain ⟨h10, v8, e9, hf⟩ := rdA_el hf
        refine va_iald hx hb hK hP 11 0 rfl rfl h10 dX6_parses_132 ?_
        refine lv_as e9 ?_
        refine lv_iconst (v := 1) hx hb dX6_parses_133 (by decide) ?_
        refine lv_iadd hx hb dX6_parses_134 ?_
        exact J_135 (v8 + 1) X3 _ _ ls hP hD hS (lv_sub hl [] rfl) hf
      · have hf := ite_t hf c7
        refine lv_iconst (v := 0) hx hb dX6_parses_118 (by decide) ?_
        refine lv_goto (tgt := 135) hx hb dX6_parses_119 (by decide) ?_
        exact J_135 0 X3 _ _ ls hP hD hS (lv_sub hl [] rfl) hf
    refine lv_if_ne (tgt := 94) hx hb dX6_parses_87 (by decide) (fun c11 => ?_) (fun c11 => ?_)
    · have hf := ite_f hf c11
      refine lv_aload_n hx hb dX6_parses_94 rfl (lv_at hl 0 rfl) ?_
      refine va_get (D := g.1) (ci := 6) (v := .ref (aM 10)) (C := RX6) (T := TX6) (N := 19) hx hb hts i_X6 hown hK hP 0 rfl rfl 17 (by decide) (hts (.fieldLink RX6 39 "WordFlasherModel" "sentenceOf" "[I") (List.mem_of_getElem? (i := 3) rfl)) (fun _ h9 => h9) rfl dX6_parses_95 ?_
      refine lv_aload_n hx hb dX6_parses_98 rfl (lv_at hl 0 rfl) ?_
      refine va_get (D := g.1) (ci := 6) (v := .int (XM 9 0)) (C := RX6) (T := TX6) (N := 19) hx hb hts i_X6 hown hK hP 0 rfl rfl 9 (by decide) (hts (.fieldLink RX6 45 "WordFlasherModel" "words" "I") (List.mem_of_getElem? (i := 1) rfl)) (fun _ h9 => h9) rfl dX6_parses_99 ?_
      refine lv_iconst (v := 1) hx hb dX6_parses_102 (by decide) ?_
      refine lv_isub hx hb dX6_parses_103 ?_
      obtain ⟨h14, v12, e13, hf⟩ := rdA_el hf
      refine va_iald hx hb hK hP 10 0 rfl rfl h14 dX6_parses_104 ?_
      refine lv_as e13 ?_
      refine lv_iconst (v := 1) hx hb dX6_parses_105 (by decide) ?_
      refine lv_iadd hx hb dX6_parses_106 ?_
      exact J_107 (v12 + 1) XM _ _ ls hP hD hS (lv_sub hl [0] rfl) hf
    · have hf := ite_t hf c11
      refine lv_iconst (v := 0) hx hb dX6_parses_90 (by decide) ?_
      refine lv_goto (tgt := 107) hx hb dX6_parses_91 (by decide) ?_
      exact J_107 0 XM _ _ ls hP hD hS (lv_sub hl [0] rfl) hf
  have L_9 : ∀ fu : Nat, ∀ (x1 x2 : Int32) (XM : DM) (H : Heap) (locs : List Loc) (ls : Array Slot), va_P g.1 vwCl (pM g aM XM) H → va_D A (pM g aM XM) → va_S A s.heap H locs → lv_has ls 4 [(0, .ref (aM 0)), (1, .int x1), (2, .int x2)] → fX6_parses_L9 n j82 fu x1 x2 XM = some XMz → W p l e (headSpec wsX6_parses rmX6_parses).room s m args below meth c H locs 0 0 Q0 (F0 m 9 ls []) := by
    intro fu
    induction fu with
    | zero => intros; rename_i hf; rw [fX6_parses_L9] at hf; cases hf
    | succ fu ih =>
      intro x1 x2 XM H locs ls hP hD hS hl hf
      rw [fX6_parses_L9] at hf
      refine lv_iload_n hx hb dX6_parses_9 rfl (lv_at hl 2 rfl) ?_
      refine lv_aload_n hx hb dX6_parses_10 rfl (lv_at hl 0 rfl) ?_
      refine va_get (D := g.1) (ci := 6) (v := .ref (aM 1)) (C := RX6) (T := TX6) (N := 19) hx hb hts i_X6 hown hK hP 0 rfl rfl 0 (by decide) (hts (.fieldLink RX6 7 "WordFlasherModel" "d" "[I") (List.mem_of_getElem? (i := 2) rfl)) (fun _ h9 => h9) rfl dX6_parses_11 ?_
      refine lv_iconst (v := 0) hx hb dX6_parses_14 (by decide) ?_
      obtain ⟨h17, v15, e16, hf⟩ := rdA_el hf
      refine va_iald hx hb hK hP 1 0 rfl rfl h17 dX6_parses_15 ?_
      refine lv_as e16 ?_
      refine lv_icmp_gt (tgt := 82) hx hb dX6_parses_16 (by decide) (fun c18 => ?_) (fun c18 => ?_)
      · have hf := ite_t hf c18
        exact J_82 XM _ _ ls hP hD hS (lv_sub hl [0] rfl) hf
      · have hf := ite_f hf c18
        refine lv_iload_n hx hb dX6_parses_19 rfl (lv_at hl 2 rfl) ?_
        refine lv_aload_n hx hb dX6_parses_20 rfl (lv_at hl 0 rfl) ?_
        refine va_get (D := g.1) (ci := 6) (v := .ref (aM 1)) (C := RX6) (T := TX6) (N := 19) hx hb hts i_X6 hown hK hP 0 rfl rfl 0 (by decide) (hts (.fieldLink RX6 7 "WordFlasherModel" "d" "[I") (List.mem_of_getElem? (i := 2) rfl)) (fun _ h9 => h9) rfl dX6_parses_21 ?_
        refine lv_iconst (v := 0) hx hb dX6_parses_24 (by decide) ?_
        obtain ⟨h21, v19, e20, hf⟩ := rdA_el hf
        refine va_iald hx hb hK hP 1 0 rfl rfl h21 dX6_parses_25 ?_
        refine lv_as e20 ?_
        obtain ⟨j47, ej47, hf⟩ := sl_el hf
        have J_47 : ∀ (x1 x2 k0 : Int32) (XM : DM) (H : Heap) (locs : List Loc) (ls : Array Slot), va_P g.1 vwCl (pM g aM XM) H → va_D A (pM g aM XM) → va_S A s.heap H locs → lv_has ls 4 [(0, .ref (aM 0)), (1, .int x1), (2, .int x2)] → j47 x1 x2 k0 XM = some XMz → W p l e (headSpec wsX6_parses rmX6_parses).room s m args below meth c H locs 0 0 Q0 (F0 m 47 ls [.int k0]) := by
          intro x1 x2 k0 XM H locs ls hP hD hS hl hf
          rw [ej47] at hf
          refine lv_istore_n (lv' := [(3, .int k0), (0, .ref (aM 0)), (1, .int x1), (2, .int x2)]) hx hb dX6_parses_47 rfl hl (by decide) rfl (fun ls hl => ?_)
          refine lv_iload_n hx hb dX6_parses_48 rfl (lv_at hl 0 rfl) ?_
          obtain ⟨j64, ej64, hf⟩ := sl_el hf
          have J_64 : ∀ (x1 x2 x3 : Int32) (XM : DM) (H : Heap) (locs : List Loc) (ls : Array Slot), va_P g.1 vwCl (pM g aM XM) H → va_D A (pM g aM XM) → va_S A s.heap H locs → lv_has ls 4 [(0, .ref (aM 0)), (1, .int x1), (2, .int x2), (3, .int x3)] → j64 x1 x2 x3 XM = some XMz → W p l e (headSpec wsX6_parses rmX6_parses).room s m args below meth c H locs 0 0 Q0 (F0 m 64 ls []) := by
            intro x1 x2 x3 XM H locs ls hP hD hS hl hf
            rw [ej64] at hf
            refine lv_iload_n hx hb dX6_parses_64 rfl (lv_at hl 3 rfl) ?_
            obtain ⟨j75, ej75, hf⟩ := sl_el hf
            have J_75 : ∀ (x2 k0 : Int32) (XM : DM) (H : Heap) (locs : List Loc) (ls : Array Slot), va_P g.1 vwCl (pM g aM XM) H → va_D A (pM g aM XM) → va_S A s.heap H locs → lv_has ls 4 [(0, .ref (aM 0)), (2, .int x2)] → j75 x2 k0 XM = some XMz → W p l e (headSpec wsX6_parses rmX6_parses).room s m args below meth c H locs 0 0 Q0 (F0 m 75 ls [.int k0]) := by
              intro x2 k0 XM H locs ls hP hD hS hl hf
              rw [ej75] at hf
              refine lv_istore_n (lv' := [(1, .int k0), (0, .ref (aM 0)), (2, .int x2)]) hx hb dX6_parses_75 rfl hl (by decide) rfl (fun ls hl => ?_)
              obtain ⟨v22, e23, hf⟩ := sl_el hf
              refine lv_iinc (v := v22) (lv' := [(2, .int v22), (1, .int k0), (0, .ref (aM 0))]) hx hb dX6_parses_76 hl (k := 2) rfl (by rw [e23]; rfl) (by decide) rfl (fun ls hl => ?_)
              refine lv_goto (tgt := 9) hx hb dX6_parses_79 (by decide) ?_
              exact ih k0 v22 XM _ _ ls hP hD hS (lv_sub hl [2, 1, 0] rfl) hf
            refine lv_if_eq (tgt := 72) hx hb dX6_parses_65 (by decide) (fun c24 => ?_) (fun c24 => ?_)
            · have hf := ite_t hf c24
              refine lv_iload_n hx hb dX6_parses_72 rfl (lv_at hl 1 rfl) ?_
              refine lv_iconst (v := 1) hx hb dX6_parses_73 (by decide) ?_
              refine lv_iadd hx hb dX6_parses_74 ?_
              exact J_75 x2 (x1 + 1) XM _ _ ls hP hD hS (lv_sub hl [0, 2] rfl) hf
            · have hf := ite_f hf c24
              refine lv_iconst (v := 0) hx hb dX6_parses_68 (by decide) ?_
              refine lv_goto (tgt := 75) hx hb dX6_parses_69 (by decide) ?_
              exact J_75 x2 0 XM _ _ ls hP hD hS (lv_sub hl [0, 2] rfl) hf
          refine lv_if_eq (tgt := 64) hx hb dX6_parses_49 (by decide) (fun c25 => ?_) (fun c25 => ?_)
          · have hf := ite_t hf c25
            exact J_64 x1 x2 k0 XM _ _ ls hP hD hS (lv_sub hl [1, 2, 3, 0] rfl) hf
          · have hf := ite_f hf c25
            refine lv_iload_n hx hb dX6_parses_52 rfl (lv_at hl 2 rfl) ?_
            refine lv_if_le (tgt := 64) hx hb dX6_parses_53 (by decide) (fun c26 => ?_) (fun c26 => ?_)
            · have hf := ite_t hf c26
              exact J_64 x1 x2 k0 XM _ _ ls hP hD hS (lv_sub hl [1, 2, 3, 0] rfl) hf
            · have hf := ite_f hf c26
              refine lv_aload_n hx hb dX6_parses_56 rfl (lv_at hl 1 rfl) ?_
              refine lv_iload_n hx hb dX6_parses_57 rfl (lv_at hl 3 rfl) ?_
              refine lv_iload_n hx hb dX6_parses_58 rfl (lv_at hl 2 rfl) ?_
              refine lv_isub hx hb dX6_parses_59 ?_
              refine lv_iload_n hx hb dX6_parses_60 rfl (lv_at hl 2 rfl) ?_
              obtain ⟨X27, h28, hf⟩ := bnd_el hf
              refine wr_v (rest := []) (wc := (pM g aM XM)) (wc' := (pM g aM X27)) (ws2 := (pM g aM X27)) hP hD hS hA [0, 1, 2, 3, 4, 5, 6, 7, 8, 9, 10, 11] rfl rfl (by rfl) (rnV (As := [.int (x2 - x1), .int x1]) ⟨hx, hb, hml, hown, hts⟩ (c_X6_readsWord l g aM _ _ _ _ _ _ h28) (cwV 2 hts gX6_parses_X6_readsWord rfl rfl rfl (by decide +kernel) ⟨Nat.le_of_ble_eq_true rfl, Nat.le_of_ble_eq_true rfl⟩) hKW hP hD [0, 1, 2, 3, 4, 5, 6, 7, 8, 9, 10, 11] (by decide) rfl (va_recv hK hP (ci := 6) (q0 := 0) rfl rfl) rfl hl.1 rfl (lv_room (Nat.le_of_ble_eq_true rfl)) dX6_parses_61 ⟨Nat.zero_le _, Nat.zero_le _⟩) (fun H locs hP hD hS => ?_)
              exact J_64 x1 x2 k0 X27 _ _ ls hP hD hS (lv_sub hl [1, 2, 3, 0] rfl) hf
        obtain ⟨j42, ej42, hf⟩ := sl_el hf
        have J_42 : ∀ (x1 x2 : Int32) (XM : DM) (H : Heap) (locs : List Loc) (ls : Array Slot), va_P g.1 vwCl (pM g aM XM) H → va_D A (pM g aM XM) → va_S A s.heap H locs → lv_has ls 4 [(0, .ref (aM 0)), (1, .int x1), (2, .int x2)] → j42 x1 x2 XM = some XMz → W p l e (headSpec wsX6_parses rmX6_parses).room s m args below meth c H locs 0 0 Q0 (F0 m 42 ls []) := by
          intro x1 x2 XM H locs ls hP hD hS hl hf
          rw [ej42] at hf
          refine lv_iconst (v := 1) hx hb dX6_parses_42 (by decide) ?_
          refine lv_goto (tgt := 47) hx hb dX6_parses_43 (by decide) ?_
          exact J_47 x1 x2 1 XM _ _ ls hP hD hS (lv_sub hl [0, 1, 2] rfl) hf
        refine lv_icmp_eq (tgt := 42) hx hb dX6_parses_26 (by decide) (fun c29 => ?_) (fun c29 => ?_)
        · have hf := ite_t hf c29
          exact J_42 x1 x2 XM _ _ ls hP hD hS (lv_sub hl [0, 1, 2] rfl) hf
        · have hf := ite_f hf c29
          refine lv_aload_n hx hb dX6_parses_29 rfl (lv_at hl 0 rfl) ?_
          refine va_get (D := g.1) (ci := 6) (v := .ref (aM 1)) (C := RX6) (T := TX6) (N := 19) hx hb hts i_X6 hown hK hP 0 rfl rfl 0 (by decide) (hts (.fieldLink RX6 7 "WordFlasherModel" "d" "[I") (List.mem_of_getElem? (i := 2) rfl)) (fun _ h9 => h9) rfl dX6_parses_30 ?_
          refine lv_iconst (v := 1) hx hb dX6_parses_33 (by decide) ?_
          refine lv_iload_n hx hb dX6_parses_34 rfl (lv_at hl 2 rfl) ?_
          refine lv_iadd hx hb dX6_parses_35 ?_
          obtain ⟨h32, v30, e31, hf⟩ := rdA_el hf
          refine va_iald hx hb hK hP 1 0 rfl rfl h32 dX6_parses_36 ?_
          refine lv_as e31 ?_
          refine lv_bipush (v := 32) hx hb dX6_parses_37 (by decide) ?_
          refine lv_icmp_ne (tgt := 46) hx hb dX6_parses_39 (by decide) (fun c33 => ?_) (fun c33 => ?_)
          · have hf := ite_f hf c33
            refine lv_iconst (v := 0) hx hb dX6_parses_46 (by decide) ?_
            exact J_47 x1 x2 0 XM _ _ ls hP hD hS (lv_sub hl [0, 1, 2] rfl) hf
          · have hf := ite_t hf c33
            exact J_42 x1 x2 XM _ _ ls hP hD hS (lv_sub hl [0, 1, 2] rfl) hf
  exact L_9 n 0 0 X1 _ _ ls hP hD hS (lv_sub hl [2, 1, 0] rfl) hf
abbrev rmX6_classOf : Room := { frames := 0, cells := 0, slots := 0, locals := 0 }
set_option maxHeartbeats 8000000 in
set_option maxRecDepth 100000 in
theorem c_X6_classOf (l : Launch) (g : GG) (aM : Nat → Nat) (XM : DM) (p1 : Int32) (r : Int32) (hf : fX6_classOf XM p1 = some r) : Met l yX6_classOf wsX6_classOf rmX6_classOf (va_Pc [.ref (aM 0), .int p1] (fun U => va_P g.1 vwCl (pM g aM XM) U.heap ∧ KW g U)) (vp_Si (fun r' => r' = r ∧ True)) 0 0 (fun _ => False) := by
  refine Met.ofW (cc := cX6_classOf) (maxL := 2) (ret := (some .int)) (by decide) rfl ?_
  intro p e s m args below meth c s₁ B hml hv
  obtain ⟨hargs, hP, hKW⟩ := hv
  have hK := hKW.1
  have hx := B.exec
  have hb := B.bytes
  have hr := B.returns
  have hts := atoms_spec (ws := wsX6_classOf) B.pre
  have hown : s.vm.findClass RX6 = some m.cls := findClass_of_methodNamed B.named
  have hlocks := B.notSynchronized
  have i_X6 : ∀ w ∈ wsX60, w ∈ wsX6_classOf := fun w h => List.mem_cons_of_mem _ (List.mem_append_right _ h)
  have hent : entryFrame m args 2 = F0 m 0 ((lg_sl ([.ref (aM 0), .int p1]) ++ List.replicate (2 - (lg_sl ([.ref (aM 0), .int p1])).length) Slot.unset).toArray) [] := by rw [hargs]; exact lg_entry_eq _ _ _
  rw [hent]
  have hl := lv_entry ([.ref (aM 0), .int p1]) (n := 2) (Nat.le_of_ble_eq_true rfl)
  generalize (lg_sl ([.ref (aM 0), .int p1]) ++ List.replicate (2 - (lg_sl ([.ref (aM 0), .int p1])).length) Slot.unset).toArray = ls at hl ⊢
  have hl : lv_has ls 2 [(0, .ref (aM 0)), (1, .int p1)] := hl
  generalize hQ0 : MQ below _ _ _ _ _ _ = Q0
  unfold fX6_classOf at hf
  refine lv_aload_n hx hb dX6_classOf_0 rfl (lv_at hl 0 rfl) ?_
  refine va_get (D := g.1) (ci := 6) (v := .ref (aM 7)) (C := RX6) (T := TX6) (N := 19) hx hb hts i_X6 hown hK hP 0 rfl rfl 14 (by decide) (hts (.fieldLink RX6 29 "WordFlasherModel" "letters" "[I") (List.mem_of_getElem? (i := 1) rfl)) (fun _ h9 => h9) rfl dX6_classOf_1 ?_
  refine lv_iload_n hx hb dX6_classOf_4 rfl (lv_at hl 1 rfl) ?_
  obtain ⟨h3, v1, e2, hf⟩ := rdA_el hf
  refine va_iald hx hb hK hP 7 0 rfl rfl h3 dX6_classOf_5 ?_
  refine lv_as e2 ?_
  refine lv_iconst (v := 5) hx hb dX6_classOf_6 (by decide) ?_
  refine lv_icmp_ge (tgt := 14) hx hb dX6_classOf_7 (by decide) (fun c4 => ?_) (fun c4 => ?_)
  · have hf := ite_t hf c4
    refine lv_aload_n hx hb dX6_classOf_14 rfl (lv_at hl 0 rfl) ?_
    refine va_get (D := g.1) (ci := 6) (v := .ref (aM 7)) (C := RX6) (T := TX6) (N := 19) hx hb hts i_X6 hown hK hP 0 rfl rfl 14 (by decide) (hts (.fieldLink RX6 29 "WordFlasherModel" "letters" "[I") (List.mem_of_getElem? (i := 1) rfl)) (fun _ h9 => h9) rfl dX6_classOf_15 ?_
    refine lv_iload_n hx hb dX6_classOf_18 rfl (lv_at hl 1 rfl) ?_
    obtain ⟨h7, v5, e6, hf⟩ := rdA_el hf
    refine va_iald hx hb hK hP 7 0 rfl rfl h7 dX6_classOf_19 ?_
    refine lv_as e6 ?_
    refine lv_bipush (v := 9) hx hb dX6_classOf_20 (by decide) ?_
    refine lv_icmp_ge (tgt := 29) hx hb dX6_classOf_22 (by decide) (fun c8 => ?_) (fun c8 => ?_)
    · have hf := ite_t hf c8
      refine lv_iconst (v := 2) hx hb dX6_classOf_29 (by decide) ?_
      have er0 := Option.some.inj hf
      rw [← hQ0]; exact W.iret (v := 2) hx hb hr (fun t ht hW => ⟨2, rfl, ⟨er0, trivial⟩, ht⟩) (fun q h => by cases h) dX6_classOf_30
    · have hf := ite_f hf c8
      refine lv_iconst (v := 1) hx hb dX6_classOf_25 (by decide) ?_
      refine lv_goto (tgt := 30) hx hb dX6_classOf_26 (by decide) ?_
      have er0 := Option.some.inj hf
      rw [← hQ0]; exact W.iret (v := 1) hx hb hr (fun t ht hW => ⟨1, rfl, ⟨er0, trivial⟩, ht⟩) (fun q h => by cases h) dX6_classOf_30
  · have hf := ite_f hf c4
    refine lv_iconst (v := 0) hx hb dX6_classOf_10 (by decide) ?_
    refine lv_goto (tgt := 30) hx hb dX6_classOf_11 (by decide) ?_
    have er0 := Option.some.inj hf
    rw [← hQ0]; exact W.iret (v := 0) hx hb hr (fun t ht hW => ⟨0, rfl, ⟨er0, trivial⟩, ht⟩) (fun q h => by cases h) dX6_classOf_30
abbrev rmX6_measureOf : Room := { frames := 0, cells := 0, slots := 0, locals := 0 }
set_option maxHeartbeats 8000000 in
set_option maxRecDepth 100000 in
theorem c_X6_measureOf (l : Launch) (g : GG) (aM : Nat → Nat) (XM : DM) (p1 : Int32) (r : Int32) (hf : fX6_measureOf XM p1 = some r) : Met l yX6_measureOf wsX6_measureOf rmX6_measureOf (va_Pc [.ref (aM 0), .int p1] (fun U => va_P g.1 vwCl (pM g aM XM) U.heap ∧ KW g U)) (vp_Si (fun r' => r' = r ∧ True)) 0 0 (fun _ => False) := by
  refine Met.ofW (cc := cX6_measureOf) (maxL := 4) (ret := (some .int)) (by decide) rfl ?_
  intro p e s m args below meth c s₁ B hml hv
  obtain ⟨hargs, hP, hKW⟩ := hv
  have hK := hKW.1
  have hx := B.exec
  have hb := B.bytes
  have hr := B.returns
  have hts := atoms_spec (ws := wsX6_measureOf) B.pre
  have hown : s.vm.findClass RX6 = some m.cls := findClass_of_methodNamed B.named
  have hlocks := B.notSynchronized
  have i_X6 : ∀ w ∈ wsX60, w ∈ wsX6_measureOf := fun w h => List.mem_cons_of_mem _ (List.mem_append_right _ h)
  have hent : entryFrame m args 4 = F0 m 0 ((lg_sl ([.ref (aM 0), .int p1]) ++ List.replicate (4 - (lg_sl ([.ref (aM 0), .int p1])).length) Slot.unset).toArray) [] := by rw [hargs]; exact lg_entry_eq _ _ _
  rw [hent]
  have hl := lv_entry ([.ref (aM 0), .int p1]) (n := 4) (Nat.le_of_ble_eq_true rfl)
  generalize (lg_sl ([.ref (aM 0), .int p1]) ++ List.replicate (4 - (lg_sl ([.ref (aM 0), .int p1])).length) Slot.unset).toArray = ls at hl ⊢
  have hl : lv_has ls 4 [(0, .ref (aM 0)), (1, .int p1)] := hl
  generalize hQ0 : MQ below _ _ _ _ _ _ = Q0
  unfold fX6_measureOf at hf
  refine lv_aload_n hx hb dX6_measureOf_0 rfl (lv_at hl 0 rfl) ?_
  refine va_get (D := g.1) (ci := 6) (v := .ref (aM 7)) (C := RX6) (T := TX6) (N := 19) hx hb hts i_X6 hown hK hP 0 rfl rfl 14 (by decide) (hts (.fieldLink RX6 29 "WordFlasherModel" "letters" "[I") (List.mem_of_getElem? (i := 1) rfl)) (fun _ h9 => h9) rfl dX6_measureOf_1 ?_
  refine lv_iload_n hx hb dX6_measureOf_4 rfl (lv_at hl 1 rfl) ?_
  obtain ⟨h3, v1, e2, hf⟩ := rdA_el hf
  refine va_iald hx hb hK hP 7 0 rfl rfl h3 dX6_measureOf_5 ?_
  refine lv_as e2 ?_
  refine lv_istore_n (lv' := [(2, .int v1), (0, .ref (aM 0)), (1, .int p1)]) hx hb dX6_measureOf_6 rfl hl (by decide) rfl (fun ls hl => ?_)
  refine lv_iload_n hx hb dX6_measureOf_7 rfl (lv_at hl 0 rfl) ?_
  refine lv_bipush (v := 10) hx hb dX6_measureOf_8 (by decide) ?_
  obtain ⟨j25, ej25, hf⟩ := sl_el hf
  have J_25 : ∀ (k0 : Int32) (ls : Array Slot), lv_has ls 4 [(0, .ref (aM 0))] → j25 k0 = some r → W p l e (headSpec wsX6_measureOf rmX6_measureOf).room s m args below meth c s.heap [] 0 0 Q0 (F0 m 25 ls [.int k0]) := by
    intro k0 ls hl hf
    rw [ej25] at hf
    refine lv_istore_n (lv' := [(3, .int k0), (0, .ref (aM 0))]) hx hb dX6_measureOf_25 rfl hl (by decide) rfl (fun ls hl => ?_)
    refine lv_iload_n hx hb dX6_measureOf_26 rfl (lv_at hl 0 rfl) ?_
    refine lv_aload_n hx hb dX6_measureOf_27 rfl (lv_at hl 1 rfl) ?_
    refine va_get (D := g.1) (ci := 6) (v := .ref (aM 1)) (C := RX6) (T := TX6) (N := 19) hx hb hts i_X6 hown hK hP 0 rfl rfl 0 (by decide) (hts (.fieldLink RX6 7 "WordFlasherModel" "d" "[I") (List.mem_of_getElem? (i := 2) rfl)) (fun _ h9 => h9) rfl dX6_measureOf_28 ?_
    refine lv_sipush (v := 334) hx hb dX6_measureOf_31 (by decide) ?_
    obtain ⟨h6, v4, e5, hf⟩ := rdA_el hf
    refine va_iald hx hb hK hP 1 0 rfl rfl h6 dX6_measureOf_34 ?_
    refine lv_as e5 ?_
    refine lv_icmp_ge (tgt := 49) hx hb dX6_measureOf_35 (by decide) (fun c7 => ?_) (fun c7 => ?_)
    · have hf := ite_t hf c7
      refine lv_iload_n hx hb dX6_measureOf_49 rfl (lv_at hl 0 rfl) ?_
      have er0 := Option.some.inj hf
      rw [← hQ0]; exact W.iret (v := k0) hx hb hr (fun t ht hW => ⟨k0, rfl, ⟨er0, trivial⟩, ht⟩) (fun q h => by cases h) dX6_measureOf_50
    · have hf := ite_f hf c7
      refine lv_aload_n hx hb dX6_measureOf_38 rfl (lv_at hl 1 rfl) ?_
      refine va_get (D := g.1) (ci := 6) (v := .ref (aM 1)) (C := RX6) (T := TX6) (N := 19) hx hb hts i_X6 hown hK hP 0 rfl rfl 0 (by decide) (hts (.fieldLink RX6 7 "WordFlasherModel" "d" "[I") (List.mem_of_getElem? (i := 2) rfl)) (fun _ h9 => h9) rfl dX6_measureOf_39 ?_
      refine lv_sipush (v := 334) hx hb dX6_measureOf_42 (by decide) ?_
      obtain ⟨h10, v8, e9, hf⟩ := rdA_el hf
      refine va_iald hx hb hK hP 1 0 rfl rfl h10 dX6_measureOf_45 ?_
      refine lv_as e9 ?_
      refine lv_goto (tgt := 50) hx hb dX6_measureOf_46 (by decide) ?_
      have er0 := Option.some.inj hf
      rw [← hQ0]; exact W.iret (v := v8) hx hb hr (fun t ht hW => ⟨v8, rfl, ⟨er0, trivial⟩, ht⟩) (fun q h => by cases h) dX6_measureOf_50
  refine lv_icmp_le (tgt := 24) hx hb dX6_measureOf_10 (by decide) (fun c11 => ?_) (fun c11 => ?_)
  · have hf := ite_t hf c11
    refine lv_iload_n hx hb dX6_measureOf_24 rfl (lv_at hl 0 rfl) ?_
    exact J_25 v1 ls (lv_sub hl [1] rfl) hf
  · have hf := ite_f hf c11
    refine lv_iload_n hx hb dX6_measureOf_13 rfl (lv_at hl 0 rfl) ?_
    refine lv_iload_n hx hb dX6_measureOf_14 rfl (lv_at hl 0 rfl) ?_
    refine lv_bipush (v := 9) hx hb dX6_measureOf_15 (by decide) ?_
    refine lv_isub hx hb dX6_measureOf_17 ?_
    refine lv_iconst (v := 2) hx hb dX6_measureOf_18 (by decide) ?_
    obtain ⟨z14, v12, e13, hf⟩ := dvA_el hf
    refine lv_idiv hx hb dX6_measureOf_19 z14 ?_
    refine lv_as e13 ?_
    refine lv_isub hx hb dX6_measureOf_20 ?_
    refine lv_goto (tgt := 25) hx hb dX6_measureOf_21 (by decide) ?_
    exact J_25 (v1 - v12) ls (lv_sub hl [1] rfl) hf
abbrev rmX6_timeBy : Room := { frames := 1, cells := 0, slots := 0, locals := 23 }
set_option maxHeartbeats 8000000 in
set_option maxRecDepth 100000 in
theorem c_X6_timeBy (l : Launch) (g : GG) (aM : Nat → Nat) (XM : DM) (p1 p2 : Int32) (r : Int32) (hf : fX6_timeBy XM p1 p2 = some r) : Met l yX6_timeBy wsX6_timeBy rmX6_timeBy (va_Pc [.ref (aM 0), .int p1, .int p2] (fun U => va_P g.1 vwCl (pM g aM XM) U.heap ∧ KW g U)) (vp_Si (fun r' => r' = r ∧ True)) 0 0 (fun _ => False) := by
  refine Met.ofW (cc := cX6_timeBy) (maxL := 4) (ret := (some .int)) (by decide) rfl ?_
  intro p e s m args below meth c s₁ B hml hv
  obtain ⟨hargs, hP, hKW⟩ := hv
  have hK := hKW.1
  have hx := B.exec
  have hb := B.bytes
  have hr := B.returns
  have hts := atoms_spec (ws := wsX6_timeBy) B.pre
  have hown : s.vm.findClass RX6 = some m.cls := findClass_of_methodNamed B.named
  have hlocks := B.notSynchronized
  have i_X6 : ∀ w ∈ wsX60, w ∈ wsX6_timeBy := fun w h => List.mem_cons_of_mem _ (List.mem_append_right _ h)
  have hent : entryFrame m args 4 = F0 m 0 ((lg_sl ([.ref (aM 0), .int p1, .int p2]) ++ List.replicate (4 - (lg_sl ([.ref (aM 0), .int p1, .int p2])).length) Slot.unset).toArray) [] := by rw [hargs]; exact lg_entry_eq _ _ _
  rw [hent]
  have hl := lv_entry ([.ref (aM 0), .int p1, .int p2]) (n := 4) (Nat.le_of_ble_eq_true rfl)
  generalize (lg_sl ([.ref (aM 0), .int p1, .int p2]) ++ List.replicate (4 - (lg_sl ([.ref (aM 0), .int p1, .int p2])).length) Slot.unset).toArray = ls at hl ⊢
  have hl : lv_has ls 4 [(0, .ref (aM 0)), (1, .int p1), (2, .int p2)] := hl
  generalize hQ0 : MQ below _ _ _ _ _ _ = Q0
  unfold fX6_timeBy at hf
  refine lv_aload_n hx hb dX6_timeBy_0 rfl (lv_at hl 0 rfl) ?_
  refine va_get (D := g.1) (ci := 6) (v := .ref (aM 8)) (C := RX6) (T := TX6) (N := 19) hx hb hts i_X6 hown hK hP 0 rfl rfl 15 (by decide) (hts (.fieldLink RX6 32 "WordFlasherModel" "kind" "[I") (List.mem_of_getElem? (i := 1) rfl)) (fun _ h9 => h9) rfl dX6_timeBy_1 ?_
  refine lv_iload_n hx hb dX6_timeBy_4 rfl (lv_at hl 1 rfl) ?_
  obtain ⟨h3, v1, e2, hf⟩ := rdA_el hf
  refine va_iald hx hb hK hP 8 0 rfl rfl h3 dX6_timeBy_5 ?_
  refine lv_as e2 ?_
  refine lv_iconst (v := 3) hx hb dX6_timeBy_6 (by decide) ?_
  refine lv_icmp_ne (tgt := 12) hx hb dX6_timeBy_7 (by decide) (fun c4 => ?_) (fun c4 => ?_)
  · have hf := ite_f hf c4
    refine lv_aload_n hx hb dX6_timeBy_12 rfl (lv_at hl 0 rfl) ?_
    refine va_get (D := g.1) (ci := 6) (v := .ref (aM 8)) (C := RX6) (T := TX6) (N := 19) hx hb hts i_X6 hown hK hP 0 rfl rfl 15 (by decide) (hts (.fieldLink RX6 32 "WordFlasherModel" "kind" "[I") (List.mem_of_getElem? (i := 1) rfl)) (fun _ h9 => h9) rfl dX6_timeBy_13 ?_
    refine lv_iload_n hx hb dX6_timeBy_16 rfl (lv_at hl 1 rfl) ?_
    obtain ⟨h7, v5, e6, hf⟩ := rdA_el hf
    refine va_iald hx hb hK hP 8 0 rfl rfl h7 dX6_timeBy_17 ?_
    refine lv_as e6 ?_
    obtain ⟨j41, ej41, hf⟩ := sl_el hf
    have J_41 : ∀ (x1 x2 k0 : Int32) (ls : Array Slot), lv_has ls 4 [(0, .ref (aM 0)), (1, .int x1), (2, .int x2)] → j41 x1 x2 k0 = some r → W p l e (headSpec wsX6_timeBy rmX6_timeBy).room s m args below meth c s.heap [] 0 0 Q0 (F0 m 41 ls [.int k0]) := by
      intro x1 x2 k0 ls hl hf
      rw [ej41] at hf
      refine lv_istore_n (lv' := [(3, .int k0), (0, .ref (aM 0)), (1, .int x1), (2, .int x2)]) hx hb dX6_timeBy_41 rfl hl (by decide) rfl (fun ls hl => ?_)
      refine lv_aload_n hx hb dX6_timeBy_42 rfl (lv_at hl 1 rfl) ?_
      refine va_get (D := g.1) (ci := 6) (v := .ref (aM 9)) (C := RX6) (T := TX6) (N := 19) hx hb hts i_X6 hown hK hP 0 rfl rfl 16 (by decide) (hts (.fieldLink RX6 35 "WordFlasherModel" "figures" "[Z") (List.mem_of_getElem? (i := 3) rfl)) (fun _ h9 => h9) rfl dX6_timeBy_43 ?_
      refine lv_iload_n hx hb dX6_timeBy_46 rfl (lv_at hl 2 rfl) ?_
      obtain ⟨h10, v8, e9, hf⟩ := rdA_el hf
      refine va_zald hx hb hK hP 9 2 rfl rfl h10 dX6_timeBy_47 ?_
      refine lv_as e9 ?_
      obtain ⟨j68, ej68, hf⟩ := sl_el hf
      have J_68 : ∀ (x1 x2 k0 : Int32) (ls : Array Slot), lv_has ls 4 [(0, .ref (aM 0)), (1, .int x1), (2, .int x2)] → j68 x1 x2 k0 = some r → W p l e (headSpec wsX6_timeBy rmX6_timeBy).room s m args below meth c s.heap [] 0 0 Q0 (F0 m 68 ls [.int k0]) := by
        intro x1 x2 k0 ls hl hf
        rw [ej68] at hf
        refine lv_istore_n (lv' := [(3, .int k0), (0, .ref (aM 0)), (1, .int x1), (2, .int x2)]) hx hb dX6_timeBy_68 rfl hl (by decide) rfl (fun ls hl => ?_)
        refine lv_aload_n hx hb dX6_timeBy_69 rfl (lv_at hl 1 rfl) ?_
        refine lv_iload_n hx hb dX6_timeBy_70 rfl (lv_at hl 2 rfl) ?_
        obtain ⟨r11, h12, hf⟩ := bnd_el hf
        refine rdV (As := [.int x1]) (rest := []) ⟨hx, hb, hml, hown, hts⟩ (c_X6_measureOf l g aM _ _ _ h12) (cwV 1 hts gX6_timeBy_X6_measureOf rfl rfl rfl (by decide +kernel) ⟨Nat.le_of_ble_eq_true rfl, Nat.le_of_ble_eq_true rfl⟩) hKW hP [0, 1, 2, 3, 4, 5, 6, 7, 8, 9, 10, 11] rfl (va_recv hK hP (ci := 6) (q0 := 0) rfl rfl) rfl hl.1 rfl (lv_room (Nat.le_of_ble_eq_true rfl)) dX6_timeBy_71 ⟨Nat.zero_le _, Nat.zero_le _⟩ (fun r13 q14 => ?_)
        obtain ⟨q14, nb15⟩ := q14
        refine lv_as q14.symm ?_
        refine lv_aload_n hx hb dX6_timeBy_74 rfl (lv_at hl 1 rfl) ?_
        refine va_get (D := g.1) (ci := 6) (v := .ref (aM 1)) (C := RX6) (T := TX6) (N := 19) hx hb hts i_X6 hown hK hP 0 rfl rfl 0 (by decide) (hts (.fieldLink RX6 7 "WordFlasherModel" "d" "[I") (List.mem_of_getElem? (i := 2) rfl)) (fun _ h9 => h9) rfl dX6_timeBy_75 ?_
        refine lv_sipush (v := 333) hx hb dX6_timeBy_78 (by decide) ?_
        obtain ⟨h18, v16, e17, hf⟩ := rdA_el hf
        refine va_iald hx hb hK hP 1 0 rfl rfl h18 dX6_timeBy_81 ?_
        refine lv_as e17 ?_
        refine lv_imul hx hb dX6_timeBy_82 ?_
        refine lv_iload_n hx hb dX6_timeBy_83 rfl (lv_at hl 0 rfl) ?_
        refine lv_imul hx hb dX6_timeBy_84 ?_
        refine lv_iload_n hx hb dX6_timeBy_85 rfl (lv_at hl 3 rfl) ?_
        refine lv_iadd hx hb dX6_timeBy_86 ?_
        refine lv_iconst (v := 1) hx hb dX6_timeBy_87 (by decide) ?_
        refine lv_isub hx hb dX6_timeBy_88 ?_
        refine lv_iload_n hx hb dX6_timeBy_89 rfl (lv_at hl 3 rfl) ?_
        obtain ⟨z21, v19, e20, hf⟩ := dvA_el hf
        refine lv_idiv hx hb dX6_timeBy_90 z21 ?_
        refine lv_as e20 ?_
        have er0 := Option.some.inj hf
        rw [← hQ0]; exact W.iret (v := v19) hx hb hr (fun t ht hW => ⟨v19, rfl, ⟨er0, trivial⟩, ht⟩) (fun q h => by cases h) dX6_timeBy_91
      refine lv_if_eq (tgt := 67) hx hb dX6_timeBy_48 (by decide) (fun c22 => ?_) (fun c22 => ?_)
      · have hf := ite_t hf c22
        refine lv_iload_n hx hb dX6_timeBy_67 rfl (lv_at hl 0 rfl) ?_
        exact J_68 x1 x2 k0 ls (lv_sub hl [1, 2, 3] rfl) hf
      · have hf := ite_f hf c22
        refine lv_iload_n hx hb dX6_timeBy_51 rfl (lv_at hl 0 rfl) ?_
        refine lv_aload_n hx hb dX6_timeBy_52 rfl (lv_at hl 1 rfl) ?_
        refine va_get (D := g.1) (ci := 6) (v := .ref (aM 1)) (C := RX6) (T := TX6) (N := 19) hx hb hts i_X6 hown hK hP 0 rfl rfl 0 (by decide) (hts (.fieldLink RX6 7 "WordFlasherModel" "d" "[I") (List.mem_of_getElem? (i := 2) rfl)) (fun _ h9 => h9) rfl dX6_timeBy_53 ?_
        refine lv_sipush (v := 337) hx hb dX6_timeBy_56 (by decide) ?_
        obtain ⟨h25, v23, e24, hf⟩ := rdA_el hf
        refine va_iald hx hb hK hP 1 0 rfl rfl h25 dX6_timeBy_59 ?_
        refine lv_as e24 ?_
        refine lv_imul hx hb dX6_timeBy_60 ?_
        refine lv_bipush (v := 100) hx hb dX6_timeBy_61 (by decide) ?_
        obtain ⟨z28, v26, e27, hf⟩ := dvA_el hf
        refine lv_idiv hx hb dX6_timeBy_63 z28 ?_
        refine lv_as e27 ?_
        refine lv_goto (tgt := 68) hx hb dX6_timeBy_64 (by decide) ?_
        exact J_68 x1 x2 v26 ls (lv_sub hl [1, 2, 3] rfl) hf
    refine lv_if_ne (tgt := 26) hx hb dX6_timeBy_18 (by decide) (fun c29 => ?_) (fun c29 => ?_)
    · have hf := ite_f hf c29
      refine lv_aload_n hx hb dX6_timeBy_26 rfl (lv_at hl 0 rfl) ?_
      refine va_get (D := g.1) (ci := 6) (v := .ref (aM 1)) (C := RX6) (T := TX6) (N := 19) hx hb hts i_X6 hown hK hP 0 rfl rfl 0 (by decide) (hts (.fieldLink RX6 7 "WordFlasherModel" "d" "[I") (List.mem_of_getElem? (i := 2) rfl)) (fun _ h9 => h9) rfl dX6_timeBy_27 ?_
      refine lv_sipush (v := 334) hx hb dX6_timeBy_30 (by decide) ?_
      refine lv_aload_n hx hb dX6_timeBy_33 rfl (lv_at hl 0 rfl) ?_
      refine va_get (D := g.1) (ci := 6) (v := .ref (aM 8)) (C := RX6) (T := TX6) (N := 19) hx hb hts i_X6 hown hK hP 0 rfl rfl 15 (by decide) (hts (.fieldLink RX6 32 "WordFlasherModel" "kind" "[I") (List.mem_of_getElem? (i := 1) rfl)) (fun _ h9 => h9) rfl dX6_timeBy_34 ?_
      refine lv_iload_n hx hb dX6_timeBy_37 rfl (lv_at hl 1 rfl) ?_
      obtain ⟨h32, v30, e31, hf⟩ := rdA_el hf
      refine va_iald hx hb hK hP 8 0 rfl rfl h32 dX6_timeBy_38 ?_
      refine lv_as e31 ?_
      refine lv_iadd hx hb dX6_timeBy_39 ?_
      obtain ⟨h35, v33, e34, hf⟩ := rdA_el hf
      refine va_iald hx hb hK hP 1 0 rfl rfl h35 dX6_timeBy_40 ?_
      refine lv_as e34 ?_
      exact J_41 p1 p2 v33 ls (lv_sub hl [0, 1, 2] rfl) hf
    · have hf := ite_t hf c29
      refine lv_bipush (v := 100) hx hb dX6_timeBy_21 (by decide) ?_
      refine lv_goto (tgt := 41) hx hb dX6_timeBy_23 (by decide) ?_
      exact J_41 p1 p2 100 ls (lv_sub hl [0, 1, 2] rfl) hf
  · have hf := ite_t hf c4
    refine lv_iconst (v := 0) hx hb dX6_timeBy_10 (by decide) ?_
    have er0 := Option.some.inj hf
    rw [← hQ0]; exact W.iret (v := 0) hx hb hr (fun t ht hW => ⟨0, rfl, ⟨er0, trivial⟩, ht⟩) (fun q h => by cases h) dX6_timeBy_11
abbrev rmX6_timeOf : Room := { frames := 2, cells := 0, slots := 0, locals := 46 }
set_option maxHeartbeats 8000000 in
set_option maxRecDepth 100000 in
theorem c_X6_timeOf (l : Launch) (g : GG) (aM : Nat → Nat) (XM : DM) (p1 : Int32) (r : Int32) (hf : fX6_timeOf XM p1 = some r) : Met l yX6_timeOf wsX6_timeOf rmX6_timeOf (va_Pc [.ref (aM 0), .int p1] (fun U => va_P g.1 vwCl (pM g aM XM) U.heap ∧ KW g U)) (vp_Si (fun r' => r' = r ∧ True)) 0 0 (fun _ => False) := by
  refine Met.ofW (cc := cX6_timeOf) (maxL := 2) (ret := (some .int)) (by decide) rfl ?_
  intro p e s m args below meth c s₁ B hml hv
  obtain ⟨hargs, hP, hKW⟩ := hv
  have hK := hKW.1
  have hx := B.exec
  have hb := B.bytes
  have hr := B.returns
  have hts := atoms_spec (ws := wsX6_timeOf) B.pre
  have hown : s.vm.findClass RX6 = some m.cls := findClass_of_methodNamed B.named
  have hlocks := B.notSynchronized
  have i_X6 : ∀ w ∈ wsX60, w ∈ wsX6_timeOf := fun w h => List.mem_cons_of_mem _ (List.mem_append_right _ h)
  have hent : entryFrame m args 2 = F0 m 0 ((lg_sl ([.ref (aM 0), .int p1]) ++ List.replicate (2 - (lg_sl ([.ref (aM 0), .int p1])).length) Slot.unset).toArray) [] := by rw [hargs]; exact lg_entry_eq _ _ _
  rw [hent]
  have hl := lv_entry ([.ref (aM 0), .int p1]) (n := 2) (Nat.le_of_ble_eq_true rfl)
  generalize (lg_sl ([.ref (aM 0), .int p1]) ++ List.replicate (2 - (lg_sl ([.ref (aM 0), .int p1])).length) Slot.unset).toArray = ls at hl ⊢
  have hl : lv_has ls 2 [(0, .ref (aM 0)), (1, .int p1)] := hl
  generalize hQ0 : MQ below _ _ _ _ _ _ = Q0
  unfold fX6_timeOf at hf
  refine lv_aload_n hx hb dX6_timeOf_0 rfl (lv_at hl 0 rfl) ?_
  refine lv_iload_n hx hb dX6_timeOf_1 rfl (lv_at hl 1 rfl) ?_
  refine lv_aload_n hx hb dX6_timeOf_2 rfl (lv_at hl 0 rfl) ?_
  refine va_get (D := g.1) (ci := 6) (v := .ref (aM 1)) (C := RX6) (T := TX6) (N := 19) hx hb hts i_X6 hown hK hP 0 rfl rfl 0 (by decide) (hts (.fieldLink RX6 7 "WordFlasherModel" "d" "[I") (List.mem_of_getElem? (i := 1) rfl)) (fun _ h9 => h9) rfl dX6_timeOf_3 ?_
  refine lv_sipush (v := 330) hx hb dX6_timeOf_6 (by decide) ?_
  refine lv_aload_n hx hb dX6_timeOf_9 rfl (lv_at hl 0 rfl) ?_
  refine lv_iload_n hx hb dX6_timeOf_10 rfl (lv_at hl 1 rfl) ?_
  obtain ⟨r1, h2, hf⟩ := bnd_el hf
  refine rdV (As := [.int p1]) (rest := [.int 330, .ref (aM 1), .int p1, .ref (aM 0)]) ⟨hx, hb, hml, hown, hts⟩ (c_X6_classOf l g aM _ _ _ h2) (cwV 1 hts gX6_timeOf_X6_classOf rfl rfl rfl (by decide +kernel) ⟨Nat.le_of_ble_eq_true rfl, Nat.le_of_ble_eq_true rfl⟩) hKW hP [0, 1, 2, 3, 4, 5, 6, 7, 8, 9, 10, 11] rfl (va_recv hK hP (ci := 6) (q0 := 0) rfl rfl) rfl hl.1 rfl (lv_room (Nat.le_of_ble_eq_true rfl)) dX6_timeOf_11 ⟨Nat.zero_le _, Nat.zero_le _⟩ (fun r3 q4 => ?_)
  obtain ⟨q4, nb5⟩ := q4
  refine lv_as q4.symm ?_
  refine lv_iadd hx hb dX6_timeOf_14 ?_
  obtain ⟨h8, v6, e7, hf⟩ := rdA_el hf
  refine va_iald hx hb hK hP 1 0 rfl rfl h8 dX6_timeOf_15 ?_
  refine lv_as e7 ?_
  obtain ⟨r9, h10, hf⟩ := bnd_el hf
  refine rdV (As := [.int p1, .int v6]) (rest := []) ⟨hx, hb, hml, hown, hts⟩ (c_X6_timeBy l g aM _ _ _ _ h10) (cwV 2 hts gX6_timeOf_X6_timeBy rfl rfl rfl (by decide +kernel) ⟨Nat.le_of_ble_eq_true rfl, Nat.le_of_ble_eq_true rfl⟩) hKW hP [0, 1, 2, 3, 4, 5, 6, 7, 8, 9, 10, 11] rfl (va_recv hK hP (ci := 6) (q0 := 0) rfl rfl) rfl hl.1 rfl (lv_room (Nat.le_of_ble_eq_true rfl)) dX6_timeOf_16 ⟨Nat.zero_le _, Nat.zero_le _⟩ (fun r11 q12 => ?_)
  obtain ⟨q12, nb13⟩ := q12
  refine lv_as q12.symm ?_
  have er0 := Option.some.inj hf
  rw [← hQ0]; exact W.iret (v := r9) hx hb hr (fun t ht hW => ⟨r9, rfl, ⟨er0, trivial⟩, ht⟩) (fun q h => by cases h) dX6_timeOf_19
abbrev rmX6_isShown : Room := { frames := 0, cells := 0, slots := 0, locals := 0 }
set_option maxHeartbeats 8000000 in
set_option maxRecDepth 100000 in
theorem c_X6_isShown (l : Launch) (g : GG) (aM : Nat → Nat) (XM : DM) (p1 : Int32) (r : Int32) (hf : fX6_isShown XM p1 = some r) : Met l yX6_isShown wsX6_isShown rmX6_isShown (va_Pc [.ref (aM 0), .int p1] (fun U => va_P g.1 vwCl (pM g aM XM) U.heap ∧ KW g U)) (vp_Si (fun r' => r' = r ∧ narrow .boolean (.int r') = .int r')) 0 0 (fun _ => False) := by
  refine Met.ofW (cc := cX6_isShown) (maxL := 2) (ret := (some .boolean)) (by decide) rfl ?_
  intro p e s m args below meth c s₁ B hml hv
  obtain ⟨hargs, hP, hKW⟩ := hv
  have hK := hKW.1
  have hx := B.exec
  have hb := B.bytes
  have hr := B.returns
  have hts := atoms_spec (ws := wsX6_isShown) B.pre
  have hown : s.vm.findClass RX6 = some m.cls := findClass_of_methodNamed B.named
  have hlocks := B.notSynchronized
  have i_X6 : ∀ w ∈ wsX60, w ∈ wsX6_isShown := fun w h => List.mem_cons_of_mem _ (List.mem_append_right _ h)
  have hent : entryFrame m args 2 = F0 m 0 ((lg_sl ([.ref (aM 0), .int p1]) ++ List.replicate (2 - (lg_sl ([.ref (aM 0), .int p1])).length) Slot.unset).toArray) [] := by rw [hargs]; exact lg_entry_eq _ _ _
  rw [hent]
  have hl := lv_entry ([.ref (aM 0), .int p1]) (n := 2) (Nat.le_of_ble_eq_true rfl)
  generalize (lg_sl ([.ref (aM 0), .int p1]) ++ List.replicate (2 - (lg_sl ([.ref (aM 0), .int p1])).length) Slot.unset).toArray = ls at hl ⊢
  have hl : lv_has ls 2 [(0, .ref (aM 0)), (1, .int p1)] := hl
  generalize hQ0 : MQ below _ _ _ _ _ _ = Q0
  unfold fX6_isShown at hf
  refine lv_aload_n hx hb dX6_isShown_0 rfl (lv_at hl 0 rfl) ?_
  refine va_get (D := g.1) (ci := 6) (v := .ref (aM 8)) (C := RX6) (T := TX6) (N := 19) hx hb hts i_X6 hown hK hP 0 rfl rfl 15 (by decide) (hts (.fieldLink RX6 32 "WordFlasherModel" "kind" "[I") (List.mem_of_getElem? (i := 1) rfl)) (fun _ h9 => h9) rfl dX6_isShown_1 ?_
  refine lv_iload_n hx hb dX6_isShown_4 rfl (lv_at hl 1 rfl) ?_
  obtain ⟨h3, v1, e2, hf⟩ := rdA_el hf
  refine va_iald hx hb hK hP 8 0 rfl rfl h3 dX6_isShown_5 ?_
  refine lv_as e2 ?_
  refine lv_iconst (v := 3) hx hb dX6_isShown_6 (by decide) ?_
  refine lv_icmp_eq (tgt := 14) hx hb dX6_isShown_7 (by decide) (fun c4 => ?_) (fun c4 => ?_)
  · have hf := ite_t hf c4
    refine lv_iconst (v := 0) hx hb dX6_isShown_14 (by decide) ?_
    have er0 := Option.some.inj hf
    rw [← hQ0]; exact W.zret (v := 0) hx hb hr rfl (fun t ht hW => ⟨0, rfl, ⟨er0, rfl⟩, ht⟩) (fun q h => by cases h) dX6_isShown_15
  · have hf := ite_f hf c4
    refine lv_iconst (v := 1) hx hb dX6_isShown_10 (by decide) ?_
    refine lv_goto (tgt := 15) hx hb dX6_isShown_11 (by decide) ?_
    have er0 := Option.some.inj hf
    rw [← hQ0]; exact W.zret (v := 1) hx hb hr rfl (fun t ht hW => ⟨1, rfl, ⟨er0, rfl⟩, ht⟩) (fun q h => by cases h) dX6_isShown_15
abbrev rmX6_firstOf : Room := { frames := 1, cells := 0, slots := 0, locals := 21 }
set_option maxHeartbeats 8000000 in
set_option maxRecDepth 100000 in
theorem c_X6_firstOf (l : Launch) (g : GG) (aM : Nat → Nat) (n : Nat) (XM : DM) (p1 : Int32) (r : Int32) (hf : fX6_firstOf n XM p1 = some r) : Met l yX6_firstOf wsX6_firstOf rmX6_firstOf (va_Pc [.ref (aM 0), .int p1] (fun U => va_P g.1 vwCl (pM g aM XM) U.heap ∧ KW g U)) (vp_Si (fun r' => r' = r ∧ True)) 0 0 (fun _ => False) := by
  refine Met.ofW (cc := cX6_firstOf) (maxL := 3) (ret := (some .int)) (by decide) rfl ?_
  intro p e s m args below meth c s₁ B hml hv
  obtain ⟨hargs, hP, hKW⟩ := hv
  have hK := hKW.1
  have hx := B.exec
  have hb := B.bytes
  have hr := B.returns
  have hts := atoms_spec (ws := wsX6_firstOf) B.pre
  have hown : s.vm.findClass RX6 = some m.cls := findClass_of_methodNamed B.named
  have hlocks := B.notSynchronized
  have i_X6 : ∀ w ∈ wsX60, w ∈ wsX6_firstOf := fun w h => List.mem_cons_of_mem _ (List.mem_append_right _ h)
  have hent : entryFrame m args 3 = F0 m 0 ((lg_sl ([.ref (aM 0), .int p1]) ++ List.replicate (3 - (lg_sl ([.ref (aM 0), .int p1])).length) Slot.unset).toArray) [] := by rw [hargs]; exact lg_entry_eq _ _ _
  rw [hent]
  have hl := lv_entry ([.ref (aM 0), .int p1]) (n := 3) (Nat.le_of_ble_eq_true rfl)
  generalize (lg_sl ([.ref (aM 0), .int p1]) ++ List.replicate (3 - (lg_sl ([.ref (aM 0), .int p1])).length) Slot.unset).toArray = ls at hl ⊢
  have hl : lv_has ls 3 [(0, .ref (aM 0)), (1, .int p1)] := hl
  generalize hQ0 : MQ below _ _ _ _ _ _ = Q0
  unfold fX6_firstOf at hf
  refine lv_iconst (v := 0) hx hb dX6_firstOf_0 (by decide) ?_
  refine lv_istore_n (lv' := [(2, .int 0), (0, .ref (aM 0)), (1, .int p1)]) hx hb dX6_firstOf_1 rfl hl (by decide) rfl (fun ls hl => ?_)
  have L_2 : ∀ fu : Nat, ∀ (x1 x2 : Int32) (ls : Array Slot), lv_has ls 3 [(0, .ref (aM 0)), (1, .int x1), (2, .int x2)] → fX6_firstOf_L2 n XM fu x1 x2 = some r → W p l e (headSpec wsX6_firstOf rmX6_firstOf).room s m args below meth c s.heap [] 0 0 Q0 (F0 m 2 ls []) := by
    intro fu
    induction fu with
    | zero => intros; rename_i hf; rw [fX6_firstOf_L2] at hf; cases hf
    | succ fu ih =>
      intro x1 x2 ls hl hf
      rw [fX6_firstOf_L2] at hf
      refine lv_iload_n hx hb dX6_firstOf_2 rfl (lv_at hl 2 rfl) ?_
      refine lv_aload_n hx hb dX6_firstOf_3 rfl (lv_at hl 0 rfl) ?_
      refine va_get (D := g.1) (ci := 6) (v := .int (XM 9 0)) (C := RX6) (T := TX6) (N := 19) hx hb hts i_X6 hown hK hP 0 rfl rfl 9 (by decide) (hts (.fieldLink RX6 45 "WordFlasherModel" "words" "I") (List.mem_of_getElem? (i := 1) rfl)) (fun _ h9 => h9) rfl dX6_firstOf_4 ?_
      refine lv_icmp_ge (tgt := 36) hx hb dX6_firstOf_7 (by decide) (fun c1 => ?_) (fun c1 => ?_)
      · have hf := ite_t hf c1
        refine lv_iconst (v := (-1)) hx hb dX6_firstOf_36 (by decide) ?_
        have er0 := Option.some.inj hf
        rw [← hQ0]; exact W.iret (v := (-1)) hx hb hr (fun t ht hW => ⟨(-1), rfl, ⟨er0, trivial⟩, ht⟩) (fun q h => by cases h) dX6_firstOf_37
      · have hf := ite_f hf c1
        refine lv_aload_n hx hb dX6_firstOf_10 rfl (lv_at hl 0 rfl) ?_
        refine va_get (D := g.1) (ci := 6) (v := .ref (aM 10)) (C := RX6) (T := TX6) (N := 19) hx hb hts i_X6 hown hK hP 0 rfl rfl 17 (by decide) (hts (.fieldLink RX6 39 "WordFlasherModel" "sentenceOf" "[I") (List.mem_of_getElem? (i := 2) rfl)) (fun _ h9 => h9) rfl dX6_firstOf_11 ?_
        refine lv_iload_n hx hb dX6_firstOf_14 rfl (lv_at hl 2 rfl) ?_
        obtain ⟨h4, v2, e3, hf⟩ := rdA_el hf
        refine va_iald hx hb hK hP 10 0 rfl rfl h4 dX6_firstOf_15 ?_
        refine lv_as e3 ?_
        refine lv_iload_n hx hb dX6_firstOf_16 rfl (lv_at hl 1 rfl) ?_
        obtain ⟨j30, ej30, hf⟩ := sl_el hf
        have J_30 : ∀ (x1 x2 : Int32) (ls : Array Slot), lv_has ls 3 [(0, .ref (aM 0)), (1, .int x1), (2, .int x2)] → j30 x1 x2 = some r → W p l e (headSpec wsX6_firstOf rmX6_firstOf).room s m args below meth c s.heap [] 0 0 Q0 (F0 m 30 ls []) := by
          intro x1 x2 ls hl hf
          rw [ej30] at hf
          obtain ⟨v5, e6, hf⟩ := sl_el hf
          refine lv_iinc (v := v5) (lv' := [(2, .int v5), (0, .ref (aM 0)), (1, .int x1)]) hx hb dX6_firstOf_30 hl (k := 2) rfl (by rw [e6]; rfl) (by decide) rfl (fun ls hl => ?_)
          refine lv_goto (tgt := 2) hx hb dX6_firstOf_33 (by decide) ?_
          exact ih x1 v5 ls (lv_sub hl [1, 2, 0] rfl) hf
        refine lv_icmp_ne (tgt := 30) hx hb dX6_firstOf_17 (by decide) (fun c7 => ?_) (fun c7 => ?_)
        · have hf := ite_f hf c7
          exact J_30 x1 x2 ls (lv_sub hl [0, 1, 2] rfl) hf
        · have hf := ite_t hf c7
          refine lv_aload_n hx hb dX6_firstOf_20 rfl (lv_at hl 0 rfl) ?_
          refine lv_iload_n hx hb dX6_firstOf_21 rfl (lv_at hl 2 rfl) ?_
          obtain ⟨r8, h9, hf⟩ := bnd_el hf
          refine rdV (As := [.int x2]) (rest := []) ⟨hx, hb, hml, hown, hts⟩ (c_X6_isShown l g aM _ _ _ h9) (cwV 1 hts gX6_firstOf_X6_isShown rfl rfl rfl (by decide +kernel) ⟨Nat.le_of_ble_eq_true rfl, Nat.le_of_ble_eq_true rfl⟩) hKW hP [0, 1, 2, 3, 4, 5, 6, 7, 8, 9, 10, 11] rfl (va_recv hK hP (ci := 6) (q0 := 0) rfl rfl) rfl hl.1 rfl (lv_room (Nat.le_of_ble_eq_true rfl)) dX6_firstOf_22 ⟨Nat.zero_le _, Nat.zero_le _⟩ (fun r10 q11 => ?_)
          obtain ⟨q11, nb12⟩ := q11
          refine lv_as q11.symm ?_
          rw [q11] at nb12
          refine lv_if_eq (tgt := 30) hx hb dX6_firstOf_25 (by decide) (fun c13 => ?_) (fun c13 => ?_)
          · have hf := ite_t hf c13
            exact J_30 x1 x2 ls (lv_sub hl [0, 1, 2] rfl) hf
          · have hf := ite_f hf c13
            refine lv_iload_n hx hb dX6_firstOf_28 rfl (lv_at hl 2 rfl) ?_
            have er0 := Option.some.inj hf
            rw [← hQ0]; exact W.iret (v := x2) hx hb hr (fun t ht hW => ⟨x2, rfl, ⟨er0, trivial⟩, ht⟩) (fun q h => by cases h) dX6_firstOf_29
  exact L_2 n p1 0 ls (lv_sub hl [1, 2, 0] rfl) hf
abbrev rmX6_firstShown : Room := { frames := 1, cells := 0, slots := 0, locals := 21 }
set_option maxHeartbeats 8000000 in
set_option maxRecDepth 100000 in
theorem c_X6_firstShown (l : Launch) (g : GG) (aM : Nat → Nat) (n : Nat) (XM : DM) (r : Int32) (hf : fX6_firstShown n XM = some r) : Met l yX6_firstShown wsX6_firstShown rmX6_firstShown (va_Pc [.ref (aM 0)] (fun U => va_P g.1 vwCl (pM g aM XM) U.heap ∧ KW g U)) (vp_Si (fun r' => r' = r ∧ True)) 0 0 (fun _ => False) := by
  refine Met.ofW (cc := cX6_firstShown) (maxL := 2) (ret := (some .int)) (by decide) rfl ?_
  intro p e s m args below meth c s₁ B hml hv
  obtain ⟨hargs, hP, hKW⟩ := hv
  have hK := hKW.1
  have hx := B.exec
  have hb := B.bytes
  have hr := B.returns
  have hts := atoms_spec (ws := wsX6_firstShown) B.pre
  have hown : s.vm.findClass RX6 = some m.cls := findClass_of_methodNamed B.named
  have hlocks := B.notSynchronized
  have i_X6 : ∀ w ∈ wsX60, w ∈ wsX6_firstShown := fun w h => List.mem_cons_of_mem _ (List.mem_append_right _ h)
  have hent : entryFrame m args 2 = F0 m 0 ((lg_sl ([.ref (aM 0)]) ++ List.replicate (2 - (lg_sl ([.ref (aM 0)])).length) Slot.unset).toArray) [] := by rw [hargs]; exact lg_entry_eq _ _ _
  rw [hent]
  have hl := lv_entry ([.ref (aM 0)]) (n := 2) (Nat.le_of_ble_eq_true rfl)
  generalize (lg_sl ([.ref (aM 0)]) ++ List.replicate (2 - (lg_sl ([.ref (aM 0)])).length) Slot.unset).toArray = ls at hl ⊢
  have hl : lv_has ls 2 [(0, .ref (aM 0))] := hl
  generalize hQ0 : MQ below _ _ _ _ _ _ = Q0
  unfold fX6_firstShown at hf
  refine lv_iconst (v := 0) hx hb dX6_firstShown_0 (by decide) ?_
  refine lv_istore_n (lv' := [(1, .int 0), (0, .ref (aM 0))]) hx hb dX6_firstShown_1 rfl hl (by decide) rfl (fun ls hl => ?_)
  have L_2 : ∀ fu : Nat, ∀ (x1 : Int32) (ls : Array Slot), lv_has ls 2 [(0, .ref (aM 0)), (1, .int x1)] → fX6_firstShown_L2 n XM fu x1 = some r → W p l e (headSpec wsX6_firstShown rmX6_firstShown).room s m args below meth c s.heap [] 0 0 Q0 (F0 m 2 ls []) := by
    intro fu
    induction fu with
    | zero => intros; rename_i hf; rw [fX6_firstShown_L2] at hf; cases hf
    | succ fu ih =>
      intro x1 ls hl hf
      rw [fX6_firstShown_L2] at hf
      refine lv_iload_n hx hb dX6_firstShown_2 rfl (lv_at hl 1 rfl) ?_
      refine lv_aload_n hx hb dX6_firstShown_3 rfl (lv_at hl 0 rfl) ?_
      refine va_get (D := g.1) (ci := 6) (v := .int (XM 9 0)) (C := RX6) (T := TX6) (N := 19) hx hb hts i_X6 hown hK hP 0 rfl rfl 9 (by decide) (hts (.fieldLink RX6 45 "WordFlasherModel" "words" "I") (List.mem_of_getElem? (i := 1) rfl)) (fun _ h9 => h9) rfl dX6_firstShown_4 ?_
      refine lv_icmp_ge (tgt := 26) hx hb dX6_firstShown_7 (by decide) (fun c1 => ?_) (fun c1 => ?_)
      · have hf := ite_t hf c1
        refine lv_iconst (v := (-1)) hx hb dX6_firstShown_26 (by decide) ?_
        have er0 := Option.some.inj hf
        rw [← hQ0]; exact W.iret (v := (-1)) hx hb hr (fun t ht hW => ⟨(-1), rfl, ⟨er0, trivial⟩, ht⟩) (fun q h => by cases h) dX6_firstShown_27
      · have hf := ite_f hf c1
        refine lv_aload_n hx hb dX6_firstShown_10 rfl (lv_at hl 0 rfl) ?_
        refine lv_iload_n hx hb dX6_firstShown_11 rfl (lv_at hl 1 rfl) ?_
        obtain ⟨r2, h3, hf⟩ := bnd_el hf
        refine rdV (As := [.int x1]) (rest := []) ⟨hx, hb, hml, hown, hts⟩ (c_X6_isShown l g aM _ _ _ h3) (cwV 1 hts gX6_firstShown_X6_isShown rfl rfl rfl (by decide +kernel) ⟨Nat.le_of_ble_eq_true rfl, Nat.le_of_ble_eq_true rfl⟩) hKW hP [0, 1, 2, 3, 4, 5, 6, 7, 8, 9, 10, 11] rfl (va_recv hK hP (ci := 6) (q0 := 0) rfl rfl) rfl hl.1 rfl (lv_room (Nat.le_of_ble_eq_true rfl)) dX6_firstShown_12 ⟨Nat.zero_le _, Nat.zero_le _⟩ (fun r4 q5 => ?_)
        obtain ⟨q5, nb6⟩ := q5
        refine lv_as q5.symm ?_
        rw [q5] at nb6
        refine lv_if_eq (tgt := 20) hx hb dX6_firstShown_15 (by decide) (fun c7 => ?_) (fun c7 => ?_)
        · have hf := ite_t hf c7
          obtain ⟨v8, e9, hf⟩ := sl_el hf
          refine lv_iinc (v := v8) (lv' := [(1, .int v8), (0, .ref (aM 0))]) hx hb dX6_firstShown_20 hl (k := 1) rfl (by rw [e9]; rfl) (by decide) rfl (fun ls hl => ?_)
          refine lv_goto (tgt := 2) hx hb dX6_firstShown_23 (by decide) ?_
          exact ih v8 ls (lv_sub hl [1, 0] rfl) hf
        · have hf := ite_f hf c7
          refine lv_iload_n hx hb dX6_firstShown_18 rfl (lv_at hl 1 rfl) ?_
          have er0 := Option.some.inj hf
          rw [← hQ0]; exact W.iret (v := x1) hx hb hr (fun t ht hW => ⟨x1, rfl, ⟨er0, trivial⟩, ht⟩) (fun q h => by cases h) dX6_firstShown_19
  exact L_2 n 0 ls (lv_sub hl [1, 0] rfl) hf
abbrev rmX6_becomes : Room := { frames := 3, cells := 0, slots := 0, locals := 67 }
set_option maxHeartbeats 8000000 in
set_option maxRecDepth 100000 in
theorem c_X6_becomes (l : Launch) (g : GG) (aM : Nat → Nat) (sz : Nat) (XM : DM) (p1 : Int32) (XMz : DM) (hf : fX6_becomes XM p1 = some XMz) : Met l yX6_becomes wsX6_becomes rmX6_becomes (va_Pc [.ref (aM 0), .int p1] (fun U => U.heap.size = sz ∧ va_P g.1 vwCl (pM g aM XM) U.heap ∧ KW g U ∧ va_D (fun _ => True) (pM g aM XM))) (va_Qv (fun (_ : Unit) => True) (fun (_ : Unit) t => va_P g.1 vwCl (pM g aM XMz) t.heap) (va_A (pM g aM XM) sz)) 0 0 (va_A (pM g aM XM) sz) := by
  refine Met.ofW (cc := cX6_becomes) (maxL := 2) (ret := none) (by decide) rfl ?_
  intro p e s m args below meth c s₁ B hml hv
  obtain ⟨hargs, hsz, hP, hKW, hD0⟩ := hv
  have hK := hKW.1
  have hx := B.exec
  have hb := B.bytes
  have hr := B.returns
  have hts := atoms_spec (ws := wsX6_becomes) B.pre
  have hown : s.vm.findClass RX6 = some m.cls := findClass_of_methodNamed B.named
  have hlocks := B.notSynchronized
  subst hsz
  have hD := hD0.self (sz := s.heap.size)
  generalize hAe : va_A (pM g aM XM) s.heap.size = A at hD ⊢
  have hA : ∀ q : Nat, s.heap.size ≤ q → A q := fun q h => by rw [← hAe]; exact Or.inr h
  have hS : va_S A s.heap s.heap [] := va_S.rf
  have i_X6 : ∀ w ∈ wsX60, w ∈ wsX6_becomes := fun w h => List.mem_cons_of_mem _ (List.mem_append_right _ h)
  have hent : entryFrame m args 2 = F0 m 0 ((lg_sl ([.ref (aM 0), .int p1]) ++ List.replicate (2 - (lg_sl ([.ref (aM 0), .int p1])).length) Slot.unset).toArray) [] := by rw [hargs]; exact lg_entry_eq _ _ _
  rw [hent]
  have hl := lv_entry ([.ref (aM 0), .int p1]) (n := 2) (Nat.le_of_ble_eq_true rfl)
  generalize (lg_sl ([.ref (aM 0), .int p1]) ++ List.replicate (2 - (lg_sl ([.ref (aM 0), .int p1])).length) Slot.unset).toArray = ls at hl ⊢
  have hl : lv_has ls 2 [(0, .ref (aM 0)), (1, .int p1)] := hl
  generalize hQ0 : MQ below _ _ _ _ _ _ = Q0
  unfold fX6_becomes at hf
  refine lv_aload_n hx hb dX6_becomes_0 rfl (lv_at hl 0 rfl) ?_
  refine va_get (D := g.1) (ci := 6) (v := .ref (aM 1)) (C := RX6) (T := TX6) (N := 19) hx hb hts i_X6 hown hK hP 0 rfl rfl 0 (by decide) (hts (.fieldLink RX6 7 "WordFlasherModel" "d" "[I") (List.mem_of_getElem? (i := 1) rfl)) (fun _ h9 => h9) rfl dX6_becomes_1 ?_
  refine lv_sipush (v := 301) hx hb dX6_becomes_4 (by decide) ?_
  refine lv_iload_n hx hb dX6_becomes_7 rfl (lv_at hl 1 rfl) ?_
  obtain ⟨h3, f1, e2, hf⟩ := wrA_el hf
  obtain ⟨X4, e5, hf⟩ := sl_el hf
  refine va_iast hx hb hK hP hD hS 1 0 rfl rfl h3 dX6_becomes_8 (fun H locs hP hD hS => ?_)
  have hP : va_P g.1 vwCl (pM g aM X4) H := by subst e5; subst e2; exact hP
  have hD : va_D A (pM g aM X4) := by subst e5; subst e2; exact hD
  refine lv_aload_n hx hb dX6_becomes_9 rfl (lv_at hl 0 rfl) ?_
  refine va_get (D := g.1) (ci := 6) (v := .ref (aM 1)) (C := RX6) (T := TX6) (N := 19) hx hb hts i_X6 hown hK hP 0 rfl rfl 0 (by decide) (hts (.fieldLink RX6 7 "WordFlasherModel" "d" "[I") (List.mem_of_getElem? (i := 1) rfl)) (fun _ h9 => h9) rfl dX6_becomes_10 ?_
  refine lv_sipush (v := 302) hx hb dX6_becomes_13 (by decide) ?_
  refine lv_iload_n hx hb dX6_becomes_16 rfl (lv_at hl 1 rfl) ?_
  refine lv_iconst (v := (-1)) hx hb dX6_becomes_17 (by decide) ?_
  obtain ⟨j30, ej30, hf⟩ := sl_el hf
  have J_30 : ∀ (x1 k1 k2 : Int32) (XM : DM) (H : Heap) (locs : List Loc) (ls : Array Slot), va_P g.1 vwCl (pM g aM XM) H → va_D A (pM g aM XM) → va_S A s.heap H locs → lv_has ls 2 [(0, .ref (aM 0)), (1, .int x1)] → j30 x1 k1 k2 XM = some XMz → W p l e (headSpec wsX6_becomes rmX6_becomes).room s m args below meth c H locs 0 0 Q0 (F0 m 30 ls [.int k2, .int k1, .ref (aM 1)]) := by
    intro x1 k1 k2 XM H locs ls hP hD hS hl hf
    rw [ej30] at hf
    obtain ⟨h8, f6, e7, hf⟩ := wrA_el hf
    obtain ⟨X9, e10, hf⟩ := sl_el hf
    refine va_iast hx hb hK hP hD hS 1 0 rfl rfl h8 dX6_becomes_30 (fun H locs hP hD hS => ?_)
    have hP : va_P g.1 vwCl (pM g aM X9) H := by subst e10; subst e7; exact hP
    have hD : va_D A (pM g aM X9) := by subst e10; subst e7; exact hD
    refine lv_iload_n hx hb dX6_becomes_31 rfl (lv_at hl 1 rfl) ?_
    refine lv_iconst (v := (-1)) hx hb dX6_becomes_32 (by decide) ?_
    refine lv_icmp_ne (tgt := 37) hx hb dX6_becomes_33 (by decide) (fun c11 => ?_) (fun c11 => ?_)
    · have hf := ite_f hf c11
      refine lv_aload_n hx hb dX6_becomes_37 rfl (lv_at hl 0 rfl) ?_
      refine va_get (D := g.1) (ci := 6) (v := .ref (aM 1)) (C := RX6) (T := TX6) (N := 19) hx hb hts i_X6 hown hK hP 0 rfl rfl 0 (by decide) (hts (.fieldLink RX6 7 "WordFlasherModel" "d" "[I") (List.mem_of_getElem? (i := 1) rfl)) (fun _ h9 => h9) rfl dX6_becomes_38 ?_
      refine lv_sipush (v := 340) hx hb dX6_becomes_41 (by decide) ?_
      obtain ⟨h14, v12, e13, hf⟩ := rdA_el hf
      refine va_iald hx hb hK hP 1 0 rfl rfl h14 dX6_becomes_44 ?_
      refine lv_as e13 ?_
      refine lv_iconst (v := 3) hx hb dX6_becomes_45 (by decide) ?_
      obtain ⟨j93, ej93, hf⟩ := sl_el hf
      have J_93 : ∀ (x1 : Int32) (XM : DM) (H : Heap) (locs : List Loc) (ls : Array Slot), va_P g.1 vwCl (pM g aM XM) H → va_D A (pM g aM XM) → va_S A s.heap H locs → lv_has ls 2 [(0, .ref (aM 0)), (1, .int x1)] → j93 x1 XM = some XMz → W p l e (headSpec wsX6_becomes rmX6_becomes).room s m args below meth c H locs 0 0 Q0 (F0 m 93 ls []) := by
        intro x1 XM H locs ls hP hD hS hl hf
        rw [ej93] at hf
        refine lv_aload_n hx hb dX6_becomes_93 rfl (lv_at hl 0 rfl) ?_
        refine va_get (D := g.1) (ci := 6) (v := .ref (aM 1)) (C := RX6) (T := TX6) (N := 19) hx hb hts i_X6 hown hK hP 0 rfl rfl 0 (by decide) (hts (.fieldLink RX6 7 "WordFlasherModel" "d" "[I") (List.mem_of_getElem? (i := 1) rfl)) (fun _ h9 => h9) rfl dX6_becomes_94 ?_
        refine lv_sipush (v := 341) hx hb dX6_becomes_97 (by decide) ?_
        refine lv_aload_n hx hb dX6_becomes_100 rfl (lv_at hl 0 rfl) ?_
        refine va_get (D := g.1) (ci := 6) (v := .ref (aM 1)) (C := RX6) (T := TX6) (N := 19) hx hb hts i_X6 hown hK hP 0 rfl rfl 0 (by decide) (hts (.fieldLink RX6 7 "WordFlasherModel" "d" "[I") (List.mem_of_getElem? (i := 1) rfl)) (fun _ h9 => h9) rfl dX6_becomes_101 ?_
        refine lv_sipush (v := 340) hx hb dX6_becomes_104 (by decide) ?_
        obtain ⟨h17, v15, e16, hf⟩ := rdA_el hf
        refine va_iald hx hb hK hP 1 0 rfl rfl h17 dX6_becomes_107 ?_
        refine lv_as e16 ?_
        refine lv_iadd hx hb dX6_becomes_108 ?_
        refine lv_iload_n hx hb dX6_becomes_109 rfl (lv_at hl 1 rfl) ?_
        obtain ⟨h20, f18, e19, hf⟩ := wrA_el hf
        obtain ⟨X21, e22, hf⟩ := sl_el hf
        refine va_iast hx hb hK hP hD hS 1 0 rfl rfl h20 dX6_becomes_110 (fun H locs hP hD hS => ?_)
        have hP : va_P g.1 vwCl (pM g aM X21) H := by subst e22; subst e19; exact hP
        have hD : va_D A (pM g aM X21) := by subst e22; subst e19; exact hD
        refine lv_aload_n hx hb dX6_becomes_111 rfl (lv_at hl 0 rfl) ?_
        refine va_get (D := g.1) (ci := 6) (v := .ref (aM 1)) (C := RX6) (T := TX6) (N := 19) hx hb hts i_X6 hown hK hP 0 rfl rfl 0 (by decide) (hts (.fieldLink RX6 7 "WordFlasherModel" "d" "[I") (List.mem_of_getElem? (i := 1) rfl)) (fun _ h9 => h9) rfl dX6_becomes_112 ?_
        refine lv_sipush (v := 340) hx hb dX6_becomes_115 (by decide) ?_
        refine lv_dup2_11 hx hb dX6_becomes_118 rfl rfl ?_
        obtain ⟨h25, v23, e24, hf⟩ := rdA_el hf
        refine va_iald hx hb hK hP 1 0 rfl rfl h25 dX6_becomes_119 ?_
        refine lv_as e24 ?_
        refine lv_iconst (v := 1) hx hb dX6_becomes_120 (by decide) ?_
        refine lv_iadd hx hb dX6_becomes_121 ?_
        obtain ⟨h28, f26, e27, hf⟩ := wrA_el hf
        obtain ⟨X29, e30, hf⟩ := sl_el hf
        refine va_iast hx hb hK hP hD hS 1 0 rfl rfl h28 dX6_becomes_122 (fun H locs hP hD hS => ?_)
        have hP : va_P g.1 vwCl (pM g aM X29) H := by subst e30; subst e27; exact hP
        have hD : va_D A (pM g aM X29) := by subst e30; subst e27; exact hD
        have er0 := Option.some.inj hf
        rw [← hQ0]; exact W.vret hx hb hr (fun t ht hW => ⟨⟨(), rfl, trivial, by dsimp only; rw [ht, ← er0]; exact hP⟩, hS.F ht⟩) hS.2.2 dX6_becomes_123
      refine lv_icmp_ne (tgt := 93) hx hb dX6_becomes_46 (by decide) (fun c31 => ?_) (fun c31 => ?_)
      · have hf := ite_f hf c31
        exact J_93 x1 X9 _ _ ls hP hD hS (lv_sub hl [0, 1] rfl) hf
      · have hf := ite_t hf c31
        refine lv_aload_n hx hb dX6_becomes_49 rfl (lv_at hl 0 rfl) ?_
        refine va_get (D := g.1) (ci := 6) (v := .ref (aM 1)) (C := RX6) (T := TX6) (N := 19) hx hb hts i_X6 hown hK hP 0 rfl rfl 0 (by decide) (hts (.fieldLink RX6 7 "WordFlasherModel" "d" "[I") (List.mem_of_getElem? (i := 1) rfl)) (fun _ h9 => h9) rfl dX6_becomes_50 ?_
        refine lv_sipush (v := 341) hx hb dX6_becomes_53 (by decide) ?_
        refine lv_aload_n hx hb dX6_becomes_56 rfl (lv_at hl 0 rfl) ?_
        refine va_get (D := g.1) (ci := 6) (v := .ref (aM 1)) (C := RX6) (T := TX6) (N := 19) hx hb hts i_X6 hown hK hP 0 rfl rfl 0 (by decide) (hts (.fieldLink RX6 7 "WordFlasherModel" "d" "[I") (List.mem_of_getElem? (i := 1) rfl)) (fun _ h9 => h9) rfl dX6_becomes_57 ?_
        refine lv_sipush (v := 342) hx hb dX6_becomes_60 (by decide) ?_
        obtain ⟨h34, v32, e33, hf⟩ := rdA_el hf
        refine va_iald hx hb hK hP 1 0 rfl rfl h34 dX6_becomes_63 ?_
        refine lv_as e33 ?_
        obtain ⟨h37, f35, e36, hf⟩ := wrA_el hf
        obtain ⟨X38, e39, hf⟩ := sl_el hf
        refine va_iast hx hb hK hP hD hS 1 0 rfl rfl h37 dX6_becomes_64 (fun H locs hP hD hS => ?_)
        have hP : va_P g.1 vwCl (pM g aM X38) H := by subst e39; subst e36; exact hP
        have hD : va_D A (pM g aM X38) := by subst e39; subst e36; exact hD
        refine lv_aload_n hx hb dX6_becomes_65 rfl (lv_at hl 0 rfl) ?_
        refine va_get (D := g.1) (ci := 6) (v := .ref (aM 1)) (C := RX6) (T := TX6) (N := 19) hx hb hts i_X6 hown hK hP 0 rfl rfl 0 (by decide) (hts (.fieldLink RX6 7 "WordFlasherModel" "d" "[I") (List.mem_of_getElem? (i := 1) rfl)) (fun _ h9 => h9) rfl dX6_becomes_66 ?_
        refine lv_sipush (v := 342) hx hb dX6_becomes_69 (by decide) ?_
        refine lv_aload_n hx hb dX6_becomes_72 rfl (lv_at hl 0 rfl) ?_
        refine va_get (D := g.1) (ci := 6) (v := .ref (aM 1)) (C := RX6) (T := TX6) (N := 19) hx hb hts i_X6 hown hK hP 0 rfl rfl 0 (by decide) (hts (.fieldLink RX6 7 "WordFlasherModel" "d" "[I") (List.mem_of_getElem? (i := 1) rfl)) (fun _ h9 => h9) rfl dX6_becomes_73 ?_
        refine lv_sipush (v := 343) hx hb dX6_becomes_76 (by decide) ?_
        obtain ⟨h42, v40, e41, hf⟩ := rdA_el hf
        refine va_iald hx hb hK hP 1 0 rfl rfl h42 dX6_becomes_79 ?_
        refine lv_as e41 ?_
        obtain ⟨h45, f43, e44, hf⟩ := wrA_el hf
        obtain ⟨X46, e47, hf⟩ := sl_el hf
        refine va_iast hx hb hK hP hD hS 1 0 rfl rfl h45 dX6_becomes_80 (fun H locs hP hD hS => ?_)
        have hP : va_P g.1 vwCl (pM g aM X46) H := by subst e47; subst e44; exact hP
        have hD : va_D A (pM g aM X46) := by subst e47; subst e44; exact hD
        refine lv_aload_n hx hb dX6_becomes_81 rfl (lv_at hl 0 rfl) ?_
        refine va_get (D := g.1) (ci := 6) (v := .ref (aM 1)) (C := RX6) (T := TX6) (N := 19) hx hb hts i_X6 hown hK hP 0 rfl rfl 0 (by decide) (hts (.fieldLink RX6 7 "WordFlasherModel" "d" "[I") (List.mem_of_getElem? (i := 1) rfl)) (fun _ h9 => h9) rfl dX6_becomes_82 ?_
        refine lv_sipush (v := 340) hx hb dX6_becomes_85 (by decide) ?_
        refine lv_dup2_11 hx hb dX6_becomes_88 rfl rfl ?_
        obtain ⟨h50, v48, e49, hf⟩ := rdA_el hf
        refine va_iald hx hb hK hP 1 0 rfl rfl h50 dX6_becomes_89 ?_
        refine lv_as e49 ?_
        refine lv_iconst (v := 1) hx hb dX6_becomes_90 (by decide) ?_
        refine lv_isub hx hb dX6_becomes_91 ?_
        obtain ⟨h53, f51, e52, hf⟩ := wrA_el hf
        obtain ⟨X54, e55, hf⟩ := sl_el hf
        refine va_iast hx hb hK hP hD hS 1 0 rfl rfl h53 dX6_becomes_92 (fun H locs hP hD hS => ?_)
        have hP : va_P g.1 vwCl (pM g aM X54) H := by subst e55; subst e52; exact hP
        have hD : va_D A (pM g aM X54) := by subst e55; subst e52; exact hD
        exact J_93 x1 X54 _ _ ls hP hD hS (lv_sub hl [0, 1] rfl) hf
    · have hf := ite_t hf c11
      have er0 := Option.some.inj hf
      rw [← hQ0]; exact W.vret hx hb hr (fun t ht hW => ⟨⟨(), rfl, trivial, by dsimp only; rw [ht, ← er0]; exact hP⟩, hS.F ht⟩) hS.2.2 dX6_becomes_36
  refine lv_icmp_ne (tgt := 25) hx hb dX6_becomes_18 (by decide) (fun c56 => ?_) (fun c56 => ?_)
  · have hf := ite_f hf c56
    refine lv_aload_n hx hb dX6_becomes_25 rfl (lv_at hl 0 rfl) ?_
    refine lv_iload_n hx hb dX6_becomes_26 rfl (lv_at hl 1 rfl) ?_
    obtain ⟨r57, h58, hf⟩ := bnd_el hf
    refine rdV (As := [.int p1]) (rest := [.int 302, .ref (aM 1)]) ⟨hx, hb, hml, hown, hts⟩ (c_X6_timeOf l g aM _ _ _ h58) (cwV 1 hts gX6_becomes_X6_timeOf rfl rfl rfl (by decide +kernel) ⟨Nat.le_of_ble_eq_true rfl, Nat.le_of_ble_eq_true rfl⟩) hKW hP [0, 1, 2, 3, 4, 5, 6, 7, 8, 9, 10, 11] rfl (va_recv hK hP (ci := 6) (q0 := 0) rfl rfl) rfl hl.1 rfl (lv_room (Nat.le_of_ble_eq_true rfl)) dX6_becomes_27 ⟨Nat.zero_le _, Nat.zero_le _⟩ (fun r59 q60 => ?_)
    obtain ⟨q60, nb61⟩ := q60
    refine lv_as q60.symm ?_
    exact J_30 p1 302 r57 X4 _ _ ls hP hD hS (lv_sub hl [0, 1] rfl) hf
  · have hf := ite_t hf c56
    refine lv_iconst (v := 0) hx hb dX6_becomes_21 (by decide) ?_
    refine lv_goto (tgt := 30) hx hb dX6_becomes_22 (by decide) ?_
    exact J_30 p1 302 0 X4 _ _ ls hP hD hS (lv_sub hl [0, 1] rfl) hf
abbrev rmX6_goesWell : Room := { frames := 1, cells := 0, slots := 0, locals := 21 }
set_option maxHeartbeats 8000000 in
set_option maxRecDepth 100000 in
theorem c_X6_goesWell (l : Launch) (g : GG) (aM : Nat → Nat) (sz : Nat) (n : Nat) (XM : DM) (p1 : Int32) (XMz : DM) (hf : fX6_goesWell n XM p1 = some XMz) : Met l yX6_goesWell wsX6_goesWell rmX6_goesWell (va_Pc [.ref (aM 0), .int p1] (fun U => U.heap.size = sz ∧ va_P g.1 vwCl (pM g aM XM) U.heap ∧ KW g U ∧ va_D (fun _ => True) (pM g aM XM))) (va_Qv (fun (_ : Unit) => True) (fun (_ : Unit) t => va_P g.1 vwCl (pM g aM XMz) t.heap) (va_A (pM g aM XM) sz)) 0 0 (va_A (pM g aM XM) sz) := by
  refine Met.ofW (cc := cX6_goesWell) (maxL := 6) (ret := none) (by decide) rfl ?_
  intro p e s m args below meth c s₁ B hml hv
  obtain ⟨hargs, hsz, hP, hKW, hD0⟩ := hv
  have hK := hKW.1
  have hx := B.exec
  have hb := B.bytes
  have hr := B.returns
  have hts := atoms_spec (ws := wsX6_goesWell) B.pre
  have hown : s.vm.findClass RX6 = some m.cls := findClass_of_methodNamed B.named
  have hlocks := B.notSynchronized
  subst hsz
  have hD := hD0.self (sz := s.heap.size)
  generalize hAe : va_A (pM g aM XM) s.heap.size = A at hD ⊢
  have hA : ∀ q : Nat, s.heap.size ≤ q → A q := fun q h => by rw [← hAe]; exact Or.inr h
  have hS : va_S A s.heap s.heap [] := va_S.rf
  have i_X6 : ∀ w ∈ wsX60, w ∈ wsX6_goesWell := fun w h => List.mem_cons_of_mem _ (List.mem_append_right _ h)
  have hent : entryFrame m args 6 = F0 m 0 ((lg_sl ([.ref (aM 0), .int p1]) ++ List.replicate (6 - (lg_sl ([.ref (aM 0), .int p1])).length) Slot.unset).toArray) [] := by rw [hargs]; exact lg_entry_eq _ _ _
  rw [hent]
  have hl := lv_entry ([.ref (aM 0), .int p1]) (n := 6) (Nat.le_of_ble_eq_true rfl)
  generalize (lg_sl ([.ref (aM 0), .int p1]) ++ List.replicate (6 - (lg_sl ([.ref (aM 0), .int p1])).length) Slot.unset).toArray = ls at hl ⊢
  have hl : lv_has ls 6 [(0, .ref (aM 0)), (1, .int p1)] := hl
  generalize hQ0 : MQ below _ _ _ _ _ _ = Q0
  unfold fX6_goesWell at hf
  refine lv_aload_n hx hb dX6_goesWell_0 rfl (lv_at hl 0 rfl) ?_
  refine va_get (D := g.1) (ci := 6) (v := .ref (aM 8)) (C := RX6) (T := TX6) (N := 19) hx hb hts i_X6 hown hK hP 0 rfl rfl 15 (by decide) (hts (.fieldLink RX6 32 "WordFlasherModel" "kind" "[I") (List.mem_of_getElem? (i := 1) rfl)) (fun _ h9 => h9) rfl dX6_goesWell_1 ?_
  refine lv_iload_n hx hb dX6_goesWell_4 rfl (lv_at hl 1 rfl) ?_
  obtain ⟨h3, v1, e2, hf⟩ := rdA_el hf
  refine va_iald hx hb hK hP 8 0 rfl rfl h3 dX6_goesWell_5 ?_
  refine lv_as e2 ?_
  refine lv_iconst (v := 1) hx hb dX6_goesWell_6 (by decide) ?_
  obtain ⟨j25, ej25, hf⟩ := sl_el hf
  have J_25 : ∀ (x1 k0 : Int32) (XM : DM) (H : Heap) (locs : List Loc) (ls : Array Slot), va_P g.1 vwCl (pM g aM XM) H → va_D A (pM g aM XM) → va_S A s.heap H locs → lv_has ls 6 [(0, .ref (aM 0)), (1, .int x1)] → j25 x1 k0 XM = some XMz → W p l e (headSpec wsX6_goesWell rmX6_goesWell).room s m args below meth c H locs 0 0 Q0 (F0 m 25 ls [.int k0]) := by
    intro x1 k0 XM H locs ls hP hD hS hl hf
    rw [ej25] at hf
    refine lv_istore_n (lv' := [(2, .int k0), (0, .ref (aM 0)), (1, .int x1)]) hx hb dX6_goesWell_25 rfl hl (by decide) rfl (fun ls hl => ?_)
    refine lv_iconst (v := 0) hx hb dX6_goesWell_26 (by decide) ?_
    refine lv_istore_n (lv' := [(3, .int 0), (2, .int k0), (0, .ref (aM 0)), (1, .int x1)]) hx hb dX6_goesWell_27 rfl hl (by decide) rfl (fun ls hl => ?_)
    have L_28 : ∀ fu : Nat, ∀ (x1 x2 x3 : Int32) (XM : DM) (H : Heap) (locs : List Loc) (ls : Array Slot), va_P g.1 vwCl (pM g aM XM) H → va_D A (pM g aM XM) → va_S A s.heap H locs → lv_has ls 6 [(0, .ref (aM 0)), (1, .int x1), (2, .int x2), (3, .int x3)] → fX6_goesWell_L28 n fu x1 x2 x3 XM = some XMz → W p l e (headSpec wsX6_goesWell rmX6_goesWell).room s m args below meth c H locs 0 0 Q0 (F0 m 28 ls []) := by
      intro fu
      induction fu with
      | zero => intros; rename_i hf; rw [fX6_goesWell_L28] at hf; cases hf
      | succ fu ih =>
        intro x1 x2 x3 XM H locs ls hP hD hS hl hf
        rw [fX6_goesWell_L28] at hf
        refine lv_iload_n hx hb dX6_goesWell_28 rfl (lv_at hl 3 rfl) ?_
        refine lv_iconst (v := 3) hx hb dX6_goesWell_29 (by decide) ?_
        refine lv_icmp_ge (tgt := 175) hx hb dX6_goesWell_30 (by decide) (fun c4 => ?_) (fun c4 => ?_)
        · have hf := ite_t hf c4
          have er0 := Option.some.inj hf
          rw [← hQ0]; exact W.vret hx hb hr (fun t ht hW => ⟨⟨(), rfl, trivial, by dsimp only; rw [ht, ← er0]; exact hP⟩, hS.F ht⟩) hS.2.2 dX6_goesWell_175
        · have hf := ite_f hf c4
          refine lv_iload_n hx hb dX6_goesWell_33 rfl (lv_at hl 2 rfl) ?_
          refine lv_if_eq (tgt := 175) hx hb dX6_goesWell_34 (by decide) (fun c5 => ?_) (fun c5 => ?_)
          · have hf := ite_t hf c5
            have er0 := Option.some.inj hf
            rw [← hQ0]; exact W.vret hx hb hr (fun t ht hW => ⟨⟨(), rfl, trivial, by dsimp only; rw [ht, ← er0]; exact hP⟩, hS.F ht⟩) hS.2.2 dX6_goesWell_175
          · have hf := ite_f hf c5
            refine lv_aload_n hx hb dX6_goesWell_37 rfl (lv_at hl 0 rfl) ?_
            refine va_get (D := g.1) (ci := 6) (v := .ref (aM 1)) (C := RX6) (T := TX6) (N := 19) hx hb hts i_X6 hown hK hP 0 rfl rfl 0 (by decide) (hts (.fieldLink RX6 7 "WordFlasherModel" "d" "[I") (List.mem_of_getElem? (i := 3) rfl)) (fun _ h9 => h9) rfl dX6_goesWell_38 ?_
            refine lv_sipush (v := 344) hx hb dX6_goesWell_41 (by decide) ?_
            obtain ⟨h8, v6, e7, hf⟩ := rdA_el hf
            refine va_iald hx hb hK hP 1 0 rfl rfl h8 dX6_goesWell_44 ?_
            refine lv_as e7 ?_
            refine lv_if_ne (tgt := 175) hx hb dX6_goesWell_45 (by decide) (fun c9 => ?_) (fun c9 => ?_)
            · have hf := ite_f hf c9
              have er0 := Option.some.inj hf
              rw [← hQ0]; exact W.vret hx hb hr (fun t ht hW => ⟨⟨(), rfl, trivial, by dsimp only; rw [ht, ← er0]; exact hP⟩, hS.F ht⟩) hS.2.2 dX6_goesWell_175
            · have hf := ite_t hf c9
              refine lv_iconst (v := 0) hx hb dX6_goesWell_48 (by decide) ?_
              refine lv_istore (lv' := [(4, .int 0), (0, .ref (aM 0)), (1, .int x1), (2, .int x2), (3, .int x3)]) hx hb dX6_goesWell_49 hl (by decide) rfl (fun ls hl => ?_)
              refine lv_iconst (v := 0) hx hb dX6_goesWell_51 (by decide) ?_
              refine lv_istore (lv' := [(5, .int 0), (4, .int 0), (0, .ref (aM 0)), (1, .int x1), (2, .int x2), (3, .int x3)]) hx hb dX6_goesWell_52 hl (by decide) rfl (fun ls hl => ?_)
              obtain ⟨j113, ej113, hf⟩ := sl_el hf
              have J_113 : ∀ (x1 x2 x3 x4 : Int32) (XM : DM) (H : Heap) (locs : List Loc) (ls : Array Slot), va_P g.1 vwCl (pM g aM XM) H → va_D A (pM g aM XM) → va_S A s.heap H locs → lv_has ls 6 [(0, .ref (aM 0)), (1, .int x1), (2, .int x2), (3, .int x3), (4, .int x4)] → j113 x1 x2 x3 x4 XM = some XMz → W p l e (headSpec wsX6_goesWell rmX6_goesWell).room s m args below meth c H locs 0 0 Q0 (F0 m 113 ls []) := by
                intro x1 x2 x3 x4 XM H locs ls hP hD hS hl hf
                rw [ej113] at hf
                refine lv_aload_n hx hb dX6_goesWell_113 rfl (lv_at hl 0 rfl) ?_
                refine va_get (D := g.1) (ci := 6) (v := .ref (aM 1)) (C := RX6) (T := TX6) (N := 19) hx hb hts i_X6 hown hK hP 0 rfl rfl 0 (by decide) (hts (.fieldLink RX6 7 "WordFlasherModel" "d" "[I") (List.mem_of_getElem? (i := 3) rfl)) (fun _ h9 => h9) rfl dX6_goesWell_114 ?_
                refine lv_sipush (v := 330) hx hb dX6_goesWell_117 (by decide) ?_
                refine lv_iload_n hx hb dX6_goesWell_120 rfl (lv_at hl 3 rfl) ?_
                refine lv_iadd hx hb dX6_goesWell_121 ?_
                obtain ⟨h12, v10, e11, hf⟩ := rdA_el hf
                refine va_iald hx hb hK hP 1 0 rfl rfl h12 dX6_goesWell_122 ?_
                refine lv_as e11 ?_
                refine lv_iload hx hb dX6_goesWell_123 (lv_at hl 4 rfl) ?_
                obtain ⟨j140, ej140, hf⟩ := sl_el hf
                have J_140 : ∀ (x1 x2 x3 k0 k1 : Int32) (XM : DM) (H : Heap) (locs : List Loc) (ls : Array Slot), va_P g.1 vwCl (pM g aM XM) H → va_D A (pM g aM XM) → va_S A s.heap H locs → lv_has ls 6 [(0, .ref (aM 0)), (1, .int x1), (2, .int x2), (3, .int x3)] → j140 x1 x2 x3 k0 k1 XM = some XMz → W p l e (headSpec wsX6_goesWell rmX6_goesWell).room s m args below meth c H locs 0 0 Q0 (F0 m 140 ls [.int k1, .int k0]) := by
                  intro x1 x2 x3 k0 k1 XM H locs ls hP hD hS hl hf
                  rw [ej140] at hf
                  refine lv_iadd hx hb dX6_goesWell_140 ?_
                  obtain ⟨v13, e14, hf⟩ := sl_el hf
                  refine lv_as e14 ?_
                  refine lv_istore (lv' := [(5, .int v13), (0, .ref (aM 0)), (1, .int x1), (2, .int x2), (3, .int x3)]) hx hb dX6_goesWell_141 hl (by decide) rfl (fun ls hl => ?_)
                  refine lv_aload_n hx hb dX6_goesWell_143 rfl (lv_at hl 1 rfl) ?_
                  refine va_get (D := g.1) (ci := 6) (v := .ref (aM 1)) (C := RX6) (T := TX6) (N := 19) hx hb hts i_X6 hown hK hP 0 rfl rfl 0 (by decide) (hts (.fieldLink RX6 7 "WordFlasherModel" "d" "[I") (List.mem_of_getElem? (i := 3) rfl)) (fun _ h9 => h9) rfl dX6_goesWell_144 ?_
                  refine lv_sipush (v := 330) hx hb dX6_goesWell_147 (by decide) ?_
                  refine lv_iload_n hx hb dX6_goesWell_150 rfl (lv_at hl 4 rfl) ?_
                  refine lv_iadd hx hb dX6_goesWell_151 ?_
                  refine lv_iload hx hb dX6_goesWell_152 (lv_at hl 0 rfl) ?_
                  refine lv_sipush (v := 400) hx hb dX6_goesWell_154 (by decide) ?_
                  obtain ⟨j168, ej168, hf⟩ := sl_el hf
                  have J_168 : ∀ (x1 x2 x3 k1 k2 : Int32) (XM : DM) (H : Heap) (locs : List Loc) (ls : Array Slot), va_P g.1 vwCl (pM g aM XM) H → va_D A (pM g aM XM) → va_S A s.heap H locs → lv_has ls 6 [(0, .ref (aM 0)), (1, .int x1), (2, .int x2), (3, .int x3)] → j168 x1 x2 x3 k1 k2 XM = some XMz → W p l e (headSpec wsX6_goesWell rmX6_goesWell).room s m args below meth c H locs 0 0 Q0 (F0 m 168 ls [.int k2, .int k1, .ref (aM 1)]) := by
                    intro x1 x2 x3 k1 k2 XM H locs ls hP hD hS hl hf
                    rw [ej168] at hf
                    obtain ⟨h17, f15, e16, hf⟩ := wrA_el hf
                    obtain ⟨X18, e19, hf⟩ := sl_el hf
                    refine va_iast hx hb hK hP hD hS 1 0 rfl rfl h17 dX6_goesWell_168 (fun H locs hP hD hS => ?_)
                    have hP : va_P g.1 vwCl (pM g aM X18) H := by subst e19; subst e16; exact hP
                    have hD : va_D A (pM g aM X18) := by subst e19; subst e16; exact hD
                    obtain ⟨v20, e21, hf⟩ := sl_el hf
                    refine lv_iinc (v := v20) (lv' := [(3, .int v20), (0, .ref (aM 0)), (1, .int x1), (2, .int x2)]) hx hb dX6_goesWell_169 hl (k := 3) rfl (by rw [e21]; rfl) (by decide) rfl (fun ls hl => ?_)
                    refine lv_goto (tgt := 28) hx hb dX6_goesWell_172 (by decide) ?_
                    exact ih x1 x2 v20 X18 _ _ ls hP hD hS (lv_sub hl [1, 2, 3, 0] rfl) hf
                  refine lv_icmp_le (tgt := 166) hx hb dX6_goesWell_157 (by decide) (fun c22 => ?_) (fun c22 => ?_)
                  · have hf := ite_t hf c22
                    refine lv_iload hx hb dX6_goesWell_166 (lv_at hl 0 rfl) ?_
                    exact J_168 x1 x2 x3 (330 + x3) v13 XM _ _ ls hP hD hS (lv_sub hl [1, 2, 3, 4] rfl) hf
                  · have hf := ite_f hf c22
                    refine lv_sipush (v := 400) hx hb dX6_goesWell_160 (by decide) ?_
                    refine lv_goto (tgt := 168) hx hb dX6_goesWell_163 (by decide) ?_
                    exact J_168 x1 x2 x3 (330 + x3) 400 XM _ _ ls hP hD hS (lv_sub hl [1, 2, 3, 4] rfl) hf
                refine lv_if_eq (tgt := 139) hx hb dX6_goesWell_125 (by decide) (fun c23 => ?_) (fun c23 => ?_)
                · have hf := ite_t hf c23
                  refine lv_iconst (v := 0) hx hb dX6_goesWell_139 (by decide) ?_
                  exact J_140 x1 x2 x3 v10 0 XM _ _ ls hP hD hS (lv_sub hl [0, 1, 2, 3] rfl) hf
                · have hf := ite_f hf c23
                  refine lv_aload_n hx hb dX6_goesWell_128 rfl (lv_at hl 0 rfl) ?_
                  refine va_get (D := g.1) (ci := 6) (v := .ref (aM 1)) (C := RX6) (T := TX6) (N := 19) hx hb hts i_X6 hown hK hP 0 rfl rfl 0 (by decide) (hts (.fieldLink RX6 7 "WordFlasherModel" "d" "[I") (List.mem_of_getElem? (i := 3) rfl)) (fun _ h9 => h9) rfl dX6_goesWell_129 ?_
                  refine lv_sipush (v := 339) hx hb dX6_goesWell_132 (by decide) ?_
                  obtain ⟨h26, v24, e25, hf⟩ := rdA_el hf
                  refine va_iald hx hb hK hP 1 0 rfl rfl h26 dX6_goesWell_135 ?_
                  refine lv_as e25 ?_
                  refine lv_goto (tgt := 140) hx hb dX6_goesWell_136 (by decide) ?_
                  exact J_140 x1 x2 x3 v10 v24 XM _ _ ls hP hD hS (lv_sub hl [0, 1, 2, 3] rfl) hf
              have L_54 : ∀ fu : Nat, ∀ (x1 x2 x3 x4 x5 : Int32) (XM : DM) (H : Heap) (locs : List Loc) (ls : Array Slot), va_P g.1 vwCl (pM g aM XM) H → va_D A (pM g aM XM) → va_S A s.heap H locs → lv_has ls 6 [(0, .ref (aM 0)), (1, .int x1), (2, .int x2), (3, .int x3), (4, .int x4), (5, .int x5)] → fX6_goesWell_L54 n j113 fu x1 x2 x3 x4 x5 XM = some XMz → W p l e (headSpec wsX6_goesWell rmX6_goesWell).room s m args below meth c H locs 0 0 Q0 (F0 m 54 ls []) := by
                intro fu
                induction fu with
                | zero => intros; rename_i hf; rw [fX6_goesWell_L54] at hf; cases hf
                | succ fu ih =>
                  intro x1 x2 x3 x4 x5 XM H locs ls hP hD hS hl hf
                  rw [fX6_goesWell_L54] at hf
                  refine lv_iload hx hb dX6_goesWell_54 (lv_at hl 5 rfl) ?_
                  refine lv_iload_n hx hb dX6_goesWell_56 rfl (lv_at hl 1 rfl) ?_
                  refine lv_icmp_gt (tgt := 113) hx hb dX6_goesWell_57 (by decide) (fun c27 => ?_) (fun c27 => ?_)
                  · have hf := ite_t hf c27
                    exact J_113 x1 x2 x3 x4 XM _ _ ls hP hD hS (lv_sub hl [0, 1, 2, 3, 4] rfl) hf
                  · have hf := ite_f hf c27
                    refine lv_iload hx hb dX6_goesWell_60 (lv_at hl 4 rfl) ?_
                    obtain ⟨j105, ej105, hf⟩ := sl_el hf
                    have J_105 : ∀ (x1 x2 x3 x5 k0 : Int32) (XM : DM) (H : Heap) (locs : List Loc) (ls : Array Slot), va_P g.1 vwCl (pM g aM XM) H → va_D A (pM g aM XM) → va_S A s.heap H locs → lv_has ls 6 [(0, .ref (aM 0)), (1, .int x1), (2, .int x2), (3, .int x3), (5, .int x5)] → j105 x1 x2 x3 x5 k0 XM = some XMz → W p l e (headSpec wsX6_goesWell rmX6_goesWell).room s m args below meth c H locs 0 0 Q0 (F0 m 105 ls [.int k0]) := by
                      intro x1 x2 x3 x5 k0 XM H locs ls hP hD hS hl hf
                      rw [ej105] at hf
                      refine lv_istore (lv' := [(4, .int k0), (0, .ref (aM 0)), (1, .int x1), (2, .int x2), (3, .int x3), (5, .int x5)]) hx hb dX6_goesWell_105 hl (by decide) rfl (fun ls hl => ?_)
                      obtain ⟨v28, e29, hf⟩ := sl_el hf
                      refine lv_iinc (v := v28) (lv' := [(5, .int v28), (4, .int k0), (0, .ref (aM 0)), (1, .int x1), (2, .int x2), (3, .int x3)]) hx hb dX6_goesWell_107 hl (k := 5) rfl (by rw [e29]; rfl) (by decide) rfl (fun ls hl => ?_)
                      refine lv_goto (tgt := 54) hx hb dX6_goesWell_110 (by decide) ?_
                      exact ih x1 x2 x3 k0 v28 XM _ _ ls hP hD hS (lv_sub hl [2, 3, 4, 5, 1, 0] rfl) hf
                    obtain ⟨j100, ej100, hf⟩ := sl_el hf
                    have J_100 : ∀ (x1 x2 x3 x5 : Int32) (XM : DM) (H : Heap) (locs : List Loc) (ls : Array Slot), va_P g.1 vwCl (pM g aM XM) H → va_D A (pM g aM XM) → va_S A s.heap H locs → lv_has ls 6 [(0, .ref (aM 0)), (1, .int x1), (2, .int x2), (3, .int x3), (5, .int x5)] → j100 x1 x2 x3 x5 XM = some XMz → W p l e (headSpec wsX6_goesWell rmX6_goesWell).room s m args below meth c H locs 0 0 Q0 (F0 m 100 ls []) := by
                      intro x1 x2 x3 x5 XM H locs ls hP hD hS hl hf
                      rw [ej100] at hf
                      refine lv_iconst (v := 1) hx hb dX6_goesWell_100 (by decide) ?_
                      refine lv_goto (tgt := 105) hx hb dX6_goesWell_101 (by decide) ?_
                      exact J_105 x1 x2 x3 x5 1 XM _ _ ls hP hD hS (lv_sub hl [0, 1, 2, 3, 4] rfl) hf
                    refine lv_if_ne (tgt := 100) hx hb dX6_goesWell_62 (by decide) (fun c30 => ?_) (fun c30 => ?_)
                    · have hf := ite_f hf c30
                      exact J_100 x1 x2 x3 x5 XM _ _ ls hP hD hS (lv_sub hl [0, 1, 2, 3, 5] rfl) hf
                    · have hf := ite_t hf c30
                      refine lv_aload_n hx hb dX6_goesWell_65 rfl (lv_at hl 0 rfl) ?_
                      refine va_get (D := g.1) (ci := 6) (v := .ref (aM 10)) (C := RX6) (T := TX6) (N := 19) hx hb hts i_X6 hown hK hP 0 rfl rfl 17 (by decide) (hts (.fieldLink RX6 39 "WordFlasherModel" "sentenceOf" "[I") (List.mem_of_getElem? (i := 4) rfl)) (fun _ h9 => h9) rfl dX6_goesWell_66 ?_
                      refine lv_iload hx hb dX6_goesWell_69 (lv_at hl 5 rfl) ?_
                      obtain ⟨h33, v31, e32, hf⟩ := rdA_el hf
                      refine va_iald hx hb hK hP 10 0 rfl rfl h33 dX6_goesWell_71 ?_
                      refine lv_as e32 ?_
                      refine lv_aload_n hx hb dX6_goesWell_72 rfl (lv_at hl 0 rfl) ?_
                      refine va_get (D := g.1) (ci := 6) (v := .ref (aM 10)) (C := RX6) (T := TX6) (N := 19) hx hb hts i_X6 hown hK hP 0 rfl rfl 17 (by decide) (hts (.fieldLink RX6 39 "WordFlasherModel" "sentenceOf" "[I") (List.mem_of_getElem? (i := 4) rfl)) (fun _ h9 => h9) rfl dX6_goesWell_73 ?_
                      refine lv_iload_n hx hb dX6_goesWell_76 rfl (lv_at hl 1 rfl) ?_
                      obtain ⟨h36, v34, e35, hf⟩ := rdA_el hf
                      refine va_iald hx hb hK hP 10 0 rfl rfl h36 dX6_goesWell_77 ?_
                      refine lv_as e35 ?_
                      obtain ⟨j104, ej104, hf⟩ := sl_el hf
                      have J_104 : ∀ (x1 x2 x3 x5 : Int32) (XM : DM) (H : Heap) (locs : List Loc) (ls : Array Slot), va_P g.1 vwCl (pM g aM XM) H → va_D A (pM g aM XM) → va_S A s.heap H locs → lv_has ls 6 [(0, .ref (aM 0)), (1, .int x1), (2, .int x2), (3, .int x3), (5, .int x5)] → j104 x1 x2 x3 x5 XM = some XMz → W p l e (headSpec wsX6_goesWell rmX6_goesWell).room s m args below meth c H locs 0 0 Q0 (F0 m 104 ls []) := by
                        intro x1 x2 x3 x5 XM H locs ls hP hD hS hl hf
                        rw [ej104] at hf
                        refine lv_iconst (v := 0) hx hb dX6_goesWell_104 (by decide) ?_
                        exact J_105 x1 x2 x3 x5 0 XM _ _ ls hP hD hS (lv_sub hl [0, 1, 2, 3, 4] rfl) hf
                      refine lv_icmp_ne (tgt := 104) hx hb dX6_goesWell_78 (by decide) (fun c37 => ?_) (fun c37 => ?_)
                      · have hf := ite_f hf c37
                        exact J_104 x1 x2 x3 x5 XM _ _ ls hP hD hS (lv_sub hl [0, 1, 2, 3, 5] rfl) hf
                      · have hf := ite_t hf c37
                        refine lv_aload_n hx hb dX6_goesWell_81 rfl (lv_at hl 0 rfl) ?_
                        refine lv_iload hx hb dX6_goesWell_82 (lv_at hl 5 rfl) ?_
                        obtain ⟨r38, h39, hf⟩ := bnd_el hf
                        refine rdV (As := [.int x5]) (rest := []) ⟨hx, hb, hml, hown, hts⟩ (c_X6_isShown l g aM _ _ _ h39) (cwV 1 hts gX6_goesWell_X6_isShown rfl rfl rfl (by decide +kernel) ⟨Nat.le_of_ble_eq_true rfl, Nat.le_of_ble_eq_true rfl⟩) hKW hP [0, 1, 2, 3, 4, 5, 6, 7, 8, 9, 10, 11] rfl (va_recv hK hP (ci := 6) (q0 := 0) rfl rfl) rfl hl.1 rfl (lv_room (Nat.le_of_ble_eq_true rfl)) dX6_goesWell_84 ⟨Nat.zero_le _, Nat.zero_le _⟩ (fun r40 q41 => ?_)
                        obtain ⟨q41, nb42⟩ := q41
                        refine lv_as q41.symm ?_
                        rw [q41] at nb42
                        refine lv_if_eq (tgt := 104) hx hb dX6_goesWell_87 (by decide) (fun c43 => ?_) (fun c43 => ?_)
                        · have hf := ite_t hf c43
                          exact J_104 x1 x2 x3 x5 XM _ _ ls hP hD hS (lv_sub hl [0, 1, 2, 3, 5] rfl) hf
                        · have hf := ite_f hf c43
                          refine lv_aload_n hx hb dX6_goesWell_90 rfl (lv_at hl 0 rfl) ?_
                          refine lv_iload hx hb dX6_goesWell_91 (lv_at hl 5 rfl) ?_
                          obtain ⟨r44, h45, hf⟩ := bnd_el hf
                          refine rdV (As := [.int x5]) (rest := []) ⟨hx, hb, hml, hown, hts⟩ (c_X6_classOf l g aM _ _ _ h45) (cwV 1 hts gX6_goesWell_X6_classOf rfl rfl rfl (by decide +kernel) ⟨Nat.le_of_ble_eq_true rfl, Nat.le_of_ble_eq_true rfl⟩) hKW hP [0, 1, 2, 3, 4, 5, 6, 7, 8, 9, 10, 11] rfl (va_recv hK hP (ci := 6) (q0 := 0) rfl rfl) rfl hl.1 rfl (lv_room (Nat.le_of_ble_eq_true rfl)) dX6_goesWell_93 ⟨Nat.zero_le _, Nat.zero_le _⟩ (fun r46 q47 => ?_)
                          obtain ⟨q47, nb48⟩ := q47
                          refine lv_as q47.symm ?_
                          refine lv_iload_n hx hb dX6_goesWell_96 rfl (lv_at hl 3 rfl) ?_
                          refine lv_icmp_ne (tgt := 104) hx hb dX6_goesWell_97 (by decide) (fun c49 => ?_) (fun c49 => ?_)
                          · have hf := ite_f hf c49
                            exact J_104 x1 x2 x3 x5 XM _ _ ls hP hD hS (lv_sub hl [0, 1, 2, 3, 5] rfl) hf
                          · have hf := ite_t hf c49
                            exact J_100 x1 x2 x3 x5 XM _ _ ls hP hD hS (lv_sub hl [0, 1, 2, 3, 5] rfl) hf
              exact L_54 n x1 x2 x3 0 0 XM _ _ ls hP hD hS (lv_sub hl [2, 3, 4, 5, 1, 0] rfl) hf
    exact L_28 n x1 k0 0 XM _ _ ls hP hD hS (lv_sub hl [2, 3, 1, 0] rfl) hf
  obtain ⟨j20, ej20, hf⟩ := sl_el hf
  have J_20 : ∀ (x1 : Int32) (XM : DM) (H : Heap) (locs : List Loc) (ls : Array Slot), va_P g.1 vwCl (pM g aM XM) H → va_D A (pM g aM XM) → va_S A s.heap H locs → lv_has ls 6 [(0, .ref (aM 0)), (1, .int x1)] → j20 x1 XM = some XMz → W p l e (headSpec wsX6_goesWell rmX6_goesWell).room s m args below meth c H locs 0 0 Q0 (F0 m 20 ls []) := by
    intro x1 XM H locs ls hP hD hS hl hf
    rw [ej20] at hf
    refine lv_iconst (v := 1) hx hb dX6_goesWell_20 (by decide) ?_
    refine lv_goto (tgt := 25) hx hb dX6_goesWell_21 (by decide) ?_
    exact J_25 x1 1 XM _ _ ls hP hD hS (lv_sub hl [0, 1] rfl) hf
  refine lv_icmp_gt (tgt := 20) hx hb dX6_goesWell_7 (by decide) (fun c50 => ?_) (fun c50 => ?_)
  · have hf := ite_t hf c50
    exact J_20 p1 XM _ _ ls hP hD hS (lv_sub hl [0, 1] rfl) hf
  · have hf := ite_f hf c50
    refine lv_iload_n hx hb dX6_goesWell_10 rfl (lv_at hl 1 rfl) ?_
    refine lv_aload_n hx hb dX6_goesWell_11 rfl (lv_at hl 0 rfl) ?_
    refine va_get (D := g.1) (ci := 6) (v := .int (XM 9 0)) (C := RX6) (T := TX6) (N := 19) hx hb hts i_X6 hown hK hP 0 rfl rfl 9 (by decide) (hts (.fieldLink RX6 45 "WordFlasherModel" "words" "I") (List.mem_of_getElem? (i := 2) rfl)) (fun _ h9 => h9) rfl dX6_goesWell_12 ?_
    refine lv_iconst (v := 1) hx hb dX6_goesWell_15 (by decide) ?_
    refine lv_isub hx hb dX6_goesWell_16 ?_
    refine lv_icmp_ne (tgt := 24) hx hb dX6_goesWell_17 (by decide) (fun c51 => ?_) (fun c51 => ?_)
    · have hf := ite_f hf c51
      refine lv_iconst (v := 0) hx hb dX6_goesWell_24 (by decide) ?_
      exact J_25 p1 0 XM _ _ ls hP hD hS (lv_sub hl [0, 1] rfl) hf
    · have hf := ite_t hf c51
      exact J_20 p1 XM _ _ ls hP hD hS (lv_sub hl [0, 1] rfl) hf
abbrev rmX6_goesOn : Room := { frames := 4, cells := 0, slots := 0, locals := 88 }
set_option maxHeartbeats 8000000 in
set_option maxRecDepth 100000 in
theorem c_X6_goesOn (l : Launch) (g : GG) (aM : Nat → Nat) (sz : Nat) (n : Nat) (XM : DM) (XMz : DM) (hf : fX6_goesOn n XM = some XMz) : Met l yX6_goesOn wsX6_goesOn rmX6_goesOn (va_Pc [.ref (aM 0)] (fun U => U.heap.size = sz ∧ va_P g.1 vwCl (pM g aM XM) U.heap ∧ KW g U ∧ va_D (fun _ => True) (pM g aM XM))) (va_Qv (fun (_ : Unit) => True) (fun (_ : Unit) t => va_P g.1 vwCl (pM g aM XMz) t.heap) (va_A (pM g aM XM) sz)) 0 0 (va_A (pM g aM XM) sz) := by
  refine Met.ofW (cc := cX6_goesOn) (maxL := 3) (ret := none) (by decide) rfl ?_
  intro p e s m args below meth c s₁ B hml hv
  obtain ⟨hargs, hsz, hP, hKW, hD0⟩ := hv
  have hK := hKW.1
  have hx := B.exec
  have hb := B.bytes
  have hr := B.returns
  have hts := atoms_spec (ws := wsX6_goesOn) B.pre
  have hown : s.vm.findClass RX6 = some m.cls := findClass_of_methodNamed B.named
  have hlocks := B.notSynchronized
  subst hsz
  have hD := hD0.self (sz := s.heap.size)
  generalize hAe : va_A (pM g aM XM) s.heap.size = A at hD ⊢
  have hA : ∀ q : Nat, s.heap.size ≤ q → A q := fun q h => by rw [← hAe]; exact Or.inr h
  have hS : va_S A s.heap s.heap [] := va_S.rf
  have i_X6 : ∀ w ∈ wsX60, w ∈ wsX6_goesOn := fun w h => List.mem_cons_of_mem _ (List.mem_append_right _ h)
  have hent : entryFrame m args 3 = F0 m 0 ((lg_sl ([.ref (aM 0)]) ++ List.replicate (3 - (lg_sl ([.ref (aM 0)])).length) Slot.unset).toArray) [] := by rw [hargs]; exact lg_entry_eq _ _ _
  rw [hent]
  have hl := lv_entry ([.ref (aM 0)]) (n := 3) (Nat.le_of_ble_eq_true rfl)
  generalize (lg_sl ([.ref (aM 0)]) ++ List.replicate (3 - (lg_sl ([.ref (aM 0)])).length) Slot.unset).toArray = ls at hl ⊢
  have hl : lv_has ls 3 [(0, .ref (aM 0))] := hl
  generalize hQ0 : MQ below _ _ _ _ _ _ = Q0
  unfold fX6_goesOn at hf
  refine lv_aload_n hx hb dX6_goesOn_0 rfl (lv_at hl 0 rfl) ?_
  refine va_get (D := g.1) (ci := 6) (v := .ref (aM 1)) (C := RX6) (T := TX6) (N := 19) hx hb hts i_X6 hown hK hP 0 rfl rfl 0 (by decide) (hts (.fieldLink RX6 7 "WordFlasherModel" "d" "[I") (List.mem_of_getElem? (i := 1) rfl)) (fun _ h9 => h9) rfl dX6_goesOn_1 ?_
  refine lv_sipush (v := 301) hx hb dX6_goesOn_4 (by decide) ?_
  obtain ⟨h3, v1, e2, hf⟩ := rdA_el hf
  refine va_iald hx hb hK hP 1 0 rfl rfl h3 dX6_goesOn_7 ?_
  refine lv_as e2 ?_
  refine lv_istore_n (lv' := [(1, .int v1), (0, .ref (aM 0))]) hx hb dX6_goesOn_8 rfl hl (by decide) rfl (fun ls hl => ?_)
  refine lv_iload_n hx hb dX6_goesOn_9 rfl (lv_at hl 0 rfl) ?_
  refine lv_istore_n (lv' := [(2, .int v1), (1, .int v1), (0, .ref (aM 0))]) hx hb dX6_goesOn_10 rfl hl (by decide) rfl (fun ls hl => ?_)
  refine lv_aload_n hx hb dX6_goesOn_11 rfl (lv_at hl 2 rfl) ?_
  refine va_get (D := g.1) (ci := 6) (v := .ref (aM 1)) (C := RX6) (T := TX6) (N := 19) hx hb hts i_X6 hown hK hP 0 rfl rfl 0 (by decide) (hts (.fieldLink RX6 7 "WordFlasherModel" "d" "[I") (List.mem_of_getElem? (i := 1) rfl)) (fun _ h9 => h9) rfl dX6_goesOn_12 ?_
  refine lv_sipush (v := 346) hx hb dX6_goesOn_15 (by decide) ?_
  refine lv_dup2_11 hx hb dX6_goesOn_18 rfl rfl ?_
  obtain ⟨h6, v4, e5, hf⟩ := rdA_el hf
  refine va_iald hx hb hK hP 1 0 rfl rfl h6 dX6_goesOn_19 ?_
  refine lv_as e5 ?_
  refine lv_iconst (v := 1) hx hb dX6_goesOn_20 (by decide) ?_
  refine lv_iadd hx hb dX6_goesOn_21 ?_
  obtain ⟨h9, f7, e8, hf⟩ := wrA_el hf
  obtain ⟨X10, e11, hf⟩ := sl_el hf
  refine va_iast hx hb hK hP hD hS 1 0 rfl rfl h9 dX6_goesOn_22 (fun H locs hP hD hS => ?_)
  have hP : va_P g.1 vwCl (pM g aM X10) H := by subst e11; subst e8; exact hP
  have hD : va_D A (pM g aM X10) := by subst e11; subst e8; exact hD
  refine lv_aload_n hx hb dX6_goesOn_23 rfl (lv_at hl 2 rfl) ?_
  refine lv_iload_n hx hb dX6_goesOn_24 rfl (lv_at hl 1 rfl) ?_
  obtain ⟨X12, h13, hf⟩ := bnd_el hf
  refine wr_v (rest := []) (wc := (pM g aM X10)) (wc' := (pM g aM X12)) (ws2 := (pM g aM X12)) hP hD hS hA [0, 1, 2, 3, 4, 5, 6, 7, 8, 9, 10, 11] rfl rfl (by rfl) (rnV (As := [.int v1]) ⟨hx, hb, hml, hown, hts⟩ (c_X6_goesWell l g aM _ _ _ _ _ h13) (cwV 1 hts gX6_goesOn_X6_goesWell rfl rfl rfl (by decide +kernel) ⟨Nat.le_of_ble_eq_true rfl, Nat.le_of_ble_eq_true rfl⟩) hKW hP hD [0, 1, 2, 3, 4, 5, 6, 7, 8, 9, 10, 11] (by decide) rfl (va_recv hK hP (ci := 6) (q0 := 0) rfl rfl) rfl hl.1 rfl (lv_room (Nat.le_of_ble_eq_true rfl)) dX6_goesOn_25 ⟨Nat.zero_le _, Nat.zero_le _⟩) (fun H locs hP hD hS => ?_)
  obtain ⟨v14, e15, hf⟩ := sl_el hf
  refine lv_iinc (v := v14) (lv' := [(1, .int v14), (2, .int v1), (0, .ref (aM 0))]) hx hb dX6_goesOn_28 hl (k := 1) rfl (by rw [e15]; rfl) (by decide) rfl (fun ls hl => ?_)
  obtain ⟨j58, ej58, hf⟩ := sl_el hf
  have J_58 : ∀ (x1 x2 : Int32) (XM : DM) (H : Heap) (locs : List Loc) (ls : Array Slot), va_P g.1 vwCl (pM g aM XM) H → va_D A (pM g aM XM) → va_S A s.heap H locs → lv_has ls 3 [(0, .ref (aM 0)), (1, .int x1), (2, .int x2)] → j58 x1 x2 XM = some XMz → W p l e (headSpec wsX6_goesOn rmX6_goesOn).room s m args below meth c H locs 0 0 Q0 (F0 m 58 ls []) := by
    intro x1 x2 XM H locs ls hP hD hS hl hf
    rw [ej58] at hf
    refine lv_iload_n hx hb dX6_goesOn_58 rfl (lv_at hl 1 rfl) ?_
    refine lv_aload_n hx hb dX6_goesOn_59 rfl (lv_at hl 0 rfl) ?_
    refine va_get (D := g.1) (ci := 6) (v := .int (XM 9 0)) (C := RX6) (T := TX6) (N := 19) hx hb hts i_X6 hown hK hP 0 rfl rfl 9 (by decide) (hts (.fieldLink RX6 45 "WordFlasherModel" "words" "I") (List.mem_of_getElem? (i := 2) rfl)) (fun _ h9 => h9) rfl dX6_goesOn_60 ?_
    obtain ⟨j90, ej90, hf⟩ := sl_el hf
    have J_90 : ∀ (x1 : Int32) (XM : DM) (H : Heap) (locs : List Loc) (ls : Array Slot), va_P g.1 vwCl (pM g aM XM) H → va_D A (pM g aM XM) → va_S A s.heap H locs → lv_has ls 3 [(0, .ref (aM 0)), (1, .int x1)] → j90 x1 XM = some XMz → W p l e (headSpec wsX6_goesOn rmX6_goesOn).room s m args below meth c H locs 0 0 Q0 (F0 m 90 ls []) := by
      intro x1 XM H locs ls hP hD hS hl hf
      rw [ej90] at hf
      refine lv_aload_n hx hb dX6_goesOn_90 rfl (lv_at hl 0 rfl) ?_
      refine lv_iload_n hx hb dX6_goesOn_91 rfl (lv_at hl 1 rfl) ?_
      refine lv_aload_n hx hb dX6_goesOn_92 rfl (lv_at hl 0 rfl) ?_
      refine va_get (D := g.1) (ci := 6) (v := .int (XM 9 0)) (C := RX6) (T := TX6) (N := 19) hx hb hts i_X6 hown hK hP 0 rfl rfl 9 (by decide) (hts (.fieldLink RX6 45 "WordFlasherModel" "words" "I") (List.mem_of_getElem? (i := 2) rfl)) (fun _ h9 => h9) rfl dX6_goesOn_93 ?_
      obtain ⟨j104, ej104, hf⟩ := sl_el hf
      have J_104 : ∀ (k1 : Int32) (XM : DM) (H : Heap) (locs : List Loc) (ls : Array Slot), va_P g.1 vwCl (pM g aM XM) H → va_D A (pM g aM XM) → va_S A s.heap H locs → lv_has ls 3 [] → j104 k1 XM = some XMz → W p l e (headSpec wsX6_goesOn rmX6_goesOn).room s m args below meth c H locs 0 0 Q0 (F0 m 104 ls [.int k1, .ref (aM 0)]) := by
        intro k1 XM H locs ls hP hD hS hl hf
        rw [ej104] at hf
        obtain ⟨X16, h17, hf⟩ := bnd_el hf
        refine wr_v (rest := []) (wc := (pM g aM XM)) (wc' := (pM g aM X16)) (ws2 := (pM g aM X16)) hP hD hS hA [0, 1, 2, 3, 4, 5, 6, 7, 8, 9, 10, 11] rfl rfl (by rfl) (rnV (As := [.int k1]) ⟨hx, hb, hml, hown, hts⟩ (c_X6_becomes l g aM _ _ _ _ h17) (cwV 1 hts gX6_goesOn_X6_becomes rfl rfl rfl (by decide +kernel) ⟨Nat.le_of_ble_eq_true rfl, Nat.le_of_ble_eq_true rfl⟩) hKW hP hD [0, 1, 2, 3, 4, 5, 6, 7, 8, 9, 10, 11] (by decide) rfl (va_recv hK hP (ci := 6) (q0 := 0) rfl rfl) rfl hl.1 rfl (lv_room (Nat.le_of_ble_eq_true rfl)) dX6_goesOn_104 ⟨Nat.zero_le _, Nat.zero_le _⟩) (fun H locs hP hD hS => ?_)
        have er0 := Option.some.inj hf
        rw [← hQ0]; exact W.vret hx hb hr (fun t ht hW => ⟨⟨(), rfl, trivial, by dsimp only; rw [ht, ← er0]; exact hP⟩, hS.F ht⟩) hS.2.2 dX6_goesOn_107
      refine lv_icmp_ge (tgt := 103) hx hb dX6_goesOn_96 (by decide) (fun c18 => ?_) (fun c18 => ?_)
      · have hf := ite_t hf c18
        refine lv_iconst (v := (-1)) hx hb dX6_goesOn_103 (by decide) ?_
        exact J_104 (-1) XM _ _ ls hP hD hS (lv_sub hl [] rfl) hf
      · have hf := ite_f hf c18
        refine lv_iload_n hx hb dX6_goesOn_99 rfl (lv_at hl 1 rfl) ?_
        refine lv_goto (tgt := 104) hx hb dX6_goesOn_100 (by decide) ?_
        exact J_104 x1 XM _ _ ls hP hD hS (lv_sub hl [] rfl) hf
    refine lv_icmp_ge (tgt := 90) hx hb dX6_goesOn_63 (by decide) (fun c19 => ?_) (fun c19 => ?_)
    · have hf := ite_t hf c19
      exact J_90 x1 XM _ _ ls hP hD hS (lv_sub hl [0, 1] rfl) hf
    · have hf := ite_f hf c19
      refine lv_aload_n hx hb dX6_goesOn_66 rfl (lv_at hl 0 rfl) ?_
      refine va_get (D := g.1) (ci := 6) (v := .ref (aM 10)) (C := RX6) (T := TX6) (N := 19) hx hb hts i_X6 hown hK hP 0 rfl rfl 17 (by decide) (hts (.fieldLink RX6 39 "WordFlasherModel" "sentenceOf" "[I") (List.mem_of_getElem? (i := 3) rfl)) (fun _ h9 => h9) rfl dX6_goesOn_67 ?_
      refine lv_iload_n hx hb dX6_goesOn_70 rfl (lv_at hl 1 rfl) ?_
      obtain ⟨h22, v20, e21, hf⟩ := rdA_el hf
      refine va_iald hx hb hK hP 10 0 rfl rfl h22 dX6_goesOn_71 ?_
      refine lv_as e21 ?_
      refine lv_aload_n hx hb dX6_goesOn_72 rfl (lv_at hl 0 rfl) ?_
      refine va_get (D := g.1) (ci := 6) (v := .ref (aM 10)) (C := RX6) (T := TX6) (N := 19) hx hb hts i_X6 hown hK hP 0 rfl rfl 17 (by decide) (hts (.fieldLink RX6 39 "WordFlasherModel" "sentenceOf" "[I") (List.mem_of_getElem? (i := 3) rfl)) (fun _ h9 => h9) rfl dX6_goesOn_73 ?_
      refine lv_iload_n hx hb dX6_goesOn_76 rfl (lv_at hl 2 rfl) ?_
      obtain ⟨h25, v23, e24, hf⟩ := rdA_el hf
      refine va_iald hx hb hK hP 10 0 rfl rfl h25 dX6_goesOn_77 ?_
      refine lv_as e24 ?_
      refine lv_icmp_eq (tgt := 90) hx hb dX6_goesOn_78 (by decide) (fun c26 => ?_) (fun c26 => ?_)
      · have hf := ite_t hf c26
        exact J_90 x1 XM _ _ ls hP hD hS (lv_sub hl [0, 1] rfl) hf
      · have hf := ite_f hf c26
        refine lv_aload_n hx hb dX6_goesOn_81 rfl (lv_at hl 0 rfl) ?_
        refine va_get (D := g.1) (ci := 6) (v := .ref (aM 1)) (C := RX6) (T := TX6) (N := 19) hx hb hts i_X6 hown hK hP 0 rfl rfl 0 (by decide) (hts (.fieldLink RX6 7 "WordFlasherModel" "d" "[I") (List.mem_of_getElem? (i := 1) rfl)) (fun _ h9 => h9) rfl dX6_goesOn_82 ?_
        refine lv_sipush (v := 344) hx hb dX6_goesOn_85 (by decide) ?_
        refine lv_iconst (v := 0) hx hb dX6_goesOn_88 (by decide) ?_
        obtain ⟨h29, f27, e28, hf⟩ := wrA_el hf
        obtain ⟨X30, e31, hf⟩ := sl_el hf
        refine va_iast hx hb hK hP hD hS 1 0 rfl rfl h29 dX6_goesOn_89 (fun H locs hP hD hS => ?_)
        have hP : va_P g.1 vwCl (pM g aM X30) H := by subst e31; subst e28; exact hP
        have hD : va_D A (pM g aM X30) := by subst e31; subst e28; exact hD
        exact J_90 x1 X30 _ _ ls hP hD hS (lv_sub hl [0, 1] rfl) hf
  have L_31 : ∀ fu : Nat, ∀ (x1 x2 : Int32) (XM : DM) (H : Heap) (locs : List Loc) (ls : Array Slot), va_P g.1 vwCl (pM g aM XM) H → va_D A (pM g aM XM) → va_S A s.heap H locs → lv_has ls 3 [(0, .ref (aM 0)), (1, .int x1), (2, .int x2)] → fX6_goesOn_L31 n j58 fu x1 x2 XM = some XMz → W p l e (headSpec wsX6_goesOn rmX6_goesOn).room s m args below meth c H locs 0 0 Q0 (F0 m 31 ls []) := by
    intro fu
    induction fu with
    | zero => intros; rename_i hf; rw [fX6_goesOn_L31] at hf; cases hf
    | succ fu ih =>
      intro x1 x2 XM H locs ls hP hD hS hl hf
      rw [fX6_goesOn_L31] at hf
      refine lv_iload_n hx hb dX6_goesOn_31 rfl (lv_at hl 1 rfl) ?_
      refine lv_aload_n hx hb dX6_goesOn_32 rfl (lv_at hl 0 rfl) ?_
      refine va_get (D := g.1) (ci := 6) (v := .int (XM 9 0)) (C := RX6) (T := TX6) (N := 19) hx hb hts i_X6 hown hK hP 0 rfl rfl 9 (by decide) (hts (.fieldLink RX6 45 "WordFlasherModel" "words" "I") (List.mem_of_getElem? (i := 2) rfl)) (fun _ h9 => h9) rfl dX6_goesOn_33 ?_
      refine lv_icmp_ge (tgt := 58) hx hb dX6_goesOn_36 (by decide) (fun c32 => ?_) (fun c32 => ?_)
      · have hf := ite_t hf c32
        exact J_58 x1 x2 XM _ _ ls hP hD hS (lv_sub hl [0, 1, 2] rfl) hf
      · have hf := ite_f hf c32
        refine lv_aload_n hx hb dX6_goesOn_39 rfl (lv_at hl 0 rfl) ?_
        refine lv_iload_n hx hb dX6_goesOn_40 rfl (lv_at hl 1 rfl) ?_
        obtain ⟨r33, h34, hf⟩ := bnd_el hf
        refine rdV (As := [.int x1]) (rest := []) ⟨hx, hb, hml, hown, hts⟩ (c_X6_isShown l g aM _ _ _ h34) (cwV 1 hts gX6_goesOn_X6_isShown rfl rfl rfl (by decide +kernel) ⟨Nat.le_of_ble_eq_true rfl, Nat.le_of_ble_eq_true rfl⟩) hKW hP [0, 1, 2, 3, 4, 5, 6, 7, 8, 9, 10, 11] rfl (va_recv hK hP (ci := 6) (q0 := 0) rfl rfl) rfl hl.1 rfl (lv_room (Nat.le_of_ble_eq_true rfl)) dX6_goesOn_41 ⟨Nat.zero_le _, Nat.zero_le _⟩ (fun r35 q36 => ?_)
        obtain ⟨q36, nb37⟩ := q36
        refine lv_as q36.symm ?_
        rw [q36] at nb37
        refine lv_if_ne (tgt := 58) hx hb dX6_goesOn_44 (by decide) (fun c38 => ?_) (fun c38 => ?_)
        · have hf := ite_f hf c38
          exact J_58 x1 x2 XM _ _ ls hP hD hS (lv_sub hl [0, 1, 2] rfl) hf
        · have hf := ite_t hf c38
          refine lv_aload_n hx hb dX6_goesOn_47 rfl (lv_at hl 0 rfl) ?_
          refine lv_iload_n hx hb dX6_goesOn_48 rfl (lv_at hl 1 rfl) ?_
          obtain ⟨X39, h40, hf⟩ := bnd_el hf
          refine wr_v (rest := []) (wc := (pM g aM XM)) (wc' := (pM g aM X39)) (ws2 := (pM g aM X39)) hP hD hS hA [0, 1, 2, 3, 4, 5, 6, 7, 8, 9, 10, 11] rfl rfl (by rfl) (rnV (As := [.int x1]) ⟨hx, hb, hml, hown, hts⟩ (c_X6_goesWell l g aM _ _ _ _ _ h40) (cwV 1 hts gX6_goesOn_X6_goesWell rfl rfl rfl (by decide +kernel) ⟨Nat.le_of_ble_eq_true rfl, Nat.le_of_ble_eq_true rfl⟩) hKW hP hD [0, 1, 2, 3, 4, 5, 6, 7, 8, 9, 10, 11] (by decide) rfl (va_recv hK hP (ci := 6) (q0 := 0) rfl rfl) rfl hl.1 rfl (lv_room (Nat.le_of_ble_eq_true rfl)) dX6_goesOn_49 ⟨Nat.zero_le _, Nat.zero_le _⟩) (fun H locs hP hD hS => ?_)
          obtain ⟨v41, e42, hf⟩ := sl_el hf
          refine lv_iinc (v := v41) (lv' := [(1, .int v41), (0, .ref (aM 0)), (2, .int x2)]) hx hb dX6_goesOn_52 hl (k := 1) rfl (by rw [e42]; rfl) (by decide) rfl (fun ls hl => ?_)
          refine lv_goto (tgt := 31) hx hb dX6_goesOn_55 (by decide) ?_
          exact ih v41 x2 X39 _ _ ls hP hD hS (lv_sub hl [1, 0, 2] rfl) hf
  exact L_31 n v14 v1 X12 _ _ ls hP hD hS (lv_sub hl [2, 0, 1] rfl) hf
abbrev rmX6_goes : Room := { frames := 5, cells := 0, slots := 0, locals := 110 }
set_option maxHeartbeats 8000000 in
set_option maxRecDepth 100000 in
theorem c_X6_goes (l : Launch) (g : GG) (aM : Nat → Nat) (sz : Nat) (n : Nat) (XM : DM) (p1 : Int32) (r : Int32) (XMz : DM) (hf : fX6_goes n XM p1 = some (r, XMz)) : Met l yX6_goes wsX6_goes rmX6_goes (va_Pc [.ref (aM 0), .int p1] (fun U => U.heap.size = sz ∧ va_P g.1 vwCl (pM g aM XM) U.heap ∧ KW g U ∧ va_D (fun _ => True) (pM g aM XM))) (va_Qi (fun r' (_ : Unit) => r' = r ∧ True) (fun (_ : Unit) t => va_P g.1 vwCl (pM g aM XMz) t.heap) (va_A (pM g aM XM) sz)) 0 0 (va_A (pM g aM XM) sz) := by
  refine Met.ofW (cc := cX6_goes) (maxL := 5) (ret := (some .int)) (by decide) rfl ?_
  intro p e s m args below meth c s₁ B hml hv
  obtain ⟨hargs, hsz, hP, hKW, hD0⟩ := hv
  have hK := hKW.1
  have hx := B.exec
  have hb := B.bytes
  have hr := B.returns
  have hts := atoms_spec (ws := wsX6_goes) B.pre
  have hown : s.vm.findClass RX6 = some m.cls := findClass_of_methodNamed B.named
  have hlocks := B.notSynchronized
  subst hsz
  have hD := hD0.self (sz := s.heap.size)
  generalize hAe : va_A (pM g aM XM) s.heap.size = A at hD ⊢
  have hA : ∀ q : Nat, s.heap.size ≤ q → A q := fun q h => by rw [← hAe]; exact Or.inr h
  have hS : va_S A s.heap s.heap [] := va_S.rf
  have i_X6 : ∀ w ∈ wsX60, w ∈ wsX6_goes := fun w h => List.mem_cons_of_mem _ (List.mem_append_right _ h)
  have hent : entryFrame m args 5 = F0 m 0 ((lg_sl ([.ref (aM 0), .int p1]) ++ List.replicate (5 - (lg_sl ([.ref (aM 0), .int p1])).length) Slot.unset).toArray) [] := by rw [hargs]; exact lg_entry_eq _ _ _
  rw [hent]
  have hl := lv_entry ([.ref (aM 0), .int p1]) (n := 5) (Nat.le_of_ble_eq_true rfl)
  generalize (lg_sl ([.ref (aM 0), .int p1]) ++ List.replicate (5 - (lg_sl ([.ref (aM 0), .int p1])).length) Slot.unset).toArray = ls at hl ⊢
  have hl : lv_has ls 5 [(0, .ref (aM 0)), (1, .int p1)] := hl
  generalize hQ0 : MQ below _ _ _ _ _ _ = Q0
  unfold fX6_goes at hf
  refine lv_iload_n hx hb dX6_goes_0 rfl (lv_at hl 1 rfl) ?_
  refine lv_istore_n (lv' := [(2, .int p1), (0, .ref (aM 0)), (1, .int p1)]) hx hb dX6_goes_1 rfl hl (by decide) rfl (fun ls hl => ?_)
  refine lv_iconst (v := 0) hx hb dX6_goes_2 (by decide) ?_
  refine lv_istore_n (lv' := [(3, .int 0), (2, .int p1), (0, .ref (aM 0)), (1, .int p1)]) hx hb dX6_goes_3 rfl hl (by decide) rfl (fun ls hl => ?_)
  have L_4 : ∀ fu : Nat, ∀ (x2 x3 : Int32) (XM : DM) (H : Heap) (locs : List Loc) (ls : Array Slot), va_P g.1 vwCl (pM g aM XM) H → va_D A (pM g aM XM) → va_S A s.heap H locs → lv_has ls 5 [(0, .ref (aM 0)), (2, .int x2), (3, .int x3)] → fX6_goes_L4 n fu x2 x3 XM = some (r, XMz) → W p l e (headSpec wsX6_goes rmX6_goes).room s m args below meth c H locs 0 0 Q0 (F0 m 4 ls []) := by
    intro fu
    induction fu with
    | zero => intros; rename_i hf; rw [fX6_goes_L4] at hf; cases hf
    | succ fu ih =>
      intro x2 x3 XM H locs ls hP hD hS hl hf
      rw [fX6_goes_L4] at hf
      refine lv_iload_n hx hb dX6_goes_4 rfl (lv_at hl 1 rfl) ?_
      refine lv_if_le (tgt := 98) hx hb dX6_goes_5 (by decide) (fun c1 => ?_) (fun c1 => ?_)
      · have hf := ite_t hf c1
        refine lv_iload_n hx hb dX6_goes_98 rfl (lv_at hl 2 rfl) ?_
        have er0 := Option.some.inj hf
        obtain ⟨er0, er1⟩ := Prod.mk.inj er0
        rw [← hQ0]; exact W.iret (v := x3) hx hb hr (fun t ht hW => ⟨⟨x3, (), rfl, ⟨er0, trivial⟩, by dsimp only; rw [ht, ← er1]; exact hP⟩, hS.F ht⟩) hS.2.2 dX6_goes_99
      · have hf := ite_f hf c1
        refine lv_aload_n hx hb dX6_goes_8 rfl (lv_at hl 0 rfl) ?_
        refine va_get (D := g.1) (ci := 6) (v := .ref (aM 1)) (C := RX6) (T := TX6) (N := 19) hx hb hts i_X6 hown hK hP 0 rfl rfl 0 (by decide) (hts (.fieldLink RX6 7 "WordFlasherModel" "d" "[I") (List.mem_of_getElem? (i := 1) rfl)) (fun _ h9 => h9) rfl dX6_goes_9 ?_
        refine lv_sipush (v := 301) hx hb dX6_goes_12 (by decide) ?_
        obtain ⟨h4, v2, e3, hf⟩ := rdA_el hf
        refine va_iald hx hb hK hP 1 0 rfl rfl h4 dX6_goes_15 ?_
        refine lv_as e3 ?_
        refine lv_iconst (v := (-1)) hx hb dX6_goes_16 (by decide) ?_
        refine lv_icmp_eq (tgt := 98) hx hb dX6_goes_17 (by decide) (fun c5 => ?_) (fun c5 => ?_)
        · have hf := ite_t hf c5
          refine lv_iload_n hx hb dX6_goes_98 rfl (lv_at hl 2 rfl) ?_
          have er0 := Option.some.inj hf
          obtain ⟨er0, er1⟩ := Prod.mk.inj er0
          rw [← hQ0]; exact W.iret (v := x3) hx hb hr (fun t ht hW => ⟨⟨x3, (), rfl, ⟨er0, trivial⟩, by dsimp only; rw [ht, ← er1]; exact hP⟩, hS.F ht⟩) hS.2.2 dX6_goes_99
        · have hf := ite_f hf c5
          refine lv_iload_n hx hb dX6_goes_20 rfl (lv_at hl 1 rfl) ?_
          refine lv_aload_n hx hb dX6_goes_21 rfl (lv_at hl 0 rfl) ?_
          refine va_get (D := g.1) (ci := 6) (v := .ref (aM 1)) (C := RX6) (T := TX6) (N := 19) hx hb hts i_X6 hown hK hP 0 rfl rfl 0 (by decide) (hts (.fieldLink RX6 7 "WordFlasherModel" "d" "[I") (List.mem_of_getElem? (i := 1) rfl)) (fun _ h9 => h9) rfl dX6_goes_22 ?_
          refine lv_sipush (v := 302) hx hb dX6_goes_25 (by decide) ?_
          obtain ⟨h8, v6, e7, hf⟩ := rdA_el hf
          refine va_iald hx hb hK hP 1 0 rfl rfl h8 dX6_goes_28 ?_
          refine lv_as e7 ?_
          obtain ⟨j44, ej44, hf⟩ := sl_el hf
          have J_44 : ∀ (x2 x3 k0 : Int32) (XM : DM) (H : Heap) (locs : List Loc) (ls : Array Slot), va_P g.1 vwCl (pM g aM XM) H → va_D A (pM g aM XM) → va_S A s.heap H locs → lv_has ls 5 [(0, .ref (aM 0)), (2, .int x2), (3, .int x3)] → j44 x2 x3 k0 XM = some (r, XMz) → W p l e (headSpec wsX6_goes rmX6_goes).room s m args below meth c H locs 0 0 Q0 (F0 m 44 ls [.int k0]) := by
            intro x2 x3 k0 XM H locs ls hP hD hS hl hf
            rw [ej44] at hf
            refine lv_istore (lv' := [(4, .int k0), (0, .ref (aM 0)), (2, .int x2), (3, .int x3)]) hx hb dX6_goes_44 hl (by decide) rfl (fun ls hl => ?_)
            refine lv_iload_n hx hb dX6_goes_46 rfl (lv_at hl 2 rfl) ?_
            refine lv_iload hx hb dX6_goes_47 (lv_at hl 0 rfl) ?_
            refine lv_isub hx hb dX6_goes_49 ?_
            obtain ⟨v9, e10, hf⟩ := sl_el hf
            refine lv_as e10 ?_
            refine lv_istore_n (lv' := [(2, .int v9), (4, .int k0), (0, .ref (aM 0)), (3, .int x3)]) hx hb dX6_goes_50 rfl hl (by decide) rfl (fun ls hl => ?_)
            refine lv_aload_n hx hb dX6_goes_51 rfl (lv_at hl 2 rfl) ?_
            refine va_get (D := g.1) (ci := 6) (v := .ref (aM 1)) (C := RX6) (T := TX6) (N := 19) hx hb hts i_X6 hown hK hP 0 rfl rfl 0 (by decide) (hts (.fieldLink RX6 7 "WordFlasherModel" "d" "[I") (List.mem_of_getElem? (i := 1) rfl)) (fun _ h9 => h9) rfl dX6_goes_52 ?_
            refine lv_sipush (v := 302) hx hb dX6_goes_55 (by decide) ?_
            refine lv_dup2_11 hx hb dX6_goes_58 rfl rfl ?_
            obtain ⟨h13, v11, e12, hf⟩ := rdA_el hf
            refine va_iald hx hb hK hP 1 0 rfl rfl h13 dX6_goes_59 ?_
            refine lv_as e12 ?_
            refine lv_iload hx hb dX6_goes_60 (lv_at hl 1 rfl) ?_
            refine lv_isub hx hb dX6_goes_62 ?_
            obtain ⟨h16, f14, e15, hf⟩ := wrA_el hf
            obtain ⟨X17, e18, hf⟩ := sl_el hf
            refine va_iast hx hb hK hP hD hS 1 0 rfl rfl h16 dX6_goes_63 (fun H locs hP hD hS => ?_)
            have hP : va_P g.1 vwCl (pM g aM X17) H := by subst e18; subst e15; exact hP
            have hD : va_D A (pM g aM X17) := by subst e18; subst e15; exact hD
            refine lv_aload_n hx hb dX6_goes_64 rfl (lv_at hl 2 rfl) ?_
            refine va_get (D := g.1) (ci := 6) (v := .ref (aM 1)) (C := RX6) (T := TX6) (N := 19) hx hb hts i_X6 hown hK hP 0 rfl rfl 0 (by decide) (hts (.fieldLink RX6 7 "WordFlasherModel" "d" "[I") (List.mem_of_getElem? (i := 1) rfl)) (fun _ h9 => h9) rfl dX6_goes_65 ?_
            refine lv_sipush (v := 345) hx hb dX6_goes_68 (by decide) ?_
            refine lv_dup2_11 hx hb dX6_goes_71 rfl rfl ?_
            obtain ⟨h21, v19, e20, hf⟩ := rdA_el hf
            refine va_iald hx hb hK hP 1 0 rfl rfl h21 dX6_goes_72 ?_
            refine lv_as e20 ?_
            refine lv_iload hx hb dX6_goes_73 (lv_at hl 1 rfl) ?_
            refine lv_iadd hx hb dX6_goes_75 ?_
            obtain ⟨h24, f22, e23, hf⟩ := wrA_el hf
            obtain ⟨X25, e26, hf⟩ := sl_el hf
            refine va_iast hx hb hK hP hD hS 1 0 rfl rfl h24 dX6_goes_76 (fun H locs hP hD hS => ?_)
            have hP : va_P g.1 vwCl (pM g aM X25) H := by subst e26; subst e23; exact hP
            have hD : va_D A (pM g aM X25) := by subst e26; subst e23; exact hD
            refine lv_aload_n hx hb dX6_goes_77 rfl (lv_at hl 2 rfl) ?_
            refine va_get (D := g.1) (ci := 6) (v := .ref (aM 1)) (C := RX6) (T := TX6) (N := 19) hx hb hts i_X6 hown hK hP 0 rfl rfl 0 (by decide) (hts (.fieldLink RX6 7 "WordFlasherModel" "d" "[I") (List.mem_of_getElem? (i := 1) rfl)) (fun _ h9 => h9) rfl dX6_goes_78 ?_
            refine lv_sipush (v := 302) hx hb dX6_goes_81 (by decide) ?_
            obtain ⟨h29, v27, e28, hf⟩ := rdA_el hf
            refine va_iald hx hb hK hP 1 0 rfl rfl h29 dX6_goes_84 ?_
            refine lv_as e28 ?_
            obtain ⟨j95, ej95, hf⟩ := sl_el hf
            have J_95 : ∀ (x2 x3 : Int32) (XM : DM) (H : Heap) (locs : List Loc) (ls : Array Slot), va_P g.1 vwCl (pM g aM XM) H → va_D A (pM g aM XM) → va_S A s.heap H locs → lv_has ls 5 [(0, .ref (aM 0)), (2, .int x2), (3, .int x3)] → j95 x2 x3 XM = some (r, XMz) → W p l e (headSpec wsX6_goes rmX6_goes).room s m args below meth c H locs 0 0 Q0 (F0 m 95 ls []) := by
              intro x2 x3 XM H locs ls hP hD hS hl hf
              rw [ej95] at hf
              refine lv_goto (tgt := 4) hx hb dX6_goes_95 (by decide) ?_
              exact ih x2 x3 XM _ _ ls hP hD hS (lv_sub hl [0, 1, 2] rfl) hf
            refine lv_if_ne (tgt := 95) hx hb dX6_goes_85 (by decide) (fun c30 => ?_) (fun c30 => ?_)
            · have hf := ite_f hf c30
              exact J_95 v9 x3 X25 _ _ ls hP hD hS (lv_sub hl [2, 0, 3] rfl) hf
            · have hf := ite_t hf c30
              refine lv_aload_n hx hb dX6_goes_88 rfl (lv_at hl 2 rfl) ?_
              obtain ⟨X31, h32, hf⟩ := bnd_el hf
              refine wr_v (rest := []) (wc := (pM g aM X25)) (wc' := (pM g aM X31)) (ws2 := (pM g aM X31)) hP hD hS hA [0, 1, 2, 3, 4, 5, 6, 7, 8, 9, 10, 11] rfl rfl (by rfl) (rnV (As := []) ⟨hx, hb, hml, hown, hts⟩ (c_X6_goesOn l g aM _ _ _ _ h32) (cwV 0 hts gX6_goes_X6_goesOn rfl rfl rfl (by decide +kernel) ⟨Nat.le_of_ble_eq_true rfl, Nat.le_of_ble_eq_true rfl⟩) hKW hP hD [0, 1, 2, 3, 4, 5, 6, 7, 8, 9, 10, 11] (by decide) rfl (va_recv hK hP (ci := 6) (q0 := 0) rfl rfl) rfl hl.1 rfl (lv_room (Nat.le_of_ble_eq_true rfl)) dX6_goes_89 ⟨Nat.zero_le _, Nat.zero_le _⟩) (fun H locs hP hD hS => ?_)
              obtain ⟨v33, e34, hf⟩ := sl_el hf
              refine lv_iinc (v := v33) (lv' := [(3, .int v33), (2, .int v9), (4, .int k0), (0, .ref (aM 0))]) hx hb dX6_goes_92 hl (k := 3) rfl (by rw [e34]; rfl) (by decide) rfl (fun ls hl => ?_)
              exact J_95 v9 v33 X31 _ _ ls hP hD hS (lv_sub hl [3, 1, 0] rfl) hf
          refine lv_icmp_ge (tgt := 36) hx hb dX6_goes_29 (by decide) (fun c35 => ?_) (fun c35 => ?_)
          · have hf := ite_t hf c35
            refine lv_aload_n hx hb dX6_goes_36 rfl (lv_at hl 0 rfl) ?_
            refine va_get (D := g.1) (ci := 6) (v := .ref (aM 1)) (C := RX6) (T := TX6) (N := 19) hx hb hts i_X6 hown hK hP 0 rfl rfl 0 (by decide) (hts (.fieldLink RX6 7 "WordFlasherModel" "d" "[I") (List.mem_of_getElem? (i := 1) rfl)) (fun _ h9 => h9) rfl dX6_goes_37 ?_
            refine lv_sipush (v := 302) hx hb dX6_goes_40 (by decide) ?_
            obtain ⟨h38, v36, e37, hf⟩ := rdA_el hf
            refine va_iald hx hb hK hP 1 0 rfl rfl h38 dX6_goes_43 ?_
            refine lv_as e37 ?_
            exact J_44 x2 x3 v36 XM _ _ ls hP hD hS (lv_sub hl [0, 1, 2] rfl) hf
          · have hf := ite_f hf c35
            refine lv_iload_n hx hb dX6_goes_32 rfl (lv_at hl 1 rfl) ?_
            refine lv_goto (tgt := 44) hx hb dX6_goes_33 (by decide) ?_
            exact J_44 x2 x3 x2 XM _ _ ls hP hD hS (lv_sub hl [0, 1, 2] rfl) hf
  exact L_4 n p1 0 XM _ _ ls hP hD hS (lv_sub hl [2, 1, 0] rfl) hf
abbrev rmX6_alters : Room := { frames := 5, cells := 0, slots := 0, locals := 109 }
set_option maxHeartbeats 8000000 in
set_option maxRecDepth 100000 in
theorem c_X6_alters (l : Launch) (g : GG) (aM : Nat → Nat) (sz : Nat) (n : Nat) (XM : DM) (XMz : DM) (hf : fX6_alters n XM = some XMz) : Met l yX6_alters wsX6_alters rmX6_alters (va_Pc [.ref (aM 0)] (fun U => U.heap.size = sz ∧ va_P g.1 vwCl (pM g aM XM) U.heap ∧ KW g U ∧ va_D (fun _ => True) (pM g aM XM))) (va_Qv (fun (_ : Unit) => True) (fun (_ : Unit) t => va_P g.1 vwCl (pM g aM XMz) t.heap) (va_A (pM g aM XM) sz)) 0 0 (va_A (pM g aM XM) sz) := by
  refine Met.ofW (cc := cX6_alters) (maxL := 4) (ret := none) (by decide) rfl ?_
  intro p e s m args below meth c s₁ B hml hv
  obtain ⟨hargs, hsz, hP, hKW, hD0⟩ := hv
  have hK := hKW.1
  have hx := B.exec
  have hb := B.bytes
  have hr := B.returns
  have hts := atoms_spec (ws := wsX6_alters) B.pre
  have hown : s.vm.findClass RX6 = some m.cls := findClass_of_methodNamed B.named
  have hlocks := B.notSynchronized
  subst hsz
  have hD := hD0.self (sz := s.heap.size)
  generalize hAe : va_A (pM g aM XM) s.heap.size = A at hD ⊢
  have hA : ∀ q : Nat, s.heap.size ≤ q → A q := fun q h => by rw [← hAe]; exact Or.inr h
  have hS : va_S A s.heap s.heap [] := va_S.rf
  have i_X6 : ∀ w ∈ wsX60, w ∈ wsX6_alters := fun w h => List.mem_cons_of_mem _ (List.mem_append_right _ h)
  have hent : entryFrame m args 4 = F0 m 0 ((lg_sl ([.ref (aM 0)]) ++ List.replicate (4 - (lg_sl ([.ref (aM 0)])).length) Slot.unset).toArray) [] := by rw [hargs]; exact lg_entry_eq _ _ _
  rw [hent]
  have hl := lv_entry ([.ref (aM 0)]) (n := 4) (Nat.le_of_ble_eq_true rfl)
  generalize (lg_sl ([.ref (aM 0)]) ++ List.replicate (4 - (lg_sl ([.ref (aM 0)])).length) Slot.unset).toArray = ls at hl ⊢
  have hl : lv_has ls 4 [(0, .ref (aM 0))] := hl
  generalize hQ0 : MQ below _ _ _ _ _ _ = Q0
  unfold fX6_alters at hf
  refine lv_aload_n hx hb dX6_alters_0 rfl (lv_at hl 0 rfl) ?_
  obtain ⟨X1, h2, hf⟩ := bnd_el hf
  refine wr_v (rest := []) (wc := (pM g aM XM)) (wc' := (pM g aM X1)) (ws2 := (pM g aM X1)) hP hD hS hA [0, 1, 2, 3, 4, 5, 6, 7, 8, 9, 10, 11] rfl rfl (by rfl) (rnV (As := []) ⟨hx, hb, hml, hown, hts⟩ (c_X6_parses l g aM _ _ _ _ h2) (cwV 0 hts gX6_alters_X6_parses rfl rfl rfl (by decide +kernel) ⟨Nat.le_of_ble_eq_true rfl, Nat.le_of_ble_eq_true rfl⟩) hKW hP hD [0, 1, 2, 3, 4, 5, 6, 7, 8, 9, 10, 11] (by decide) rfl (va_recv hK hP (ci := 6) (q0 := 0) rfl rfl) rfl hl.1 rfl (lv_room (Nat.le_of_ble_eq_true rfl)) dX6_alters_1 ⟨Nat.zero_le _, Nat.zero_le _⟩) (fun H locs hP hD hS => ?_)
  refine lv_aload_n hx hb dX6_alters_4 rfl (lv_at hl 0 rfl) ?_
  refine va_get (D := g.1) (ci := 6) (v := .ref (aM 1)) (C := RX6) (T := TX6) (N := 19) hx hb hts i_X6 hown hK hP 0 rfl rfl 0 (by decide) (hts (.fieldLink RX6 7 "WordFlasherModel" "d" "[I") (List.mem_of_getElem? (i := 1) rfl)) (fun _ h9 => h9) rfl dX6_alters_5 ?_
  refine lv_sipush (v := 303) hx hb dX6_alters_8 (by decide) ?_
  refine lv_iconst (v := 0) hx hb dX6_alters_11 (by decide) ?_
  obtain ⟨h5, f3, e4, hf⟩ := wrA_el hf
  obtain ⟨X6, e7, hf⟩ := sl_el hf
  refine va_iast hx hb hK hP hD hS 1 0 rfl rfl h5 dX6_alters_12 (fun H locs hP hD hS => ?_)
  have hP : va_P g.1 vwCl (pM g aM X6) H := by subst e7; subst e4; exact hP
  have hD : va_D A (pM g aM X6) := by subst e7; subst e4; exact hD
  refine lv_aload_n hx hb dX6_alters_13 rfl (lv_at hl 0 rfl) ?_
  refine va_get (D := g.1) (ci := 6) (v := .ref (aM 1)) (C := RX6) (T := TX6) (N := 19) hx hb hts i_X6 hown hK hP 0 rfl rfl 0 (by decide) (hts (.fieldLink RX6 7 "WordFlasherModel" "d" "[I") (List.mem_of_getElem? (i := 1) rfl)) (fun _ h9 => h9) rfl dX6_alters_14 ?_
  refine lv_sipush (v := 344) hx hb dX6_alters_17 (by decide) ?_
  refine lv_iconst (v := 0) hx hb dX6_alters_20 (by decide) ?_
  obtain ⟨h10, f8, e9, hf⟩ := wrA_el hf
  obtain ⟨X11, e12, hf⟩ := sl_el hf
  refine va_iast hx hb hK hP hD hS 1 0 rfl rfl h10 dX6_alters_21 (fun H locs hP hD hS => ?_)
  have hP : va_P g.1 vwCl (pM g aM X11) H := by subst e12; subst e9; exact hP
  have hD : va_D A (pM g aM X11) := by subst e12; subst e9; exact hD
  refine lv_aload_n hx hb dX6_alters_22 rfl (lv_at hl 0 rfl) ?_
  refine va_get (D := g.1) (ci := 6) (v := .ref (aM 1)) (C := RX6) (T := TX6) (N := 19) hx hb hts i_X6 hown hK hP 0 rfl rfl 0 (by decide) (hts (.fieldLink RX6 7 "WordFlasherModel" "d" "[I") (List.mem_of_getElem? (i := 1) rfl)) (fun _ h9 => h9) rfl dX6_alters_23 ?_
  refine lv_sipush (v := 340) hx hb dX6_alters_26 (by decide) ?_
  refine lv_iconst (v := 0) hx hb dX6_alters_29 (by decide) ?_
  obtain ⟨h15, f13, e14, hf⟩ := wrA_el hf
  obtain ⟨X16, e17, hf⟩ := sl_el hf
  refine va_iast hx hb hK hP hD hS 1 0 rfl rfl h15 dX6_alters_30 (fun H locs hP hD hS => ?_)
  have hP : va_P g.1 vwCl (pM g aM X16) H := by subst e17; subst e14; exact hP
  have hD : va_D A (pM g aM X16) := by subst e17; subst e14; exact hD
  refine lv_aload_n hx hb dX6_alters_31 rfl (lv_at hl 0 rfl) ?_
  refine lv_aload_n hx hb dX6_alters_32 rfl (lv_at hl 0 rfl) ?_
  obtain ⟨r18, h19, hf⟩ := bnd_el hf
  refine rdV (As := []) (rest := [.ref (aM 0)]) ⟨hx, hb, hml, hown, hts⟩ (c_X6_firstShown l g aM _ _ _ h19) (cwV 0 hts gX6_alters_X6_firstShown rfl rfl rfl (by decide +kernel) ⟨Nat.le_of_ble_eq_true rfl, Nat.le_of_ble_eq_true rfl⟩) hKW hP [0, 1, 2, 3, 4, 5, 6, 7, 8, 9, 10, 11] rfl (va_recv hK hP (ci := 6) (q0 := 0) rfl rfl) rfl hl.1 rfl (lv_room (Nat.le_of_ble_eq_true rfl)) dX6_alters_33 ⟨Nat.zero_le _, Nat.zero_le _⟩ (fun r20 q21 => ?_)
  obtain ⟨q21, nb22⟩ := q21
  refine lv_as q21.symm ?_
  obtain ⟨X23, h24, hf⟩ := bnd_el hf
  refine wr_v (rest := []) (wc := (pM g aM X16)) (wc' := (pM g aM X23)) (ws2 := (pM g aM X23)) hP hD hS hA [0, 1, 2, 3, 4, 5, 6, 7, 8, 9, 10, 11] rfl rfl (by rfl) (rnV (As := [.int r18]) ⟨hx, hb, hml, hown, hts⟩ (c_X6_becomes l g aM _ _ _ _ h24) (cwV 1 hts gX6_alters_X6_becomes rfl rfl rfl (by decide +kernel) ⟨Nat.le_of_ble_eq_true rfl, Nat.le_of_ble_eq_true rfl⟩) hKW hP hD [0, 1, 2, 3, 4, 5, 6, 7, 8, 9, 10, 11] (by decide) rfl (va_recv hK hP (ci := 6) (q0 := 0) rfl rfl) rfl hl.1 rfl (lv_room (Nat.le_of_ble_eq_true rfl)) dX6_alters_36 ⟨Nat.zero_le _, Nat.zero_le _⟩) (fun H locs hP hD hS => ?_)
  refine lv_iconst (v := 0) hx hb dX6_alters_39 (by decide) ?_
  refine lv_istore_n (lv' := [(1, .int 0), (0, .ref (aM 0))]) hx hb dX6_alters_40 rfl hl (by decide) rfl (fun ls hl => ?_)
  refine lv_iconst (v := 0) hx hb dX6_alters_41 (by decide) ?_
  refine lv_istore_n (lv' := [(2, .int 0), (1, .int 0), (0, .ref (aM 0))]) hx hb dX6_alters_42 rfl hl (by decide) rfl (fun ls hl => ?_)
  obtain ⟨j122, ej122, hf⟩ := sl_el hf
  have J_122 : ∀ (x1 : Int32) (XM : DM) (H : Heap) (locs : List Loc) (ls : Array Slot), va_P g.1 vwCl (pM g aM XM) H → va_D A (pM g aM XM) → va_S A s.heap H locs → lv_has ls 4 [(0, .ref (aM 0)), (1, .int x1)] → j122 x1 XM = some XMz → W p l e (headSpec wsX6_alters rmX6_alters).room s m args below meth c H locs 0 0 Q0 (F0 m 122 ls []) := by
    intro x1 XM H locs ls hP hD hS hl hf
    rw [ej122] at hf
    refine lv_aload_n hx hb dX6_alters_122 rfl (lv_at hl 0 rfl) ?_
    refine va_get (D := g.1) (ci := 6) (v := .ref (aM 1)) (C := RX6) (T := TX6) (N := 19) hx hb hts i_X6 hown hK hP 0 rfl rfl 0 (by decide) (hts (.fieldLink RX6 7 "WordFlasherModel" "d" "[I") (List.mem_of_getElem? (i := 1) rfl)) (fun _ h9 => h9) rfl dX6_alters_123 ?_
    refine lv_sipush (v := 309) hx hb dX6_alters_126 (by decide) ?_
    refine lv_iload_n hx hb dX6_alters_129 rfl (lv_at hl 1 rfl) ?_
    obtain ⟨h27, f25, e26, hf⟩ := wrA_el hf
    obtain ⟨X28, e29, hf⟩ := sl_el hf
    refine va_iast hx hb hK hP hD hS 1 0 rfl rfl h27 dX6_alters_130 (fun H locs hP hD hS => ?_)
    have hP : va_P g.1 vwCl (pM g aM X28) H := by subst e29; subst e26; exact hP
    have hD : va_D A (pM g aM X28) := by subst e29; subst e26; exact hD
    have er0 := Option.some.inj hf
    rw [← hQ0]; exact W.vret hx hb hr (fun t ht hW => ⟨⟨(), rfl, trivial, by dsimp only; rw [ht, ← er0]; exact hP⟩, hS.F ht⟩) hS.2.2 dX6_alters_131
  have L_43 : ∀ fu : Nat, ∀ (x1 x2 : Int32) (XM : DM) (H : Heap) (locs : List Loc) (ls : Array Slot), va_P g.1 vwCl (pM g aM XM) H → va_D A (pM g aM XM) → va_S A s.heap H locs → lv_has ls 4 [(0, .ref (aM 0)), (1, .int x1), (2, .int x2)] → fX6_alters_L43 n j122 fu x1 x2 XM = some XMz → W p l e (headSpec wsX6_alters rmX6_alters).room s m args below meth c H locs 0 0 Q0 (F0 m 43 ls []) := by
    intro fu
    induction fu with
    | zero => intros; rename_i hf; rw [fX6_alters_L43] at hf; cases hf
    | succ fu ih =>
      intro x1 x2 XM H locs ls hP hD hS hl hf
      rw [fX6_alters_L43] at hf
      refine lv_iload_n hx hb dX6_alters_43 rfl (lv_at hl 2 rfl) ?_
      refine lv_aload_n hx hb dX6_alters_44 rfl (lv_at hl 0 rfl) ?_
      refine va_get (D := g.1) (ci := 6) (v := .ref (aM 1)) (C := RX6) (T := TX6) (N := 19) hx hb hts i_X6 hown hK hP 0 rfl rfl 0 (by decide) (hts (.fieldLink RX6 7 "WordFlasherModel" "d" "[I") (List.mem_of_getElem? (i := 1) rfl)) (fun _ h9 => h9) rfl dX6_alters_45 ?_
      refine lv_sipush (v := 309) hx hb dX6_alters_48 (by decide) ?_
      obtain ⟨h32, v30, e31, hf⟩ := rdA_el hf
      refine va_iald hx hb hK hP 1 0 rfl rfl h32 dX6_alters_51 ?_
      refine lv_as e31 ?_
      refine lv_icmp_ge (tgt := 122) hx hb dX6_alters_52 (by decide) (fun c33 => ?_) (fun c33 => ?_)
      · have hf := ite_t hf c33
        exact J_122 x1 XM _ _ ls hP hD hS (lv_sub hl [0, 1] rfl) hf
      · have hf := ite_f hf c33
        refine lv_aload_n hx hb dX6_alters_55 rfl (lv_at hl 0 rfl) ?_
        refine va_get (D := g.1) (ci := 6) (v := .ref (aM 1)) (C := RX6) (T := TX6) (N := 19) hx hb hts i_X6 hown hK hP 0 rfl rfl 0 (by decide) (hts (.fieldLink RX6 7 "WordFlasherModel" "d" "[I") (List.mem_of_getElem? (i := 1) rfl)) (fun _ h9 => h9) rfl dX6_alters_56 ?_
        refine lv_sipush (v := 310) hx hb dX6_alters_59 (by decide) ?_
        refine lv_iload_n hx hb dX6_alters_62 rfl (lv_at hl 2 rfl) ?_
        refine lv_iadd hx hb dX6_alters_63 ?_
        obtain ⟨h36, v34, e35, hf⟩ := rdA_el hf
        refine va_iald hx hb hK hP 1 0 rfl rfl h36 dX6_alters_64 ?_
        refine lv_as e35 ?_
        refine lv_istore_n (lv' := [(3, .int v34), (0, .ref (aM 0)), (1, .int x1), (2, .int x2)]) hx hb dX6_alters_65 rfl hl (by decide) rfl (fun ls hl => ?_)
        refine lv_iload_n hx hb dX6_alters_66 rfl (lv_at hl 0 rfl) ?_
        refine lv_aload_n hx hb dX6_alters_67 rfl (lv_at hl 1 rfl) ?_
        refine va_get (D := g.1) (ci := 6) (v := .int (XM 9 0)) (C := RX6) (T := TX6) (N := 19) hx hb hts i_X6 hown hK hP 0 rfl rfl 9 (by decide) (hts (.fieldLink RX6 45 "WordFlasherModel" "words" "I") (List.mem_of_getElem? (i := 2) rfl)) (fun _ h9 => h9) rfl dX6_alters_68 ?_
        obtain ⟨j116, ej116, hf⟩ := sl_el hf
        have J_116 : ∀ (x1 x2 : Int32) (XM : DM) (H : Heap) (locs : List Loc) (ls : Array Slot), va_P g.1 vwCl (pM g aM XM) H → va_D A (pM g aM XM) → va_S A s.heap H locs → lv_has ls 4 [(0, .ref (aM 0)), (1, .int x1), (2, .int x2)] → j116 x1 x2 XM = some XMz → W p l e (headSpec wsX6_alters rmX6_alters).room s m args below meth c H locs 0 0 Q0 (F0 m 116 ls []) := by
          intro x1 x2 XM H locs ls hP hD hS hl hf
          rw [ej116] at hf
          obtain ⟨v37, e38, hf⟩ := sl_el hf
          refine lv_iinc (v := v37) (lv' := [(2, .int v37), (0, .ref (aM 0)), (1, .int x1)]) hx hb dX6_alters_116 hl (k := 2) rfl (by rw [e38]; rfl) (by decide) rfl (fun ls hl => ?_)
          refine lv_goto (tgt := 43) hx hb dX6_alters_119 (by decide) ?_
          exact ih x1 v37 XM _ _ ls hP hD hS (lv_sub hl [1, 2, 0] rfl) hf
        refine lv_icmp_ge (tgt := 116) hx hb dX6_alters_71 (by decide) (fun c39 => ?_) (fun c39 => ?_)
        · have hf := ite_t hf c39
          exact J_116 x1 x2 XM _ _ ls hP hD hS (lv_sub hl [1, 2, 3] rfl) hf
        · have hf := ite_f hf c39
          refine lv_aload_n hx hb dX6_alters_74 rfl (lv_at hl 1 rfl) ?_
          refine lv_iload_n hx hb dX6_alters_75 rfl (lv_at hl 0 rfl) ?_
          obtain ⟨r40, h41, hf⟩ := bnd_el hf
          refine rdV (As := [.int v34]) (rest := []) ⟨hx, hb, hml, hown, hts⟩ (c_X6_isShown l g aM _ _ _ h41) (cwV 1 hts gX6_alters_X6_isShown rfl rfl rfl (by decide +kernel) ⟨Nat.le_of_ble_eq_true rfl, Nat.le_of_ble_eq_true rfl⟩) hKW hP [0, 1, 2, 3, 4, 5, 6, 7, 8, 9, 10, 11] rfl (va_recv hK hP (ci := 6) (q0 := 0) rfl rfl) rfl hl.1 rfl (lv_room (Nat.le_of_ble_eq_true rfl)) dX6_alters_76 ⟨Nat.zero_le _, Nat.zero_le _⟩ (fun r42 q43 => ?_)
          obtain ⟨q43, nb44⟩ := q43
          refine lv_as q43.symm ?_
          rw [q43] at nb44
          refine lv_if_eq (tgt := 116) hx hb dX6_alters_79 (by decide) (fun c45 => ?_) (fun c45 => ?_)
          · have hf := ite_t hf c45
            exact J_116 x1 x2 XM _ _ ls hP hD hS (lv_sub hl [1, 2, 3] rfl) hf
          · have hf := ite_f hf c45
            refine lv_aload_n hx hb dX6_alters_82 rfl (lv_at hl 1 rfl) ?_
            refine va_get (D := g.1) (ci := 6) (v := .ref (aM 1)) (C := RX6) (T := TX6) (N := 19) hx hb hts i_X6 hown hK hP 0 rfl rfl 0 (by decide) (hts (.fieldLink RX6 7 "WordFlasherModel" "d" "[I") (List.mem_of_getElem? (i := 1) rfl)) (fun _ h9 => h9) rfl dX6_alters_83 ?_
            refine lv_sipush (v := 310) hx hb dX6_alters_86 (by decide) ?_
            refine lv_iload_n hx hb dX6_alters_89 rfl (lv_at hl 2 rfl) ?_
            refine lv_iadd hx hb dX6_alters_90 ?_
            refine lv_iload_n hx hb dX6_alters_91 rfl (lv_at hl 0 rfl) ?_
            obtain ⟨h48, f46, e47, hf⟩ := wrA_el hf
            obtain ⟨X49, e50, hf⟩ := sl_el hf
            refine va_iast hx hb hK hP hD hS 1 0 rfl rfl h48 dX6_alters_92 (fun H locs hP hD hS => ?_)
            have hP : va_P g.1 vwCl (pM g aM X49) H := by subst e50; subst e47; exact hP
            have hD : va_D A (pM g aM X49) := by subst e50; subst e47; exact hD
            refine lv_aload_n hx hb dX6_alters_93 rfl (lv_at hl 1 rfl) ?_
            refine va_get (D := g.1) (ci := 6) (v := .ref (aM 1)) (C := RX6) (T := TX6) (N := 19) hx hb hts i_X6 hown hK hP 0 rfl rfl 0 (by decide) (hts (.fieldLink RX6 7 "WordFlasherModel" "d" "[I") (List.mem_of_getElem? (i := 1) rfl)) (fun _ h9 => h9) rfl dX6_alters_94 ?_
            refine lv_sipush (v := 320) hx hb dX6_alters_97 (by decide) ?_
            refine lv_iload_n hx hb dX6_alters_100 rfl (lv_at hl 2 rfl) ?_
            refine lv_iadd hx hb dX6_alters_101 ?_
            refine lv_aload_n hx hb dX6_alters_102 rfl (lv_at hl 1 rfl) ?_
            refine va_get (D := g.1) (ci := 6) (v := .ref (aM 1)) (C := RX6) (T := TX6) (N := 19) hx hb hts i_X6 hown hK hP 0 rfl rfl 0 (by decide) (hts (.fieldLink RX6 7 "WordFlasherModel" "d" "[I") (List.mem_of_getElem? (i := 1) rfl)) (fun _ h9 => h9) rfl dX6_alters_103 ?_
            refine lv_sipush (v := 320) hx hb dX6_alters_106 (by decide) ?_
            refine lv_iload_n hx hb dX6_alters_109 rfl (lv_at hl 3 rfl) ?_
            refine lv_iadd hx hb dX6_alters_110 ?_
            obtain ⟨h53, v51, e52, hf⟩ := rdA_el hf
            refine va_iald hx hb hK hP 1 0 rfl rfl h53 dX6_alters_111 ?_
            refine lv_as e52 ?_
            obtain ⟨h56, f54, e55, hf⟩ := wrA_el hf
            obtain ⟨X57, e58, hf⟩ := sl_el hf
            refine va_iast hx hb hK hP hD hS 1 0 rfl rfl h56 dX6_alters_112 (fun H locs hP hD hS => ?_)
            have hP : va_P g.1 vwCl (pM g aM X57) H := by subst e58; subst e55; exact hP
            have hD : va_D A (pM g aM X57) := by subst e58; subst e55; exact hD
            obtain ⟨v59, e60, hf⟩ := sl_el hf
            refine lv_iinc (v := v59) (lv' := [(1, .int v59), (3, .int v34), (0, .ref (aM 0)), (2, .int x2)]) hx hb dX6_alters_113 hl (k := 2) rfl (by rw [e60]; rfl) (by decide) rfl (fun ls hl => ?_)
            exact J_116 v59 x2 X57 _ _ ls hP hD hS (lv_sub hl [2, 0, 3] rfl) hf
  exact L_43 n 0 0 X23 _ _ ls hP hD hS (lv_sub hl [2, 1, 0] rfl) hf
abbrev rmX6_append : Room := { frames := 6, cells := 0, slots := 0, locals := 132 }
set_option maxHeartbeats 8000000 in
set_option maxRecDepth 100000 in
theorem c_X6_append (l : Launch) (g : GG) (aM : Nat → Nat) (sz : Nat) (n : Nat) (XM : DM) (p1 : Int32) (r : Int32) (XMz : DM) (hf : fX6_append n XM p1 = some (r, XMz)) : Met l yX6_append wsX6_append rmX6_append (va_Pc [.ref (aM 0), .int p1] (fun U => U.heap.size = sz ∧ va_P g.1 vwCl (pM g aM XM) U.heap ∧ KW g U ∧ va_D (fun _ => True) (pM g aM XM))) (va_Qi (fun r' (_ : Unit) => r' = r ∧ True) (fun (_ : Unit) t => va_P g.1 vwCl (pM g aM XMz) t.heap) (va_A (pM g aM XM) sz)) 0 0 (va_A (pM g aM XM) sz) := by
  refine Met.ofW (cc := cX6_append) (maxL := 2) (ret := (some .int)) (by decide) rfl ?_
  intro p e s m args below meth c s₁ B hml hv
  obtain ⟨hargs, hsz, hP, hKW, hD0⟩ := hv
  have hK := hKW.1
  have hx := B.exec
  have hb := B.bytes
  have hr := B.returns
  have hts := atoms_spec (ws := wsX6_append) B.pre
  have hown : s.vm.findClass RX6 = some m.cls := findClass_of_methodNamed B.named
  have hlocks := B.notSynchronized
  subst hsz
  have hD := hD0.self (sz := s.heap.size)
  generalize hAe : va_A (pM g aM XM) s.heap.size = A at hD ⊢
  have hA : ∀ q : Nat, s.heap.size ≤ q → A q := fun q h => by rw [← hAe]; exact Or.inr h
  have hS : va_S A s.heap s.heap [] := va_S.rf
  have i_X6 : ∀ w ∈ wsX60, w ∈ wsX6_append := fun w h => List.mem_cons_of_mem _ (List.mem_append_right _ h)
  have hent : entryFrame m args 2 = F0 m 0 ((lg_sl ([.ref (aM 0), .int p1]) ++ List.replicate (2 - (lg_sl ([.ref (aM 0), .int p1])).length) Slot.unset).toArray) [] := by rw [hargs]; exact lg_entry_eq _ _ _
  rw [hent]
  have hl := lv_entry ([.ref (aM 0), .int p1]) (n := 2) (Nat.le_of_ble_eq_true rfl)
  generalize (lg_sl ([.ref (aM 0), .int p1]) ++ List.replicate (2 - (lg_sl ([.ref (aM 0), .int p1])).length) Slot.unset).toArray = ls at hl ⊢
  have hl : lv_has ls 2 [(0, .ref (aM 0)), (1, .int p1)] := hl
  generalize hQ0 : MQ below _ _ _ _ _ _ = Q0
  unfold fX6_append at hf
  refine lv_iload_n hx hb dX6_append_0 rfl (lv_at hl 1 rfl) ?_
  refine lv_bipush (v := 32) hx hb dX6_append_1 (by decide) ?_
  refine lv_bipush (v := 126) hx hb dX6_append_3 (by decide) ?_
  obtain ⟨r1, h2, hf⟩ := bnd_el hf
  refine rdS (As := [.int p1, .int 32, .int 126]) (rest := []) ⟨hx, hb, hml, hown, hts⟩ (c_X6_in l g _ _ _ _ h2) (va_cwS 3 hts gX6_append_X6_in rfl rfl rfl (by decide +kernel) ⟨Nat.le_of_ble_eq_true rfl, Nat.le_of_ble_eq_true rfl⟩) hKW hP [] rfl rfl hl.1 rfl (lv_room (Nat.le_of_ble_eq_true rfl)) dX6_append_5 ⟨Nat.zero_le _, Nat.zero_le _⟩ (fun r3 q4 => ?_)
  obtain ⟨q4, nb5⟩ := q4
  refine lv_as q4.symm ?_
  rw [q4] at nb5
  refine lv_if_ne (tgt := 13) hx hb dX6_append_8 (by decide) (fun c6 => ?_) (fun c6 => ?_)
  · have hf := ite_f hf c6
    refine lv_aload_n hx hb dX6_append_13 rfl (lv_at hl 0 rfl) ?_
    refine va_get (D := g.1) (ci := 6) (v := .ref (aM 1)) (C := RX6) (T := TX6) (N := 19) hx hb hts i_X6 hown hK hP 0 rfl rfl 0 (by decide) (hts (.fieldLink RX6 7 "WordFlasherModel" "d" "[I") (List.mem_of_getElem? (i := 1) rfl)) (fun _ h9 => h9) rfl dX6_append_14 ?_
    refine lv_iconst (v := 0) hx hb dX6_append_17 (by decide) ?_
    obtain ⟨h9, v7, e8, hf⟩ := rdA_el hf
    refine va_iald hx hb hK hP 1 0 rfl rfl h9 dX6_append_18 ?_
    refine lv_as e8 ?_
    refine lv_sipush (v := 300) hx hb dX6_append_19 (by decide) ?_
    refine lv_icmp_ne (tgt := 28) hx hb dX6_append_22 (by decide) (fun c10 => ?_) (fun c10 => ?_)
    · have hf := ite_f hf c10
      refine lv_aload_n hx hb dX6_append_28 rfl (lv_at hl 0 rfl) ?_
      obtain ⟨X11, h12, hf⟩ := bnd_el hf
      refine wr_v (rest := []) (wc := (pM g aM XM)) (wc' := (pM g aM X11)) (ws2 := (pM g aM X11)) hP hD hS hA [0, 1, 2, 3, 4, 5, 6, 7, 8, 9, 10, 11] rfl rfl (by rfl) (rnV (As := []) ⟨hx, hb, hml, hown, hts⟩ (c_X6_records l g aM _ _ _ _ h12) (cwV 0 hts gX6_append_X6_records rfl rfl rfl (by decide +kernel) ⟨Nat.le_of_ble_eq_true rfl, Nat.le_of_ble_eq_true rfl⟩) hKW hP hD [0, 1, 2, 3, 4, 5, 6, 7, 8, 9, 10, 11] (by decide) rfl (va_recv hK hP (ci := 6) (q0 := 0) rfl rfl) rfl hl.1 rfl (lv_room (Nat.le_of_ble_eq_true rfl)) dX6_append_29 ⟨Nat.zero_le _, Nat.zero_le _⟩) (fun H locs hP hD hS => ?_)
      refine lv_aload_n hx hb dX6_append_32 rfl (lv_at hl 0 rfl) ?_
      refine va_get (D := g.1) (ci := 6) (v := .ref (aM 1)) (C := RX6) (T := TX6) (N := 19) hx hb hts i_X6 hown hK hP 0 rfl rfl 0 (by decide) (hts (.fieldLink RX6 7 "WordFlasherModel" "d" "[I") (List.mem_of_getElem? (i := 1) rfl)) (fun _ h9 => h9) rfl dX6_append_33 ?_
      refine lv_iconst (v := 1) hx hb dX6_append_36 (by decide) ?_
      refine lv_aload_n hx hb dX6_append_37 rfl (lv_at hl 0 rfl) ?_
      refine va_get (D := g.1) (ci := 6) (v := .ref (aM 1)) (C := RX6) (T := TX6) (N := 19) hx hb hts i_X6 hown hK hP 0 rfl rfl 0 (by decide) (hts (.fieldLink RX6 7 "WordFlasherModel" "d" "[I") (List.mem_of_getElem? (i := 1) rfl)) (fun _ h9 => h9) rfl dX6_append_38 ?_
      refine lv_iconst (v := 0) hx hb dX6_append_41 (by decide) ?_
      obtain ⟨h15, v13, e14, hf⟩ := rdA_el hf
      refine va_iald hx hb hK hP 1 0 rfl rfl h15 dX6_append_42 ?_
      refine lv_as e14 ?_
      refine lv_iadd hx hb dX6_append_43 ?_
      refine lv_iload_n hx hb dX6_append_44 rfl (lv_at hl 1 rfl) ?_
      obtain ⟨h18, f16, e17, hf⟩ := wrA_el hf
      obtain ⟨X19, e20, hf⟩ := sl_el hf
      refine va_iast hx hb hK hP hD hS 1 0 rfl rfl h18 dX6_append_45 (fun H locs hP hD hS => ?_)
      have hP : va_P g.1 vwCl (pM g aM X19) H := by subst e20; subst e17; exact hP
      have hD : va_D A (pM g aM X19) := by subst e20; subst e17; exact hD
      refine lv_aload_n hx hb dX6_append_46 rfl (lv_at hl 0 rfl) ?_
      refine va_get (D := g.1) (ci := 6) (v := .ref (aM 1)) (C := RX6) (T := TX6) (N := 19) hx hb hts i_X6 hown hK hP 0 rfl rfl 0 (by decide) (hts (.fieldLink RX6 7 "WordFlasherModel" "d" "[I") (List.mem_of_getElem? (i := 1) rfl)) (fun _ h9 => h9) rfl dX6_append_47 ?_
      refine lv_iconst (v := 0) hx hb dX6_append_50 (by decide) ?_
      refine lv_dup2_11 hx hb dX6_append_51 rfl rfl ?_
      obtain ⟨h23, v21, e22, hf⟩ := rdA_el hf
      refine va_iald hx hb hK hP 1 0 rfl rfl h23 dX6_append_52 ?_
      refine lv_as e22 ?_
      refine lv_iconst (v := 1) hx hb dX6_append_53 (by decide) ?_
      refine lv_iadd hx hb dX6_append_54 ?_
      obtain ⟨h26, f24, e25, hf⟩ := wrA_el hf
      obtain ⟨X27, e28, hf⟩ := sl_el hf
      refine va_iast hx hb hK hP hD hS 1 0 rfl rfl h26 dX6_append_55 (fun H locs hP hD hS => ?_)
      have hP : va_P g.1 vwCl (pM g aM X27) H := by subst e28; subst e25; exact hP
      have hD : va_D A (pM g aM X27) := by subst e28; subst e25; exact hD
      refine lv_aload_n hx hb dX6_append_56 rfl (lv_at hl 0 rfl) ?_
      obtain ⟨X29, h30, hf⟩ := bnd_el hf
      refine wr_v (rest := []) (wc := (pM g aM X27)) (wc' := (pM g aM X29)) (ws2 := (pM g aM X29)) hP hD hS hA [0, 1, 2, 3, 4, 5, 6, 7, 8, 9, 10, 11] rfl rfl (by rfl) (rnV (As := []) ⟨hx, hb, hml, hown, hts⟩ (c_X6_alters l g aM _ _ _ _ h30) (cwV 0 hts gX6_append_X6_alters rfl rfl rfl (by decide +kernel) ⟨Nat.le_of_ble_eq_true rfl, Nat.le_of_ble_eq_true rfl⟩) hKW hP hD [0, 1, 2, 3, 4, 5, 6, 7, 8, 9, 10, 11] (by decide) rfl (va_recv hK hP (ci := 6) (q0 := 0) rfl rfl) rfl hl.1 rfl (lv_room (Nat.le_of_ble_eq_true rfl)) dX6_append_57 ⟨Nat.zero_le _, Nat.zero_le _⟩) (fun H locs hP hD hS => ?_)
      refine lv_aload_n hx hb dX6_append_60 rfl (lv_at hl 0 rfl) ?_
      refine va_get (D := g.1) (ci := 6) (v := .int (X29 9 0)) (C := RX6) (T := TX6) (N := 19) hx hb hts i_X6 hown hK hP 0 rfl rfl 9 (by decide) (hts (.fieldLink RX6 45 "WordFlasherModel" "words" "I") (List.mem_of_getElem? (i := 2) rfl)) (fun _ h9 => h9) rfl dX6_append_61 ?_
      have er0 := Option.some.inj hf
      obtain ⟨er0, er1⟩ := Prod.mk.inj er0
      rw [← hQ0]; exact W.iret (v := (X29 9 0)) hx hb hr (fun t ht hW => ⟨⟨(X29 9 0), (), rfl, ⟨er0, trivial⟩, by dsimp only; rw [ht, ← er1]; exact hP⟩, hS.F ht⟩) hS.2.2 dX6_append_64
    · have hf := ite_t hf c10
      refine lv_bipush (v := (-3)) hx hb dX6_append_25 (by decide) ?_
      have er0 := Option.some.inj hf
      obtain ⟨er0, er1⟩ := Prod.mk.inj er0
      rw [← hQ0]; exact W.iret (v := (-3)) hx hb hr (fun t ht hW => ⟨⟨(-3), (), rfl, ⟨er0, trivial⟩, by dsimp only; rw [ht, ← er1]; exact hP⟩, hS.F ht⟩) hS.2.2 dX6_append_27
  · have hf := ite_t hf c6
    refine lv_iconst (v := (-1)) hx hb dX6_append_11 (by decide) ?_
    have er0 := Option.some.inj hf
    obtain ⟨er0, er1⟩ := Prod.mk.inj er0
    rw [← hQ0]; exact W.iret (v := (-1)) hx hb hr (fun t ht hW => ⟨⟨(-1), (), rfl, ⟨er0, trivial⟩, by dsimp only; rw [ht, ← er1]; exact hP⟩, hS.F ht⟩) hS.2.2 dX6_append_12
abbrev rmX6_cut : Room := { frames := 6, cells := 0, slots := 0, locals := 132 }
set_option maxHeartbeats 8000000 in
set_option maxRecDepth 100000 in
theorem c_X6_cut (l : Launch) (g : GG) (aM : Nat → Nat) (sz : Nat) (n : Nat) (XM : DM) (p1 : Int32) (r : Int32) (XMz : DM) (hf : fX6_cut n XM p1 = some (r, XMz)) : Met l yX6_cut wsX6_cut rmX6_cut (va_Pc [.ref (aM 0), .int p1] (fun U => U.heap.size = sz ∧ va_P g.1 vwCl (pM g aM XM) U.heap ∧ KW g U ∧ va_D (fun _ => True) (pM g aM XM))) (va_Qi (fun r' (_ : Unit) => r' = r ∧ True) (fun (_ : Unit) t => va_P g.1 vwCl (pM g aM XMz) t.heap) (va_A (pM g aM XM) sz)) 0 0 (va_A (pM g aM XM) sz) := by
  refine Met.ofW (cc := cX6_cut) (maxL := 2) (ret := (some .int)) (by decide) rfl ?_
  intro p e s m args below meth c s₁ B hml hv
  obtain ⟨hargs, hsz, hP, hKW, hD0⟩ := hv
  have hK := hKW.1
  have hx := B.exec
  have hb := B.bytes
  have hr := B.returns
  have hts := atoms_spec (ws := wsX6_cut) B.pre
  have hown : s.vm.findClass RX6 = some m.cls := findClass_of_methodNamed B.named
  have hlocks := B.notSynchronized
  subst hsz
  have hD := hD0.self (sz := s.heap.size)
  generalize hAe : va_A (pM g aM XM) s.heap.size = A at hD ⊢
  have hA : ∀ q : Nat, s.heap.size ≤ q → A q := fun q h => by rw [← hAe]; exact Or.inr h
  have hS : va_S A s.heap s.heap [] := va_S.rf
  have i_X6 : ∀ w ∈ wsX60, w ∈ wsX6_cut := fun w h => List.mem_cons_of_mem _ (List.mem_append_right _ h)
  have hent : entryFrame m args 2 = F0 m 0 ((lg_sl ([.ref (aM 0), .int p1]) ++ List.replicate (2 - (lg_sl ([.ref (aM 0), .int p1])).length) Slot.unset).toArray) [] := by rw [hargs]; exact lg_entry_eq _ _ _
  rw [hent]
  have hl := lv_entry ([.ref (aM 0), .int p1]) (n := 2) (Nat.le_of_ble_eq_true rfl)
  generalize (lg_sl ([.ref (aM 0), .int p1]) ++ List.replicate (2 - (lg_sl ([.ref (aM 0), .int p1])).length) Slot.unset).toArray = ls at hl ⊢
  have hl : lv_has ls 2 [(0, .ref (aM 0)), (1, .int p1)] := hl
  generalize hQ0 : MQ below _ _ _ _ _ _ = Q0
  unfold fX6_cut at hf
  refine lv_iload_n hx hb dX6_cut_0 rfl (lv_at hl 1 rfl) ?_
  refine lv_iconst (v := 1) hx hb dX6_cut_1 (by decide) ?_
  refine lv_sipush (v := 300) hx hb dX6_cut_2 (by decide) ?_
  obtain ⟨r1, h2, hf⟩ := bnd_el hf
  refine rdS (As := [.int p1, .int 1, .int 300]) (rest := []) ⟨hx, hb, hml, hown, hts⟩ (c_X6_in l g _ _ _ _ h2) (va_cwS 3 hts gX6_cut_X6_in rfl rfl rfl (by decide +kernel) ⟨Nat.le_of_ble_eq_true rfl, Nat.le_of_ble_eq_true rfl⟩) hKW hP [] rfl rfl hl.1 rfl (lv_room (Nat.le_of_ble_eq_true rfl)) dX6_cut_5 ⟨Nat.zero_le _, Nat.zero_le _⟩ (fun r3 q4 => ?_)
  obtain ⟨q4, nb5⟩ := q4
  refine lv_as q4.symm ?_
  rw [q4] at nb5
  refine lv_if_ne (tgt := 13) hx hb dX6_cut_8 (by decide) (fun c6 => ?_) (fun c6 => ?_)
  · have hf := ite_f hf c6
    refine lv_iload_n hx hb dX6_cut_13 rfl (lv_at hl 1 rfl) ?_
    refine lv_aload_n hx hb dX6_cut_14 rfl (lv_at hl 0 rfl) ?_
    refine va_get (D := g.1) (ci := 6) (v := .ref (aM 1)) (C := RX6) (T := TX6) (N := 19) hx hb hts i_X6 hown hK hP 0 rfl rfl 0 (by decide) (hts (.fieldLink RX6 7 "WordFlasherModel" "d" "[I") (List.mem_of_getElem? (i := 1) rfl)) (fun _ h9 => h9) rfl dX6_cut_15 ?_
    refine lv_iconst (v := 0) hx hb dX6_cut_18 (by decide) ?_
    obtain ⟨h9, v7, e8, hf⟩ := rdA_el hf
    refine va_iald hx hb hK hP 1 0 rfl rfl h9 dX6_cut_19 ?_
    refine lv_as e8 ?_
    refine lv_icmp_le (tgt := 26) hx hb dX6_cut_20 (by decide) (fun c10 => ?_) (fun c10 => ?_)
    · have hf := ite_t hf c10
      refine lv_aload_n hx hb dX6_cut_26 rfl (lv_at hl 0 rfl) ?_
      obtain ⟨X11, h12, hf⟩ := bnd_el hf
      refine wr_v (rest := []) (wc := (pM g aM XM)) (wc' := (pM g aM X11)) (ws2 := (pM g aM X11)) hP hD hS hA [0, 1, 2, 3, 4, 5, 6, 7, 8, 9, 10, 11] rfl rfl (by rfl) (rnV (As := []) ⟨hx, hb, hml, hown, hts⟩ (c_X6_records l g aM _ _ _ _ h12) (cwV 0 hts gX6_cut_X6_records rfl rfl rfl (by decide +kernel) ⟨Nat.le_of_ble_eq_true rfl, Nat.le_of_ble_eq_true rfl⟩) hKW hP hD [0, 1, 2, 3, 4, 5, 6, 7, 8, 9, 10, 11] (by decide) rfl (va_recv hK hP (ci := 6) (q0 := 0) rfl rfl) rfl hl.1 rfl (lv_room (Nat.le_of_ble_eq_true rfl)) dX6_cut_27 ⟨Nat.zero_le _, Nat.zero_le _⟩) (fun H locs hP hD hS => ?_)
      refine lv_aload_n hx hb dX6_cut_30 rfl (lv_at hl 0 rfl) ?_
      refine va_get (D := g.1) (ci := 6) (v := .ref (aM 1)) (C := RX6) (T := TX6) (N := 19) hx hb hts i_X6 hown hK hP 0 rfl rfl 0 (by decide) (hts (.fieldLink RX6 7 "WordFlasherModel" "d" "[I") (List.mem_of_getElem? (i := 1) rfl)) (fun _ h9 => h9) rfl dX6_cut_31 ?_
      refine lv_iconst (v := 0) hx hb dX6_cut_34 (by decide) ?_
      refine lv_dup2_11 hx hb dX6_cut_35 rfl rfl ?_
      obtain ⟨h15, v13, e14, hf⟩ := rdA_el hf
      refine va_iald hx hb hK hP 1 0 rfl rfl h15 dX6_cut_36 ?_
      refine lv_as e14 ?_
      refine lv_iload_n hx hb dX6_cut_37 rfl (lv_at hl 1 rfl) ?_
      refine lv_isub hx hb dX6_cut_38 ?_
      obtain ⟨h18, f16, e17, hf⟩ := wrA_el hf
      obtain ⟨X19, e20, hf⟩ := sl_el hf
      refine va_iast hx hb hK hP hD hS 1 0 rfl rfl h18 dX6_cut_39 (fun H locs hP hD hS => ?_)
      have hP : va_P g.1 vwCl (pM g aM X19) H := by subst e20; subst e17; exact hP
      have hD : va_D A (pM g aM X19) := by subst e20; subst e17; exact hD
      refine lv_aload_n hx hb dX6_cut_40 rfl (lv_at hl 0 rfl) ?_
      obtain ⟨X21, h22, hf⟩ := bnd_el hf
      refine wr_v (rest := []) (wc := (pM g aM X19)) (wc' := (pM g aM X21)) (ws2 := (pM g aM X21)) hP hD hS hA [0, 1, 2, 3, 4, 5, 6, 7, 8, 9, 10, 11] rfl rfl (by rfl) (rnV (As := []) ⟨hx, hb, hml, hown, hts⟩ (c_X6_alters l g aM _ _ _ _ h22) (cwV 0 hts gX6_cut_X6_alters rfl rfl rfl (by decide +kernel) ⟨Nat.le_of_ble_eq_true rfl, Nat.le_of_ble_eq_true rfl⟩) hKW hP hD [0, 1, 2, 3, 4, 5, 6, 7, 8, 9, 10, 11] (by decide) rfl (va_recv hK hP (ci := 6) (q0 := 0) rfl rfl) rfl hl.1 rfl (lv_room (Nat.le_of_ble_eq_true rfl)) dX6_cut_41 ⟨Nat.zero_le _, Nat.zero_le _⟩) (fun H locs hP hD hS => ?_)
      refine lv_aload_n hx hb dX6_cut_44 rfl (lv_at hl 0 rfl) ?_
      refine va_get (D := g.1) (ci := 6) (v := .ref (aM 1)) (C := RX6) (T := TX6) (N := 19) hx hb hts i_X6 hown hK hP 0 rfl rfl 0 (by decide) (hts (.fieldLink RX6 7 "WordFlasherModel" "d" "[I") (List.mem_of_getElem? (i := 1) rfl)) (fun _ h9 => h9) rfl dX6_cut_45 ?_
      refine lv_iconst (v := 0) hx hb dX6_cut_48 (by decide) ?_
      obtain ⟨h25, v23, e24, hf⟩ := rdA_el hf
      refine va_iald hx hb hK hP 1 0 rfl rfl h25 dX6_cut_49 ?_
      refine lv_as e24 ?_
      have er0 := Option.some.inj hf
      obtain ⟨er0, er1⟩ := Prod.mk.inj er0
      rw [← hQ0]; exact W.iret (v := v23) hx hb hr (fun t ht hW => ⟨⟨v23, (), rfl, ⟨er0, trivial⟩, by dsimp only; rw [ht, ← er1]; exact hP⟩, hS.F ht⟩) hS.2.2 dX6_cut_50
    · have hf := ite_f hf c10
      refine lv_bipush (v := (-2)) hx hb dX6_cut_23 (by decide) ?_
      have er0 := Option.some.inj hf
      obtain ⟨er0, er1⟩ := Prod.mk.inj er0
      rw [← hQ0]; exact W.iret (v := (-2)) hx hb hr (fun t ht hW => ⟨⟨(-2), (), rfl, ⟨er0, trivial⟩, by dsimp only; rw [ht, ← er1]; exact hP⟩, hS.F ht⟩) hS.2.2 dX6_cut_25
  · have hf := ite_t hf c6
    refine lv_iconst (v := (-1)) hx hb dX6_cut_11 (by decide) ?_
    have er0 := Option.some.inj hf
    obtain ⟨er0, er1⟩ := Prod.mk.inj er0
    rw [← hQ0]; exact W.iret (v := (-1)) hx hb hr (fun t ht hW => ⟨⟨(-1), (), rfl, ⟨er0, trivial⟩, by dsimp only; rw [ht, ← er1]; exact hP⟩, hS.F ht⟩) hS.2.2 dX6_cut_12
abbrev rmX6_noteOf : Room := { frames := 0, cells := 0, slots := 0, locals := 0 }
set_option maxHeartbeats 8000000 in
set_option maxRecDepth 100000 in
theorem c_X6_noteOf (l : Launch) (g : GG) (aM : Nat → Nat) (n : Nat) (XM : DM) (p1 : Int32) (r : Int32) (hf : fX6_noteOf n XM p1 = some r) : Met l yX6_noteOf wsX6_noteOf rmX6_noteOf (va_Pc [.ref (aM 0), .int p1] (fun U => va_P g.1 vwCl (pM g aM XM) U.heap ∧ KW g U)) (vp_Si (fun r' => r' = r ∧ True)) 0 0 (fun _ => False) := by
  refine Met.ofW (cc := cX6_noteOf) (maxL := 3) (ret := (some .int)) (by decide) rfl ?_
  intro p e s m args below meth c s₁ B hml hv
  obtain ⟨hargs, hP, hKW⟩ := hv
  have hK := hKW.1
  have hx := B.exec
  have hb := B.bytes
  have hr := B.returns
  have hts := atoms_spec (ws := wsX6_noteOf) B.pre
  have hown : s.vm.findClass RX6 = some m.cls := findClass_of_methodNamed B.named
  have hlocks := B.notSynchronized
  have i_X6 : ∀ w ∈ wsX60, w ∈ wsX6_noteOf := fun w h => List.mem_cons_of_mem _ (List.mem_append_right _ h)
  have hent : entryFrame m args 3 = F0 m 0 ((lg_sl ([.ref (aM 0), .int p1]) ++ List.replicate (3 - (lg_sl ([.ref (aM 0), .int p1])).length) Slot.unset).toArray) [] := by rw [hargs]; exact lg_entry_eq _ _ _
  rw [hent]
  have hl := lv_entry ([.ref (aM 0), .int p1]) (n := 3) (Nat.le_of_ble_eq_true rfl)
  generalize (lg_sl ([.ref (aM 0), .int p1]) ++ List.replicate (3 - (lg_sl ([.ref (aM 0), .int p1])).length) Slot.unset).toArray = ls at hl ⊢
  have hl : lv_has ls 3 [(0, .ref (aM 0)), (1, .int p1)] := hl
  generalize hQ0 : MQ below _ _ _ _ _ _ = Q0
  unfold fX6_noteOf at hf
  refine lv_iconst (v := 0) hx hb dX6_noteOf_0 (by decide) ?_
  refine lv_istore_n (lv' := [(2, .int 0), (0, .ref (aM 0)), (1, .int p1)]) hx hb dX6_noteOf_1 rfl hl (by decide) rfl (fun ls hl => ?_)
  have L_2 : ∀ fu : Nat, ∀ (x1 x2 : Int32) (ls : Array Slot), lv_has ls 3 [(0, .ref (aM 0)), (1, .int x1), (2, .int x2)] → fX6_noteOf_L2 n XM fu x1 x2 = some r → W p l e (headSpec wsX6_noteOf rmX6_noteOf).room s m args below meth c s.heap [] 0 0 Q0 (F0 m 2 ls []) := by
    intro fu
    induction fu with
    | zero => intros; rename_i hf; rw [fX6_noteOf_L2] at hf; cases hf
    | succ fu ih =>
      intro x1 x2 ls hl hf
      rw [fX6_noteOf_L2] at hf
      refine lv_iload_n hx hb dX6_noteOf_2 rfl (lv_at hl 2 rfl) ?_
      refine lv_aload_n hx hb dX6_noteOf_3 rfl (lv_at hl 0 rfl) ?_
      refine va_get (D := g.1) (ci := 6) (v := .ref (aM 1)) (C := RX6) (T := TX6) (N := 19) hx hb hts i_X6 hown hK hP 0 rfl rfl 0 (by decide) (hts (.fieldLink RX6 7 "WordFlasherModel" "d" "[I") (List.mem_of_getElem? (i := 1) rfl)) (fun _ h9 => h9) rfl dX6_noteOf_4 ?_
      refine lv_sipush (v := 309) hx hb dX6_noteOf_7 (by decide) ?_
      obtain ⟨h3, v1, e2, hf⟩ := rdA_el hf
      refine va_iald hx hb hK hP 1 0 rfl rfl h3 dX6_noteOf_10 ?_
      refine lv_as e2 ?_
      refine lv_icmp_ge (tgt := 36) hx hb dX6_noteOf_11 (by decide) (fun c4 => ?_) (fun c4 => ?_)
      · have hf := ite_t hf c4
        refine lv_iconst (v := (-1)) hx hb dX6_noteOf_36 (by decide) ?_
        have er0 := Option.some.inj hf
        rw [← hQ0]; exact W.iret (v := (-1)) hx hb hr (fun t ht hW => ⟨(-1), rfl, ⟨er0, trivial⟩, ht⟩) (fun q h => by cases h) dX6_noteOf_37
      · have hf := ite_f hf c4
        refine lv_aload_n hx hb dX6_noteOf_14 rfl (lv_at hl 0 rfl) ?_
        refine va_get (D := g.1) (ci := 6) (v := .ref (aM 1)) (C := RX6) (T := TX6) (N := 19) hx hb hts i_X6 hown hK hP 0 rfl rfl 0 (by decide) (hts (.fieldLink RX6 7 "WordFlasherModel" "d" "[I") (List.mem_of_getElem? (i := 1) rfl)) (fun _ h9 => h9) rfl dX6_noteOf_15 ?_
        refine lv_sipush (v := 310) hx hb dX6_noteOf_18 (by decide) ?_
        refine lv_iload_n hx hb dX6_noteOf_21 rfl (lv_at hl 2 rfl) ?_
        refine lv_iadd hx hb dX6_noteOf_22 ?_
        obtain ⟨h7, v5, e6, hf⟩ := rdA_el hf
        refine va_iald hx hb hK hP 1 0 rfl rfl h7 dX6_noteOf_23 ?_
        refine lv_as e6 ?_
        refine lv_iload_n hx hb dX6_noteOf_24 rfl (lv_at hl 1 rfl) ?_
        refine lv_icmp_ne (tgt := 30) hx hb dX6_noteOf_25 (by decide) (fun c8 => ?_) (fun c8 => ?_)
        · have hf := ite_f hf c8
          obtain ⟨v9, e10, hf⟩ := sl_el hf
          refine lv_iinc (v := v9) (lv' := [(2, .int v9), (0, .ref (aM 0)), (1, .int x1)]) hx hb dX6_noteOf_30 hl (k := 2) rfl (by rw [e10]; rfl) (by decide) rfl (fun ls hl => ?_)
          refine lv_goto (tgt := 2) hx hb dX6_noteOf_33 (by decide) ?_
          exact ih x1 v9 ls (lv_sub hl [1, 2, 0] rfl) hf
        · have hf := ite_t hf c8
          refine lv_iload_n hx hb dX6_noteOf_28 rfl (lv_at hl 2 rfl) ?_
          have er0 := Option.some.inj hf
          rw [← hQ0]; exact W.iret (v := x2) hx hb hr (fun t ht hW => ⟨x2, rfl, ⟨er0, trivial⟩, ht⟩) (fun q h => by cases h) dX6_noteOf_29
  exact L_2 n p1 0 ls (lv_sub hl [1, 2, 0] rfl) hf
abbrev rmX6_spotOf : Room := { frames := 3, cells := 0, slots := 0, locals := 62 }
set_option maxHeartbeats 8000000 in
set_option maxRecDepth 100000 in
theorem c_X6_spotOf (l : Launch) (g : GG) (aM : Nat → Nat) (n : Nat) (XM : DM) (p1 : Int32) (r : Int32) (hf : fX6_spotOf n XM p1 = some r) : Met l yX6_spotOf wsX6_spotOf rmX6_spotOf (va_Pc [.ref (aM 0), .int p1] (fun U => va_P g.1 vwCl (pM g aM XM) U.heap ∧ KW g U)) (vp_Si (fun r' => r' = r ∧ True)) 0 0 (fun _ => False) := by
  refine Met.ofW (cc := cX6_spotOf) (maxL := 4) (ret := (some .int)) (by decide) rfl ?_
  intro p e s m args below meth c s₁ B hml hv
  obtain ⟨hargs, hP, hKW⟩ := hv
  have hK := hKW.1
  have hx := B.exec
  have hb := B.bytes
  have hr := B.returns
  have hts := atoms_spec (ws := wsX6_spotOf) B.pre
  have hown : s.vm.findClass RX6 = some m.cls := findClass_of_methodNamed B.named
  have hlocks := B.notSynchronized
  have i_X6 : ∀ w ∈ wsX60, w ∈ wsX6_spotOf := fun w h => List.mem_cons_of_mem _ (List.mem_append_right _ h)
  have hent : entryFrame m args 4 = F0 m 0 ((lg_sl ([.ref (aM 0), .int p1]) ++ List.replicate (4 - (lg_sl ([.ref (aM 0), .int p1])).length) Slot.unset).toArray) [] := by rw [hargs]; exact lg_entry_eq _ _ _
  rw [hent]
  have hl := lv_entry ([.ref (aM 0), .int p1]) (n := 4) (Nat.le_of_ble_eq_true rfl)
  generalize (lg_sl ([.ref (aM 0), .int p1]) ++ List.replicate (4 - (lg_sl ([.ref (aM 0), .int p1])).length) Slot.unset).toArray = ls at hl ⊢
  have hl : lv_has ls 4 [(0, .ref (aM 0)), (1, .int p1)] := hl
  generalize hQ0 : MQ below _ _ _ _ _ _ = Q0
  unfold fX6_spotOf at hf
  refine lv_aload_n hx hb dX6_spotOf_0 rfl (lv_at hl 0 rfl) ?_
  refine va_get (D := g.1) (ci := 6) (v := .ref (aM 7)) (C := RX6) (T := TX6) (N := 19) hx hb hts i_X6 hown hK hP 0 rfl rfl 14 (by decide) (hts (.fieldLink RX6 29 "WordFlasherModel" "letters" "[I") (List.mem_of_getElem? (i := 1) rfl)) (fun _ h9 => h9) rfl dX6_spotOf_1 ?_
  refine lv_iload_n hx hb dX6_spotOf_4 rfl (lv_at hl 1 rfl) ?_
  obtain ⟨h3, v1, e2, hf⟩ := rdA_el hf
  refine va_iald hx hb hK hP 7 0 rfl rfl h3 dX6_spotOf_5 ?_
  refine lv_as e2 ?_
  refine lv_iconst (v := 1) hx hb dX6_spotOf_6 (by decide) ?_
  refine lv_isub hx hb dX6_spotOf_7 ?_
  refine lv_iconst (v := 3) hx hb dX6_spotOf_8 (by decide) ?_
  obtain ⟨z6, v4, e5, hf⟩ := dvA_el hf
  refine lv_idiv hx hb dX6_spotOf_9 z6 ?_
  refine lv_as e5 ?_
  refine lv_istore_n (lv' := [(2, .int v4), (0, .ref (aM 0)), (1, .int p1)]) hx hb dX6_spotOf_10 rfl hl (by decide) rfl (fun ls hl => ?_)
  refine lv_iconst (v := 0) hx hb dX6_spotOf_11 (by decide) ?_
  refine lv_istore_n (lv' := [(3, .int 0), (2, .int v4), (0, .ref (aM 0)), (1, .int p1)]) hx hb dX6_spotOf_12 rfl hl (by decide) rfl (fun ls hl => ?_)
  have L_13 : ∀ fu : Nat, ∀ (x1 x2 x3 : Int32) (ls : Array Slot), lv_has ls 4 [(0, .ref (aM 0)), (1, .int x1), (2, .int x2), (3, .int x3)] → fX6_spotOf_L13 n XM fu x1 x2 x3 = some r → W p l e (headSpec wsX6_spotOf rmX6_spotOf).room s m args below meth c s.heap [] 0 0 Q0 (F0 m 13 ls []) := by
    intro fu
    induction fu with
    | zero => intros; rename_i hf; rw [fX6_spotOf_L13] at hf; cases hf
    | succ fu ih =>
      intro x1 x2 x3 ls hl hf
      rw [fX6_spotOf_L13] at hf
      refine lv_iload_n hx hb dX6_spotOf_13 rfl (lv_at hl 3 rfl) ?_
      refine lv_aload_n hx hb dX6_spotOf_14 rfl (lv_at hl 0 rfl) ?_
      refine va_get (D := g.1) (ci := 6) (v := .ref (aM 6)) (C := RX6) (T := TX6) (N := 19) hx hb hts i_X6 hown hK hP 0 rfl rfl 13 (by decide) (hts (.fieldLink RX6 26 "WordFlasherModel" "many" "[I") (List.mem_of_getElem? (i := 2) rfl)) (fun _ h9 => h9) rfl dX6_spotOf_15 ?_
      refine lv_iload_n hx hb dX6_spotOf_18 rfl (lv_at hl 1 rfl) ?_
      obtain ⟨h9, v7, e8, hf⟩ := rdA_el hf
      refine va_iald hx hb hK hP 6 0 rfl rfl h9 dX6_spotOf_19 ?_
      refine lv_as e8 ?_
      refine lv_icmp_ge (tgt := 68) hx hb dX6_spotOf_20 (by decide) (fun c10 => ?_) (fun c10 => ?_)
      · have hf := ite_t hf c10
        refine lv_iconst (v := (-1)) hx hb dX6_spotOf_68 (by decide) ?_
        have er0 := Option.some.inj hf
        rw [← hQ0]; exact W.iret (v := (-1)) hx hb hr (fun t ht hW => ⟨(-1), rfl, ⟨er0, trivial⟩, ht⟩) (fun q h => by cases h) dX6_spotOf_69
      · have hf := ite_f hf c10
        refine lv_aload_n hx hb dX6_spotOf_23 rfl (lv_at hl 0 rfl) ?_
        refine va_get (D := g.1) (ci := 6) (v := .ref (aM 7)) (C := RX6) (T := TX6) (N := 19) hx hb hts i_X6 hown hK hP 0 rfl rfl 14 (by decide) (hts (.fieldLink RX6 29 "WordFlasherModel" "letters" "[I") (List.mem_of_getElem? (i := 1) rfl)) (fun _ h9 => h9) rfl dX6_spotOf_24 ?_
        refine lv_iload_n hx hb dX6_spotOf_27 rfl (lv_at hl 1 rfl) ?_
        obtain ⟨h13, v11, e12, hf⟩ := rdA_el hf
        refine va_iald hx hb hK hP 7 0 rfl rfl h13 dX6_spotOf_28 ?_
        refine lv_as e12 ?_
        refine lv_if_le (tgt := 68) hx hb dX6_spotOf_29 (by decide) (fun c14 => ?_) (fun c14 => ?_)
        · have hf := ite_t hf c14
          refine lv_iconst (v := (-1)) hx hb dX6_spotOf_68 (by decide) ?_
          have er0 := Option.some.inj hf
          rw [← hQ0]; exact W.iret (v := (-1)) hx hb hr (fun t ht hW => ⟨(-1), rfl, ⟨er0, trivial⟩, ht⟩) (fun q h => by cases h) dX6_spotOf_69
        · have hf := ite_f hf c14
          refine lv_aload_n hx hb dX6_spotOf_32 rfl (lv_at hl 0 rfl) ?_
          refine va_get (D := g.1) (ci := 6) (v := .ref (aM 1)) (C := RX6) (T := TX6) (N := 19) hx hb hts i_X6 hown hK hP 0 rfl rfl 0 (by decide) (hts (.fieldLink RX6 7 "WordFlasherModel" "d" "[I") (List.mem_of_getElem? (i := 3) rfl)) (fun _ h9 => h9) rfl dX6_spotOf_33 ?_
          refine lv_iconst (v := 1) hx hb dX6_spotOf_36 (by decide) ?_
          refine lv_aload_n hx hb dX6_spotOf_37 rfl (lv_at hl 0 rfl) ?_
          refine va_get (D := g.1) (ci := 6) (v := .ref (aM 5)) (C := RX6) (T := TX6) (N := 19) hx hb hts i_X6 hown hK hP 0 rfl rfl 12 (by decide) (hts (.fieldLink RX6 23 "WordFlasherModel" "begin" "[I") (List.mem_of_getElem? (i := 4) rfl)) (fun _ h9 => h9) rfl dX6_spotOf_38 ?_
          refine lv_iload_n hx hb dX6_spotOf_41 rfl (lv_at hl 1 rfl) ?_
          obtain ⟨h17, v15, e16, hf⟩ := rdA_el hf
          refine va_iald hx hb hK hP 5 0 rfl rfl h17 dX6_spotOf_42 ?_
          refine lv_as e16 ?_
          refine lv_iadd hx hb dX6_spotOf_43 ?_
          refine lv_iload_n hx hb dX6_spotOf_44 rfl (lv_at hl 3 rfl) ?_
          refine lv_iadd hx hb dX6_spotOf_45 ?_
          obtain ⟨h20, v18, e19, hf⟩ := rdA_el hf
          refine va_iald hx hb hK hP 1 0 rfl rfl h20 dX6_spotOf_46 ?_
          refine lv_as e19 ?_
          obtain ⟨r21, h22, hf⟩ := bnd_el hf
          refine rdS (As := [.int v18]) (rest := []) ⟨hx, hb, hml, hown, hts⟩ (c_X6_isLetter l g _ _ h22) (va_cwS 1 hts gX6_spotOf_X6_isLetter rfl rfl rfl (by decide +kernel) ⟨Nat.le_of_ble_eq_true rfl, Nat.le_of_ble_eq_true rfl⟩) hKW hP [] rfl rfl hl.1 rfl (lv_room (Nat.le_of_ble_eq_true rfl)) dX6_spotOf_47 ⟨Nat.zero_le _, Nat.zero_le _⟩ (fun r23 q24 => ?_)
          obtain ⟨q24, nb25⟩ := q24
          refine lv_as q24.symm ?_
          rw [q24] at nb25
          obtain ⟨j62, ej62, hf⟩ := sl_el hf
          have J_62 : ∀ (x1 x2 x3 : Int32) (ls : Array Slot), lv_has ls 4 [(0, .ref (aM 0)), (1, .int x1), (2, .int x2), (3, .int x3)] → j62 x1 x2 x3 = some r → W p l e (headSpec wsX6_spotOf rmX6_spotOf).room s m args below meth c s.heap [] 0 0 Q0 (F0 m 62 ls []) := by
            intro x1 x2 x3 ls hl hf
            rw [ej62] at hf
            obtain ⟨v26, e27, hf⟩ := sl_el hf
            refine lv_iinc (v := v26) (lv' := [(3, .int v26), (0, .ref (aM 0)), (1, .int x1), (2, .int x2)]) hx hb dX6_spotOf_62 hl (k := 3) rfl (by rw [e27]; rfl) (by decide) rfl (fun ls hl => ?_)
            refine lv_goto (tgt := 13) hx hb dX6_spotOf_65 (by decide) ?_
            exact ih x1 x2 v26 ls (lv_sub hl [1, 2, 3, 0] rfl) hf
          refine lv_if_eq (tgt := 62) hx hb dX6_spotOf_50 (by decide) (fun c28 => ?_) (fun c28 => ?_)
          · have hf := ite_t hf c28
            exact J_62 x1 x2 x3 ls (lv_sub hl [0, 1, 2, 3] rfl) hf
          · have hf := ite_f hf c28
            refine lv_iload_n hx hb dX6_spotOf_53 rfl (lv_at hl 2 rfl) ?_
            refine lv_if_ne (tgt := 59) hx hb dX6_spotOf_54 (by decide) (fun c29 => ?_) (fun c29 => ?_)
            · have hf := ite_f hf c29
              obtain ⟨v30, e31, hf⟩ := sl_el hf
              refine lv_iinc (v := v30) (lv' := [(2, .int v30), (0, .ref (aM 0)), (1, .int x1), (3, .int x3)]) hx hb dX6_spotOf_59 hl (k := 2) rfl (by rw [e31]; rfl) (by decide) rfl (fun ls hl => ?_)
              exact J_62 x1 v30 x3 ls (lv_sub hl [1, 2, 0, 3] rfl) hf
            · have hf := ite_t hf c29
              refine lv_iload_n hx hb dX6_spotOf_57 rfl (lv_at hl 3 rfl) ?_
              have er0 := Option.some.inj hf
              rw [← hQ0]; exact W.iret (v := x3) hx hb hr (fun t ht hW => ⟨x3, rfl, ⟨er0, trivial⟩, ht⟩) (fun q h => by cases h) dX6_spotOf_58
  exact L_13 n p1 v4 0 ls (lv_sub hl [2, 3, 1, 0] rfl) hf
