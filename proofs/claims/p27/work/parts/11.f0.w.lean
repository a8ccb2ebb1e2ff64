abbrev rmX5_isCharacter : Room := { frames := 0, cells := 0, slots := 0, locals := 0 }
set_option maxHeartbeats 8000000 in
set_option maxRecDepth 100000 in
theorem c_X5_isCharacter (l : Launch) (g : GG)  (p0 : Int32) (r : Int32) (hf : fX5_isCharacter p0 = some r) : Met l yX5_isCharacter wsX5_isCharacter rmX5_isCharacter (va_Pc [.int p0] (fun U => va_P g.1 vwCl ([] : va_W) U.heap ∧ KW g U)) (vp_Si (fun r' => r' = r ∧ narrow .boolean (.int r') = .int r')) 0 0 (fun _ => False) := by
  refine Met.ofW (cc := cX5_isCharacter) (maxL := 1) (ret := (some .boolean)) (by decide) rfl ?_
  intro p e s m args below meth c s₁ B hml hv
  obtain ⟨hargs, hP, hKW⟩ := hv
  have hK := hKW.1
  have hx := B.exec
  have hb := B.bytes
  have hr := B.returns
  have hts := atoms_spec (ws := wsX5_isCharacter) B.pre
  have hown : s.vm.findClass RX5 = some m.cls := findClass_of_methodNamed B.named
  have hlocks := B.notSynchronized
  have hent : entryFrame m args 1 = F0 m 0 ((lg_sl ([.int p0]) ++ List.replicate (1 - (lg_sl ([.int p0])).length) Slot.unset).toArray) [] := by rw [hargs]; exact lg_entry_eq _ _ _
  rw [hent]
  have hl := lv_entry ([.int p0]) (n := 1) (Nat.le_of_ble_eq_true rfl)
  generalize (lg_sl ([.int p0]) ++ List.replicate (1 - (lg_sl ([.int p0])).length) Slot.unset).toArray = ls at hl ⊢
  have hl : lv_has ls 1 [(0, .int p0)] := hl
  generalize hQ0 : MQ below _ _ _ _ _ _ = Q0
  unfold fX5_isCharacter at hf
  refine lv_iload_n hx hb dX5_isCharacter_0 rfl (lv_at hl 0 rfl) ?_
  refine lv_bipush (v := 32) hx hb dX5_isCharacter_1 (by decide) ?_
  refine lv_icmp_lt (tgt := 16) hx hb dX5_isCharacter_3 (by decide) (fun c1 => ?_) (fun c1 => ?_)
  · have hf := ite_t hf c1
    refine lv_iconst (v := 0) hx hb dX5_isCharacter_16 (by decide) ?_
    have er0 := Option.some.inj hf
    rw [← hQ0]; exact W.zret (v := 0) hx hb hr rfl (fun t ht hW => ⟨0, rfl, ⟨er0, rfl⟩, ht⟩) (fun q h => by cases h) dX5_isCharacter_17
  · have hf := ite_f hf c1
    refine lv_iload_n hx hb dX5_isCharacter_6 rfl (lv_at hl 0 rfl) ?_
    refine lv_bipush (v := 126) hx hb dX5_isCharacter_7 (by decide) ?_
    refine lv_icmp_gt (tgt := 16) hx hb dX5_isCharacter_9 (by decide) (fun c2 => ?_) (fun c2 => ?_)
    · have hf := ite_t hf c2
      refine lv_iconst (v := 0) hx hb dX5_isCharacter_16 (by decide) ?_
      have er0 := Option.some.inj hf
      rw [← hQ0]; exact W.zret (v := 0) hx hb hr rfl (fun t ht hW => ⟨0, rfl, ⟨er0, rfl⟩, ht⟩) (fun q h => by cases h) dX5_isCharacter_17
    · have hf := ite_f hf c2
      refine lv_iconst (v := 1) hx hb dX5_isCharacter_12 (by decide) ?_
      refine lv_goto (tgt := 17) hx hb dX5_isCharacter_13 (by decide) ?_
      have er0 := Option.some.inj hf
      rw [← hQ0]; exact W.zret (v := 1) hx hb hr rfl (fun t ht hW => ⟨1, rfl, ⟨er0, rfl⟩, ht⟩) (fun q h => by cases h) dX5_isCharacter_17
abbrev rmX5_isFigure : Room := { frames := 0, cells := 0, slots := 0, locals := 0 }
set_option maxHeartbeats 8000000 in
set_option maxRecDepth 100000 in
theorem c_X5_isFigure (l : Launch) (g : GG)  (p0 : Int32) (r : Int32) (hf : fX5_isFigure p0 = some r) : Met l yX5_isFigure wsX5_isFigure rmX5_isFigure (va_Pc [.int p0] (fun U => va_P g.1 vwCl ([] : va_W) U.heap ∧ KW g U)) (vp_Si (fun r' => r' = r ∧ narrow .boolean (.int r') = .int r')) 0 0 (fun _ => False) := by
  refine Met.ofW (cc := cX5_isFigure) (maxL := 1) (ret := (some .boolean)) (by decide) rfl ?_
  intro p e s m args below meth c s₁ B hml hv
  obtain ⟨hargs, hP, hKW⟩ := hv
  have hK := hKW.1
  have hx := B.exec
  have hb := B.bytes
  have hr := B.returns
  have hts := atoms_spec (ws := wsX5_isFigure) B.pre
  have hown : s.vm.findClass RX5 = some m.cls := findClass_of_methodNamed B.named
  have hlocks := B.notSynchronized
  have hent : entryFrame m args 1 = F0 m 0 ((lg_sl ([.int p0]) ++ List.replicate (1 - (lg_sl ([.int p0])).length) Slot.unset).toArray) [] := by rw [hargs]; exact lg_entry_eq _ _ _
  rw [hent]
  have hl := lv_entry ([.int p0]) (n := 1) (Nat.le_of_ble_eq_true rfl)
  generalize (lg_sl ([.int p0]) ++ List.replicate (1 - (lg_sl ([.int p0])).length) Slot.unset).toArray = ls at hl ⊢
  have hl : lv_has ls 1 [(0, .int p0)] := hl
  generalize hQ0 : MQ below _ _ _ _ _ _ = Q0
  unfold fX5_isFigure at hf
  refine lv_iload_n hx hb dX5_isFigure_0 rfl (lv_at hl 0 rfl) ?_
  refine lv_bipush (v := 48) hx hb dX5_isFigure_1 (by decide) ?_
  refine lv_icmp_lt (tgt := 16) hx hb dX5_isFigure_3 (by decide) (fun c1 => ?_) (fun c1 => ?_)
  · have hf := ite_t hf c1
    refine lv_iconst (v := 0) hx hb dX5_isFigure_16 (by decide) ?_
    have er0 := Option.some.inj hf
    rw [← hQ0]; exact W.zret (v := 0) hx hb hr rfl (fun t ht hW => ⟨0, rfl, ⟨er0, rfl⟩, ht⟩) (fun q h => by cases h) dX5_isFigure_17
  · have hf := ite_f hf c1
    refine lv_iload_n hx hb dX5_isFigure_6 rfl (lv_at hl 0 rfl) ?_
    refine lv_bipush (v := 57) hx hb dX5_isFigure_7 (by decide) ?_
    refine lv_icmp_gt (tgt := 16) hx hb dX5_isFigure_9 (by decide) (fun c2 => ?_) (fun c2 => ?_)
    · have hf := ite_t hf c2
      refine lv_iconst (v := 0) hx hb dX5_isFigure_16 (by decide) ?_
      have er0 := Option.some.inj hf
      rw [← hQ0]; exact W.zret (v := 0) hx hb hr rfl (fun t ht hW => ⟨0, rfl, ⟨er0, rfl⟩, ht⟩) (fun q h => by cases h) dX5_isFigure_17
    · have hf := ite_f hf c2
      refine lv_iconst (v := 1) hx hb dX5_isFigure_12 (by decide) ?_
      refine lv_goto (tgt := 17) hx hb dX5_isFigure_13 (by decide) ?_
      have er0 := Option.some.inj hf
      rw [← hQ0]; exact W.zret (v := 1) hx hb hr rfl (fun t ht hW => ⟨1, rfl, ⟨er0, rfl⟩, ht⟩) (fun q h => by cases h) dX5_isFigure_17
abbrev rmX5_isLetter : Room := { frames := 1, cells := 0, slots := 0, locals := 20 }
set_option maxHeartbeats 8000000 in
set_option maxRecDepth 100000 in
theorem c_X5_isLetter (l : Launch) (g : GG)  (p0 : Int32) (r : Int32) (hf : fX5_isLetter p0 = some r) : Met l yX5_isLetter wsX5_isLetter rmX5_isLetter (va_Pc [.int p0] (fun U => va_P g.1 vwCl ([] : va_W) U.heap ∧ KW g U)) (vp_Si (fun r' => r' = r ∧ narrow .boolean (.int r') = .int r')) 0 0 (fun _ => False) := by
  refine Met.ofW (cc := cX5_isLetter) (maxL := 1) (ret := (some .boolean)) (by decide) rfl ?_
  intro p e s m args below meth c s₁ B hml hv
  obtain ⟨hargs, hP, hKW⟩ := hv
  have hK := hKW.1
  have hx := B.exec
  have hb := B.bytes
  have hr := B.returns
  have hts := atoms_spec (ws := wsX5_isLetter) B.pre
  have hown : s.vm.findClass RX5 = some m.cls := findClass_of_methodNamed B.named
  have hlocks := B.notSynchronized
  have hent : entryFrame m args 1 = F0 m 0 ((lg_sl ([.int p0]) ++ List.replicate (1 - (lg_sl ([.int p0])).length) Slot.unset).toArray) [] := by rw [hargs]; exact lg_entry_eq _ _ _
  rw [hent]
  have hl := lv_entry ([.int p0]) (n := 1) (Nat.le_of_ble_eq_true rfl)
  generalize (lg_sl ([.int p0]) ++ List.replicate (1 - (lg_sl ([.int p0])).length) Slot.unset).toArray = ls at hl ⊢
  have hl : lv_has ls 1 [(0, .int p0)] := hl
  generalize hQ0 : MQ below _ _ _ _ _ _ = Q0
  unfold fX5_isLetter at hf
  refine lv_iload_n hx hb dX5_isLetter_0 rfl (lv_at hl 0 rfl) ?_
  refine lv_bipush (v := 97) hx hb dX5_isLetter_1 (by decide) ?_
  obtain ⟨j12, ej12, hf⟩ := sl_el hf
  have J_12 : ∀ (x0 : Int32) (ls : Array Slot), lv_has ls 1 [(0, .int x0)] → j12 x0 = some r → W p l e (headSpec wsX5_isLetter rmX5_isLetter).room s m args below meth c s.heap [] 0 0 Q0 (F0 m 12 ls []) := by
    intro x0 ls hl hf
    rw [ej12] at hf
    refine lv_iload_n hx hb dX5_isLetter_12 rfl (lv_at hl 0 rfl) ?_
    refine lv_bipush (v := 65) hx hb dX5_isLetter_13 (by decide) ?_
    obtain ⟨j24, ej24, hf⟩ := sl_el hf
    have J_24 : ∀ (x0 : Int32) (ls : Array Slot), lv_has ls 1 [(0, .int x0)] → j24 x0 = some r → W p l e (headSpec wsX5_isLetter rmX5_isLetter).room s m args below meth c s.heap [] 0 0 Q0 (F0 m 24 ls []) := by
      intro x0 ls hl hf
      rw [ej24] at hf
      refine lv_iload_n hx hb dX5_isLetter_24 rfl (lv_at hl 0 rfl) ?_
      obtain ⟨r1, h2, hf⟩ := bnd_el hf
      refine rdS (As := [.int x0]) (rest := []) ⟨hx, hb, hml, hown, hts⟩ (c_X5_isFigure l g _ _ h2) (va_cwS 1 hts gX5_isLetter_X5_isFigure rfl rfl rfl (by decide +kernel) ⟨Nat.le_of_ble_eq_true rfl, Nat.le_of_ble_eq_true rfl⟩) hKW hP [] rfl rfl hl.1 rfl (lv_room (Nat.le_of_ble_eq_true rfl)) dX5_isLetter_25 ⟨Nat.zero_le _, Nat.zero_le _⟩ (fun r3 q4 => ?_)
      obtain ⟨q4, nb5⟩ := q4
      refine lv_as q4.symm ?_
      rw [q4] at nb5
      refine lv_if_eq (tgt := 35) hx hb dX5_isLetter_28 (by decide) (fun c6 => ?_) (fun c6 => ?_)
      · have hf := ite_t hf c6
        refine lv_iconst (v := 0) hx hb dX5_isLetter_35 (by decide) ?_
        have er0 := Option.some.inj hf
        rw [← hQ0]; exact W.zret (v := 0) hx hb hr rfl (fun t ht hW => ⟨0, rfl, ⟨er0, rfl⟩, ht⟩) (fun q h => by cases h) dX5_isLetter_36
      · have hf := ite_f hf c6
        refine lv_iconst (v := 1) hx hb dX5_isLetter_31 (by decide) ?_
        refine lv_goto (tgt := 36) hx hb dX5_isLetter_32 (by decide) ?_
        have er0 := Option.some.inj hf
        rw [← hQ0]; exact W.zret (v := 1) hx hb hr rfl (fun t ht hW => ⟨1, rfl, ⟨er0, rfl⟩, ht⟩) (fun q h => by cases h) dX5_isLetter_36
    refine lv_icmp_lt (tgt := 24) hx hb dX5_isLetter_15 (by decide) (fun c7 => ?_) (fun c7 => ?_)
    · have hf := ite_t hf c7
      exact J_24 x0 ls (lv_sub hl [0] rfl) hf
    · have hf := ite_f hf c7
      refine lv_iload_n hx hb dX5_isLetter_18 rfl (lv_at hl 0 rfl) ?_
      refine lv_bipush (v := 90) hx hb dX5_isLetter_19 (by decide) ?_
      refine lv_icmp_le (tgt := 31) hx hb dX5_isLetter_21 (by decide) (fun c8 => ?_) (fun c8 => ?_)
      · have hf := ite_t hf c8
        refine lv_iconst (v := 1) hx hb dX5_isLetter_31 (by decide) ?_
        refine lv_goto (tgt := 36) hx hb dX5_isLetter_32 (by decide) ?_
        have er0 := Option.some.inj hf
        rw [← hQ0]; exact W.zret (v := 1) hx hb hr rfl (fun t ht hW => ⟨1, rfl, ⟨er0, rfl⟩, ht⟩) (fun q h => by cases h) dX5_isLetter_36
      · have hf := ite_f hf c8
        exact J_24 x0 ls (lv_sub hl [0] rfl) hf
  refine lv_icmp_lt (tgt := 12) hx hb dX5_isLetter_3 (by decide) (fun c9 => ?_) (fun c9 => ?_)
  · have hf := ite_t hf c9
    exact J_12 p0 ls (lv_sub hl [0] rfl) hf
  · have hf := ite_f hf c9
    refine lv_iload_n hx hb dX5_isLetter_6 rfl (lv_at hl 0 rfl) ?_
    refine lv_bipush (v := 122) hx hb dX5_isLetter_7 (by decide) ?_
    refine lv_icmp_le (tgt := 31) hx hb dX5_isLetter_9 (by decide) (fun c10 => ?_) (fun c10 => ?_)
    · have hf := ite_t hf c10
      refine lv_iconst (v := 1) hx hb dX5_isLetter_31 (by decide) ?_
      refine lv_goto (tgt := 36) hx hb dX5_isLetter_32 (by decide) ?_
      have er0 := Option.some.inj hf
      rw [← hQ0]; exact W.zret (v := 1) hx hb hr rfl (fun t ht hW => ⟨1, rfl, ⟨er0, rfl⟩, ht⟩) (fun q h => by cases h) dX5_isLetter_36
    · have hf := ite_f hf c10
      exact J_12 p0 ls (lv_sub hl [0] rfl) hf
abbrev rmX5_isTrailing : Room := { frames := 0, cells := 0, slots := 0, locals := 0 }
set_option maxHeartbeats 8000000 in
set_option maxRecDepth 100000 in
theorem c_X5_isTrailing (l : Launch) (g : GG)  (p0 : Int32) (r : Int32) (hf : fX5_isTrailing p0 = some r) : Met l yX5_isTrailing wsX5_isTrailing rmX5_isTrailing (va_Pc [.int p0] (fun U => va_P g.1 vwCl ([] : va_W) U.heap ∧ KW g U)) (vp_Si (fun r' => r' = r ∧ narrow .boolean (.int r') = .int r')) 0 0 (fun _ => False) := by
  refine Met.ofW (cc := cX5_isTrailing) (maxL := 1) (ret := (some .boolean)) (by decide) rfl ?_
  intro p e s m args below meth c s₁ B hml hv
  obtain ⟨hargs, hP, hKW⟩ := hv
  have hK := hKW.1
  have hx := B.exec
  have hb := B.bytes
  have hr := B.returns
  have hts := atoms_spec (ws := wsX5_isTrailing) B.pre
  have hown : s.vm.findClass RX5 = some m.cls := findClass_of_methodNamed B.named
  have hlocks := B.notSynchronized
  have hent : entryFrame m args 1 = F0 m 0 ((lg_sl ([.int p0]) ++ List.replicate (1 - (lg_sl ([.int p0])).length) Slot.unset).toArray) [] := by rw [hargs]; exact lg_entry_eq _ _ _
  rw [hent]
  have hl := lv_entry ([.int p0]) (n := 1) (Nat.le_of_ble_eq_true rfl)
  generalize (lg_sl ([.int p0]) ++ List.replicate (1 - (lg_sl ([.int p0])).length) Slot.unset).toArray = ls at hl ⊢
  have hl : lv_has ls 1 [(0, .int p0)] := hl
  generalize hQ0 : MQ below _ _ _ _ _ _ = Q0
  unfold fX5_isTrailing at hf
  refine lv_iload_n hx hb dX5_isTrailing_0 rfl (lv_at hl 0 rfl) ?_
  refine lv_bipush (v := 41) hx hb dX5_isTrailing_1 (by decide) ?_
  refine lv_icmp_eq (tgt := 24) hx hb dX5_isTrailing_3 (by decide) (fun c1 => ?_) (fun c1 => ?_)
  · have hf := ite_t hf c1
    refine lv_iconst (v := 1) hx hb dX5_isTrailing_24 (by decide) ?_
    refine lv_goto (tgt := 29) hx hb dX5_isTrailing_25 (by decide) ?_
    have er0 := Option.some.inj hf
    rw [← hQ0]; exact W.zret (v := 1) hx hb hr rfl (fun t ht hW => ⟨1, rfl, ⟨er0, rfl⟩, ht⟩) (fun q h => by cases h) dX5_isTrailing_29
  · have hf := ite_f hf c1
    refine lv_iload_n hx hb dX5_isTrailing_6 rfl (lv_at hl 0 rfl) ?_
    refine lv_bipush (v := 93) hx hb dX5_isTrailing_7 (by decide) ?_
    refine lv_icmp_eq (tgt := 24) hx hb dX5_isTrailing_9 (by decide) (fun c2 => ?_) (fun c2 => ?_)
    · have hf := ite_t hf c2
      refine lv_iconst (v := 1) hx hb dX5_isTrailing_24 (by decide) ?_
      refine lv_goto (tgt := 29) hx hb dX5_isTrailing_25 (by decide) ?_
      have er0 := Option.some.inj hf
      rw [← hQ0]; exact W.zret (v := 1) hx hb hr rfl (fun t ht hW => ⟨1, rfl, ⟨er0, rfl⟩, ht⟩) (fun q h => by cases h) dX5_isTrailing_29
    · have hf := ite_f hf c2
      refine lv_iload_n hx hb dX5_isTrailing_12 rfl (lv_at hl 0 rfl) ?_
      refine lv_bipush (v := 34) hx hb dX5_isTrailing_13 (by decide) ?_
      refine lv_icmp_eq (tgt := 24) hx hb dX5_isTrailing_15 (by decide) (fun c3 => ?_) (fun c3 => ?_)
      · have hf := ite_t hf c3
        refine lv_iconst (v := 1) hx hb dX5_isTrailing_24 (by decide) ?_
        refine lv_goto (tgt := 29) hx hb dX5_isTrailing_25 (by decide) ?_
        have er0 := Option.some.inj hf
        rw [← hQ0]; exact W.zret (v := 1) hx hb hr rfl (fun t ht hW => ⟨1, rfl, ⟨er0, rfl⟩, ht⟩) (fun q h => by cases h) dX5_isTrailing_29
      · have hf := ite_f hf c3
        refine lv_iload_n hx hb dX5_isTrailing_18 rfl (lv_at hl 0 rfl) ?_
        refine lv_bipush (v := 39) hx hb dX5_isTrailing_19 (by decide) ?_
        refine lv_icmp_ne (tgt := 28) hx hb dX5_isTrailing_21 (by decide) (fun c4 => ?_) (fun c4 => ?_)
        · have hf := ite_f hf c4
          refine lv_iconst (v := 0) hx hb dX5_isTrailing_28 (by decide) ?_
          have er0 := Option.some.inj hf
          rw [← hQ0]; exact W.zret (v := 0) hx hb hr rfl (fun t ht hW => ⟨0, rfl, ⟨er0, rfl⟩, ht⟩) (fun q h => by cases h) dX5_isTrailing_29
        · have hf := ite_t hf c4
          refine lv_iconst (v := 1) hx hb dX5_isTrailing_24 (by decide) ?_
          refine lv_goto (tgt := 29) hx hb dX5_isTrailing_25 (by decide) ?_
          have er0 := Option.some.inj hf
          rw [← hQ0]; exact W.zret (v := 1) hx hb hr rfl (fun t ht hW => ⟨1, rfl, ⟨er0, rfl⟩, ht⟩) (fun q h => by cases h) dX5_isTrailing_29
abbrev rmX5_closingBy : Room := { frames := 0, cells := 0, slots := 0, locals := 0 }
set_option maxHeartbeats 8000000 in
set_option maxRecDepth 100000 in
theorem c_X5_closingBy (l : Launch) (g : GG)  (p0 : Int32) (r : Int32) (hf : fX5_closingBy p0 = some r) : Met l yX5_closingBy wsX5_closingBy rmX5_closingBy (va_Pc [.int p0] (fun U => va_P g.1 vwCl ([] : va_W) U.heap ∧ KW g U)) (vp_Si (fun r' => r' = r ∧ True)) 0 0 (fun _ => False) := by
  refine Met.ofW (cc := cX5_closingBy) (maxL := 1) (ret := (some .int)) (by decide) rfl ?_
  intro p e s m args below meth c s₁ B hml hv
  obtain ⟨hargs, hP, hKW⟩ := hv
  have hK := hKW.1
  have hx := B.exec
  have hb := B.bytes
  have hr := B.returns
  have hts := atoms_spec (ws := wsX5_closingBy) B.pre
  have hown : s.vm.findClass RX5 = some m.cls := findClass_of_methodNamed B.named
  have hlocks := B.notSynchronized
  have hent : entryFrame m args 1 = F0 m 0 ((lg_sl ([.int p0]) ++ List.replicate (1 - (lg_sl ([.int p0])).length) Slot.unset).toArray) [] := by rw [hargs]; exact lg_entry_eq _ _ _
  rw [hent]
  have hl := lv_entry ([.int p0]) (n := 1) (Nat.le_of_ble_eq_true rfl)
  generalize (lg_sl ([.int p0]) ++ List.replicate (1 - (lg_sl ([.int p0])).length) Slot.unset).toArray = ls at hl ⊢
  have hl : lv_has ls 1 [(0, .int p0)] := hl
  generalize hQ0 : MQ below _ _ _ _ _ _ = Q0
  unfold fX5_closingBy at hf
  refine lv_iload_n hx hb dX5_closingBy_0 rfl (lv_at hl 0 rfl) ?_
  by_cases c1 : p0 = 33
  · have hf := ite_t hf c1
    refine lv_lookup (tgt := 60) (off := 59) hx hb dX5_closingBy_1 (by decide) (by rw [c1]; rfl) (by decide) ?_
    refine lv_iconst (v := 2) hx hb dX5_closingBy_60 (by decide) ?_
    have er0 := Option.some.inj hf
    rw [← hQ0]; exact W.iret (v := 2) hx hb hr (fun t ht hW => ⟨2, rfl, ⟨er0, trivial⟩, ht⟩) (fun q h => by cases h) dX5_closingBy_61
  have hf := ite_f hf c1
  have q2 := i32_nk (z := 33) (by decide) c1
  by_cases c3 : p0 = 44
  · have hf := ite_t hf c3
    refine lv_lookup (tgt := 62) (off := 61) hx hb dX5_closingBy_1 (by decide) (by rw [c3]; rfl) (by decide) ?_
    refine lv_iconst (v := 1) hx hb dX5_closingBy_62 (by decide) ?_
    have er0 := Option.some.inj hf
    rw [← hQ0]; exact W.iret (v := 1) hx hb hr (fun t ht hW => ⟨1, rfl, ⟨er0, trivial⟩, ht⟩) (fun q h => by cases h) dX5_closingBy_63
  have hf := ite_f hf c3
  have q4 := i32_nk (z := 44) (by decide) c3
  by_cases c5 : p0 = 46
  · have hf := ite_t hf c5
    refine lv_lookup (tgt := 60) (off := 59) hx hb dX5_closingBy_1 (by decide) (by rw [c5]; rfl) (by decide) ?_
    refine lv_iconst (v := 2) hx hb dX5_closingBy_60 (by decide) ?_
    have er0 := Option.some.inj hf
    rw [← hQ0]; exact W.iret (v := 2) hx hb hr (fun t ht hW => ⟨2, rfl, ⟨er0, trivial⟩, ht⟩) (fun q h => by cases h) dX5_closingBy_61
  have hf := ite_f hf c5
  have q6 := i32_nk (z := 46) (by decide) c5
  by_cases c7 : p0 = 58
  · have hf := ite_t hf c7
    refine lv_lookup (tgt := 62) (off := 61) hx hb dX5_closingBy_1 (by decide) (by rw [c7]; rfl) (by decide) ?_
    refine lv_iconst (v := 1) hx hb dX5_closingBy_62 (by decide) ?_
    have er0 := Option.some.inj hf
    rw [← hQ0]; exact W.iret (v := 1) hx hb hr (fun t ht hW => ⟨1, rfl, ⟨er0, trivial⟩, ht⟩) (fun q h => by cases h) dX5_closingBy_63
  have hf := ite_f hf c7
  have q8 := i32_nk (z := 58) (by decide) c7
  by_cases c9 : p0 = 59
  · have hf := ite_t hf c9
    refine lv_lookup (tgt := 62) (off := 61) hx hb dX5_closingBy_1 (by decide) (by rw [c9]; rfl) (by decide) ?_
    refine lv_iconst (v := 1) hx hb dX5_closingBy_62 (by decide) ?_
    have er0 := Option.some.inj hf
    rw [← hQ0]; exact W.iret (v := 1) hx hb hr (fun t ht hW => ⟨1, rfl, ⟨er0, trivial⟩, ht⟩) (fun q h => by cases h) dX5_closingBy_63
  have hf := ite_f hf c9
  have q10 := i32_nk (z := 59) (by decide) c9
  by_cases c11 : p0 = 63
  · have hf := ite_t hf c11
    refine lv_lookup (tgt := 60) (off := 59) hx hb dX5_closingBy_1 (by decide) (by rw [c11]; rfl) (by decide) ?_
    refine lv_iconst (v := 2) hx hb dX5_closingBy_60 (by decide) ?_
    have er0 := Option.some.inj hf
    rw [← hQ0]; exact W.iret (v := 2) hx hb hr (fun t ht hW => ⟨2, rfl, ⟨er0, trivial⟩, ht⟩) (fun q h => by cases h) dX5_closingBy_61
  have hf := ite_f hf c11
  have q12 := i32_nk (z := 63) (by decide) c11
  refine lv_lookup (tgt := 64) (off := 63) hx hb dX5_closingBy_1 (by decide) (by simp [Op.lookupswitch.offset, List.find?, Ne.symm q2, q2, Ne.symm q4, q4, Ne.symm q6, q6, Ne.symm q8, q8, Ne.symm q10, q10, Ne.symm q12, q12]) (by decide) ?_
  refine lv_iconst (v := 0) hx hb dX5_closingBy_64 (by decide) ?_
  have er0 := Option.some.inj hf
  rw [← hQ0]; exact W.iret (v := 0) hx hb hr (fun t ht hW => ⟨0, rfl, ⟨er0, trivial⟩, ht⟩) (fun q h => by cases h) dX5_closingBy_65
abbrev rmX5_at : Room := { frames := 0, cells := 0, slots := 0, locals := 0 }
set_option maxHeartbeats 8000000 in
set_option maxRecDepth 100000 in
theorem c_X5_at (l : Launch) (g : GG) (b1 N1 : Nat) (fr1 : (Nat → Int32)) (p1 : Int32) (r : Int32) (hf : fX5_at N1 fr1 p1 = some r) : Met l yX5_at wsX5_at rmX5_at (va_Pc [.ref b1, .int p1] (fun U => va_P g.1 vwCl (pR g b1 N1 fr1) U.heap ∧ KW g U)) (vp_Si (fun r' => r' = r ∧ True)) 0 0 (fun _ => False) := by
  refine Met.ofW (cc := cX5_at) (maxL := 2) (ret := (some .int)) (by decide) rfl ?_
  intro p e s m args below meth c s₁ B hml hv
  obtain ⟨hargs, hP, hKW⟩ := hv
  have hK := hKW.1
  have hx := B.exec
  have hb := B.bytes
  have hr := B.returns
  have hts := atoms_spec (ws := wsX5_at) B.pre
  have hown : s.vm.findClass RX5 = some m.cls := findClass_of_methodNamed B.named
  have hlocks := B.notSynchronized
  have hent : entryFrame m args 2 = F0 m 0 ((lg_sl ([.ref b1, .int p1]) ++ List.replicate (2 - (lg_sl ([.ref b1, .int p1])).length) Slot.unset).toArray) [] := by rw [hargs]; exact lg_entry_eq _ _ _
  rw [hent]
  have hl := lv_entry ([.ref b1, .int p1]) (n := 2) (Nat.le_of_ble_eq_true rfl)
  generalize (lg_sl ([.ref b1, .int p1]) ++ List.replicate (2 - (lg_sl ([.ref b1, .int p1])).length) Slot.unset).toArray = ls at hl ⊢
  have hl : lv_has ls 2 [(0, .ref b1), (1, .int p1)] := hl
  generalize hQ0 : MQ below _ _ _ _ _ _ = Q0
  unfold fX5_at at hf
  refine lv_iload_n hx hb dX5_at_0 rfl (lv_at hl 1 rfl) ?_
  refine lv_if_lt (tgt := 16) hx hb dX5_at_1 (by decide) (fun c1 => ?_) (fun c1 => ?_)
  · have hf := ite_t hf c1
    refine lv_iconst (v := 0) hx hb dX5_at_16 (by decide) ?_
    have er0 := Option.some.inj hf
    rw [← hQ0]; exact W.iret (v := 0) hx hb hr (fun t ht hW => ⟨0, rfl, ⟨er0, trivial⟩, ht⟩) (fun q h => by cases h) dX5_at_17
  · have hf := ite_f hf c1
    refine lv_iload_n hx hb dX5_at_4 rfl (lv_at hl 1 rfl) ?_
    refine lv_aload_n hx hb dX5_at_5 rfl (lv_at hl 0 rfl) ?_
    refine va_alen (v := (nI N1)) hx hb hK hP 0 0 rfl rfl rfl dX5_at_6 ?_
    refine lv_icmp_ge (tgt := 16) hx hb dX5_at_7 (by decide) (fun c2 => ?_) (fun c2 => ?_)
    · have hf := ite_t hf c2
      refine lv_iconst (v := 0) hx hb dX5_at_16 (by decide) ?_
      have er0 := Option.some.inj hf
      rw [← hQ0]; exact W.iret (v := 0) hx hb hr (fun t ht hW => ⟨0, rfl, ⟨er0, trivial⟩, ht⟩) (fun q h => by cases h) dX5_at_17
    · have hf := ite_f hf c2
      refine lv_aload_n hx hb dX5_at_10 rfl (lv_at hl 0 rfl) ?_
      refine lv_iload_n hx hb dX5_at_11 rfl (lv_at hl 1 rfl) ?_
      obtain ⟨h5, v3, e4, hf⟩ := rdA_el hf
      refine va_iald hx hb hK hP 0 0 rfl rfl h5 dX5_at_12 ?_
      refine lv_as e4 ?_
      refine lv_goto (tgt := 17) hx hb dX5_at_13 (by decide) ?_
      have er0 := Option.some.inj hf
      rw [← hQ0]; exact W.iret (v := v3) hx hb hr (fun t ht hW => ⟨v3, rfl, ⟨er0, trivial⟩, ht⟩) (fun q h => by cases h) dX5_at_17
abbrev rmX5_put : Room := { frames := 0, cells := 0, slots := 0, locals := 0 }
set_option maxHeartbeats 8000000 in
set_option maxRecDepth 100000 in
theorem c_X5_put (l : Launch) (g : GG) (b1 N1 : Nat) (sz : Nat) (fr1 : (Nat → Int32)) (p1 p2 : Int32) (fr1z : (Nat → Int32)) (hf : fX5_put N1 fr1 p1 p2 = some fr1z) : Met l yX5_put wsX5_put rmX5_put (va_Pc [.ref b1, .int p1, .int p2] (fun U => U.heap.size = sz ∧ va_P g.1 vwCl (pR g b1 N1 fr1) U.heap ∧ KW g U ∧ va_D (fun _ => True) (pR g b1 N1 fr1))) (va_Qv (fun (_ : Unit) => True) (fun (_ : Unit) t => va_P g.1 vwCl (pR g b1 N1 fr1z) t.heap) (va_A (pR g b1 N1 fr1) sz)) 0 0 (va_A (pR g b1 N1 fr1) sz) := by
  refine Met.ofW (cc := cX5_put) (maxL := 3) (ret := none) (by decide) rfl ?_
  intro p e s m args below meth c s₁ B hml hv
  obtain ⟨hargs, hsz, hP, hKW, hD0⟩ := hv
  have hK := hKW.1
  have hx := B.exec
  have hb := B.bytes
  have hr := B.returns
  have hts := atoms_spec (ws := wsX5_put) B.pre
  have hown : s.vm.findClass RX5 = some m.cls := findClass_of_methodNamed B.named
  have hlocks := B.notSynchronized
  subst hsz
  have hD := hD0.self (sz := s.heap.size)
  generalize hAe : va_A (pR g b1 N1 fr1) s.heap.size = A at hD ⊢
  have hA : ∀ q : Nat, s.heap.size ≤ q → A q := fun q h => by rw [← hAe]; exact Or.inr h
  have hS : va_S A s.heap s.heap [] := va_S.rf
  have hent : entryFrame m args 3 = F0 m 0 ((lg_sl ([.ref b1, .int p1, .int p2]) ++ List.replicate (3 - (lg_sl ([.ref b1, .int p1, .int p2])).length) Slot.unset).toArray) [] := by rw [hargs]; exact lg_entry_eq _ _ _
  rw [hent]
  have hl := lv_entry ([.ref b1, .int p1, .int p2]) (n := 3) (Nat.le_of_ble_eq_true rfl)
  generalize (lg_sl ([.ref b1, .int p1, .int p2]) ++ List.replicate (3 - (lg_sl ([.ref b1, .int p1, .int p2])).length) Slot.unset).toArray = ls at hl ⊢
  have hl : lv_has ls 3 [(0, .ref b1), (1, .int p1), (2, .int p2)] := hl
  generalize hQ0 : MQ below _ _ _ _ _ _ = Q0
  unfold fX5_put at hf
  refine lv_iload_n hx hb dX5_put_0 rfl (lv_at hl 1 rfl) ?_
  refine lv_if_lt (tgt := 14) hx hb dX5_put_1 (by decide) (fun c1 => ?_) (fun c1 => ?_)
  · have hf := ite_t hf c1
    have er0 := Option.some.inj hf
    rw [← hQ0]; exact W.vret hx hb hr (fun t ht hW => ⟨⟨(), rfl, trivial, by dsimp only; rw [ht, ← er0]; exact hP⟩, hS.F ht⟩) hS.2.2 dX5_put_14
  · have hf := ite_f hf c1
    refine lv_iload_n hx hb dX5_put_4 rfl (lv_at hl 1 rfl) ?_
    refine lv_aload_n hx hb dX5_put_5 rfl (lv_at hl 0 rfl) ?_
    refine va_alen (v := (nI N1)) hx hb hK hP 0 0 rfl rfl rfl dX5_put_6 ?_
    refine lv_icmp_ge (tgt := 14) hx hb dX5_put_7 (by decide) (fun c2 => ?_) (fun c2 => ?_)
    · have hf := ite_t hf c2
      have er0 := Option.some.inj hf
      rw [← hQ0]; exact W.vret hx hb hr (fun t ht hW => ⟨⟨(), rfl, trivial, by dsimp only; rw [ht, ← er0]; exact hP⟩, hS.F ht⟩) hS.2.2 dX5_put_14
    · have hf := ite_f hf c2
      refine lv_aload_n hx hb dX5_put_10 rfl (lv_at hl 0 rfl) ?_
      refine lv_iload_n hx hb dX5_put_11 rfl (lv_at hl 1 rfl) ?_
      refine lv_iload_n hx hb dX5_put_12 rfl (lv_at hl 2 rfl) ?_
      obtain ⟨h5, f3, e4, hf⟩ := wrA_el hf
      refine va_iast hx hb hK hP hD hS 0 0 rfl rfl h5 dX5_put_13 (fun H locs hP hD hS => ?_)
      have hP : va_P g.1 vwCl (pR g b1 N1 f3) H := by subst e4; exact hP
      have hD : va_D A (pR g b1 N1 f3) := by subst e4; exact hD
      have er0 := Option.some.inj hf
      rw [← hQ0]; exact W.vret hx hb hr (fun t ht hW => ⟨⟨(), rfl, trivial, by dsimp only; rw [ht, ← er0]; exact hP⟩, hS.F ht⟩) hS.2.2 dX5_put_14
abbrev rmX5_fill : Room := { frames := 0, cells := 0, slots := 0, locals := 0 }
set_option maxHeartbeats 8000000 in
set_option maxRecDepth 100000 in
theorem c_X5_fill (l : Launch) (g : GG) (b1 N1 : Nat) (sz : Nat) (n : Nat) (fr1 : (Nat → Int32)) (p1 : Int32) (fr1z : (Nat → Int32)) (hf : fX5_fill n N1 fr1 p1 = some fr1z) : Met l yX5_fill wsX5_fill rmX5_fill (va_Pc [.ref b1, .int p1] (fun U => U.heap.size = sz ∧ va_P g.1 vwCl (pR g b1 N1 fr1) U.heap ∧ KW g U ∧ va_D (fun _ => True) (pR g b1 N1 fr1))) (va_Qv (fun (_ : Unit) => True) (fun (_ : Unit) t => va_P g.1 vwCl (pR g b1 N1 fr1z) t.heap) (va_A (pR g b1 N1 fr1) sz)) 0 0 (va_A (pR g b1 N1 fr1) sz) := by
  refine Met.ofW (cc := cX5_fill) (maxL := 3) (ret := none) (by decide) rfl ?_
  intro p e s m args below meth c s₁ B hml hv
  obtain ⟨hargs, hsz, hP, hKW, hD0⟩ := hv
  have hK := hKW.1
  have hx := B.exec
  have hb := B.bytes
  have hr := B.returns
  have hts := atoms_spec (ws := wsX5_fill) B.pre
  have hown : s.vm.findClass RX5 = some m.cls := findClass_of_methodNamed B.named
  have hlocks := B.notSynchronized
  subst hsz
  have hD := hD0.self (sz := s.heap.size)
  generalize hAe : va_A (pR g b1 N1 fr1) s.heap.size = A at hD ⊢
  have hA : ∀ q : Nat, s.heap.size ≤ q → A q := fun q h => by rw [← hAe]; exact Or.inr h
  have hS : va_S A s.heap s.heap [] := va_S.rf
  have hent : entryFrame m args 3 = F0 m 0 ((lg_sl ([.ref b1, .int p1]) ++ List.replicate (3 - (lg_sl ([.ref b1, .int p1])).length) Slot.unset).toArray) [] := by rw [hargs]; exact lg_entry_eq _ _ _
  rw [hent]
  have hl := lv_entry ([.ref b1, .int p1]) (n := 3) (Nat.le_of_ble_eq_true rfl)
  generalize (lg_sl ([.ref b1, .int p1]) ++ List.replicate (3 - (lg_sl ([.ref b1, .int p1])).length) Slot.unset).toArray = ls at hl ⊢
  have hl : lv_has ls 3 [(0, .ref b1), (1, .int p1)] := hl
  generalize hQ0 : MQ below _ _ _ _ _ _ = Q0
  unfold fX5_fill at hf
  refine lv_iconst (v := 0) hx hb dX5_fill_0 (by decide) ?_
  refine lv_istore_n (lv' := [(2, .int 0), (0, .ref b1), (1, .int p1)]) hx hb dX5_fill_1 rfl hl (by decide) rfl (fun ls hl => ?_)
  have L_2 : ∀ fu : Nat, ∀ (x1 x2 : Int32) (fr1 : (Nat → Int32)) (H : Heap) (locs : List Loc) (ls : Array Slot), va_P g.1 vwCl (pR g b1 N1 fr1) H → va_D A (pR g b1 N1 fr1) → va_S A s.heap H locs → lv_has ls 3 [(0, .ref b1), (1, .int x1), (2, .int x2)] → fX5_fill_L2 n N1 fu x1 x2 fr1 = some fr1z → W p l e (headSpec wsX5_fill rmX5_fill).room s m args below meth c H locs 0 0 Q0 (F0 m 2 ls []) := by
    intro fu
    induction fu with
    | zero => intros; rename_i hf; rw [fX5_fill_L2] at hf; cases hf
    | succ fu ih =>
      intro x1 x2 fr1 H locs ls hP hD hS hl hf
      rw [fX5_fill_L2] at hf
      refine lv_iload_n hx hb dX5_fill_2 rfl (lv_at hl 2 rfl) ?_
      refine lv_aload_n hx hb dX5_fill_3 rfl (lv_at hl 0 rfl) ?_
      refine va_alen (v := (nI N1)) hx hb hK hP 0 0 rfl rfl rfl dX5_fill_4 ?_
      refine lv_icmp_ge (tgt := 18) hx hb dX5_fill_5 (by decide) (fun c1 => ?_) (fun c1 => ?_)
      · have hf := ite_t hf c1
        have er0 := Option.some.inj hf
        rw [← hQ0]; exact W.vret hx hb hr (fun t ht hW => ⟨⟨(), rfl, trivial, by dsimp only; rw [ht, ← er0]; exact hP⟩, hS.F ht⟩) hS.2.2 dX5_fill_18
      · have hf := ite_f hf c1
        refine lv_aload_n hx hb dX5_fill_8 rfl (lv_at hl 0 rfl) ?_
        refine lv_iload_n hx hb dX5_fill_9 rfl (lv_at hl 2 rfl) ?_
        refine lv_iload_n hx hb dX5_fill_10 rfl (lv_at hl 1 rfl) ?_
        obtain ⟨h4, f2, e3, hf⟩ := wrA_el hf
        refine va_iast hx hb hK hP hD hS 0 0 rfl rfl h4 dX5_fill_11 (fun H locs hP hD hS => ?_)
        have hP : va_P g.1 vwCl (pR g b1 N1 f2) H := by subst e3; exact hP
        have hD : va_D A (pR g b1 N1 f2) := by subst e3; exact hD
        obtain ⟨v5, e6, hf⟩ := sl_el hf
        refine lv_iinc (v := v5) (lv' := [(2, .int v5), (0, .ref b1), (1, .int x1)]) hx hb dX5_fill_12 hl (k := 2) rfl (by rw [e6]; rfl) (by decide) rfl (fun ls hl => ?_)
        refine lv_goto (tgt := 2) hx hb dX5_fill_15 (by decide) ?_
        exact ih x1 v5 f2 _ _ ls hP hD hS (lv_sub hl [1, 2, 0] rfl) hf
  exact L_2 n p1 0 fr1 _ _ ls hP hD hS (lv_sub hl [1, 2, 0] rfl) hf
abbrev rmX5_copyRow : Room := { frames := 1, cells := 0, slots := 0, locals := 40 }
set_option maxHeartbeats 8000000 in
set_option maxRecDepth 100000 in
theorem c_X5_copyRow (l : Launch) (g : GG) (b1 N1 : Nat) (b2 N2 : Nat) (sz : Nat) (fr1 : (Nat → Int32)) (fr2 : (Nat → Int32)) (fr2z : (Nat → Int32)) (hf : fX5_copyRow N1 fr1 N2 fr2 = some fr2z) : Met l yX5_copyRow wsX5_copyRow rmX5_copyRow (va_Pc [.ref b1, .ref b2] (fun U => U.heap.size = sz ∧ va_P g.1 vwCl (pR g b1 N1 fr1 ++ (pR g b2 N2 fr2)) U.heap ∧ KW g U ∧ va_D (fun _ => True) (pR g b1 N1 fr1 ++ (pR g b2 N2 fr2)))) (va_Qv (fun (_ : Unit) => True) (fun (_ : Unit) t => va_P g.1 vwCl (pR g b1 N1 fr1 ++ (pR g b2 N2 fr2z)) t.heap) (va_A (pR g b1 N1 fr1 ++ (pR g b2 N2 fr2)) sz)) 0 0 (va_A (pR g b1 N1 fr1 ++ (pR g b2 N2 fr2)) sz) := by
  refine Met.ofW (cc := cX5_copyRow) (maxL := 2) (ret := none) (by decide) rfl ?_
  intro p e s m args below meth c s₁ B hml hv
  obtain ⟨hargs, hsz, hP, hKW, hD0⟩ := hv
  have hK := hKW.1
  have hx := B.exec
  have hb := B.bytes
  have hr := B.returns
  have hts := atoms_spec (ws := wsX5_copyRow) B.pre
  have hown : s.vm.findClass RX5 = some m.cls := findClass_of_methodNamed B.named
  have hlocks := B.notSynchronized
  subst hsz
  have hD := hD0.self (sz := s.heap.size)
  generalize hAe : va_A (pR g b1 N1 fr1 ++ (pR g b2 N2 fr2)) s.heap.size = A at hD ⊢
  have hA : ∀ q : Nat, s.heap.size ≤ q → A q := fun q h => by rw [← hAe]; exact Or.inr h
  have hS : va_S A s.heap s.heap [] := va_S.rf
  have hent : entryFrame m args 2 = F0 m 0 ((lg_sl ([.ref b1, .ref b2]) ++ List.replicate (2 - (lg_sl ([.ref b1, .ref b2])).length) Slot.unset).toArray) [] := by rw [hargs]; exact lg_entry_eq _ _ _
  rw [hent]
  have hl := lv_entry ([.ref b1, .ref b2]) (n := 2) (Nat.le_of_ble_eq_true rfl)
  generalize (lg_sl ([.ref b1, .ref b2]) ++ List.replicate (2 - (lg_sl ([.ref b1, .ref b2])).length) Slot.unset).toArray = ls at hl ⊢
  have hl : lv_has ls 2 [(0, .ref b1), (1, .ref b2)] := hl
  generalize hQ0 : MQ below _ _ _ _ _ _ = Q0
  unfold fX5_copyRow at hf
  refine lv_aload_n hx hb dX5_copyRow_0 rfl (lv_at hl 0 rfl) ?_
  refine lv_iconst (v := 0) hx hb dX5_copyRow_1 (by decide) ?_
  refine lv_aload_n hx hb dX5_copyRow_2 rfl (lv_at hl 1 rfl) ?_
  refine lv_iconst (v := 0) hx hb dX5_copyRow_3 (by decide) ?_
  refine lv_aload_n hx hb dX5_copyRow_4 rfl (lv_at hl 0 rfl) ?_
  refine va_alen (v := (nI N1)) hx hb hK hP 0 0 rfl rfl rfl dX5_copyRow_5 ?_
  refine lv_aload_n hx hb dX5_copyRow_6 rfl (lv_at hl 1 rfl) ?_
  refine va_alen (v := (nI N2)) hx hb hK hP 1 0 rfl rfl rfl dX5_copyRow_7 ?_
  obtain ⟨v1, e2, hf⟩ := sl_el hf
  refine va_mmin hx hb (hml.trans hl.1.symm) hown (hts (.methodLink RX5 256 Lib.Math.min.name) (List.mem_of_getElem? (i := 1) rfl)) (hts (.static Lib.Math.min.name) (List.mem_of_getElem? (i := 2) rfl)) (hts (.initialized "java/lang/Math") (List.mem_of_getElem? (i := 3) rfl)) (hts (.code Lib.Math.min.name Lib.Math.min.code 2 (some .int)) (List.mem_of_getElem? (i := 4) rfl)) (Nat.le_of_ble_eq_true rfl) (Nat.le_of_ble_eq_true rfl) (Nat.zero_le _) (Nat.zero_le _) dX5_copyRow_8 ?_
  refine lv_as e2 ?_
  obtain ⟨h3, h4, h5, h6, h7, f8, e9, hf⟩ := cpA_el hf
  refine va_copyi hx hb (hml.trans hl.1.symm) hown (hts (.methodLink RX5 261 arraycopyName) (List.mem_of_getElem? (i := 5) rfl)) (hts (.native arraycopyName) (List.mem_of_getElem? (i := 6) rfl)) (hts (.static arraycopyName) (List.mem_of_getElem? (i := 7) rfl)) (hts (.initialized "java/lang/System") (List.mem_of_getElem? (i := 8) rfl)) hK hP hD hS 0 1 0 0 rfl rfl rfl rfl rfl h3 h4 h5 h6 h7 (fun _ _ => rfl) (Nat.le_of_ble_eq_true rfl) (Nat.le_of_ble_eq_true rfl) dX5_copyRow_11 (fun H locs hP hD hS => ?_)
  have hP : va_P g.1 vwCl (pR g b1 N1 fr1 ++ (pR g b2 N2 f8)) H := by subst e9; exact hP
  have hD : va_D A (pR g b1 N1 fr1 ++ (pR g b2 N2 f8)) := by subst e9; exact hD
  have er0 := Option.some.inj hf
  rw [← hQ0]; exact W.vret hx hb hr (fun t ht hW => ⟨⟨(), rfl, trivial, by dsimp only; rw [ht, ← er0]; exact hP⟩, hS.F ht⟩) hS.2.2 dX5_copyRow_14
abbrev rmX2_has : Room := { frames := 0, cells := 0, slots := 0, locals := 0 }
set_option maxHeartbeats 8000000 in
set_option maxRecDepth 100000 in
theorem c_X2_has (l : Launch) (g : GG) (aP : Nat → Nat) (XP : DM) (p1 : Int32) (r : Int32) (hf : fX2_has XP p1 = some r) : Met l yX2_has wsX2_has rmX2_has (va_Pc [.ref (aP 0), .int p1] (fun U => va_P g.1 vwCl (pP g aP XP) U.heap ∧ KW g U)) (vp_Si (fun r' => r' = r ∧ narrow .boolean (.int r') = .int r')) 0 0 (fun _ => False) := by
  refine Met.ofW (cc := cX2_has) (maxL := 2) (ret := (some .boolean)) (by decide) rfl ?_
  intro p e s m args below meth c s₁ B hml hv
  obtain ⟨hargs, hP, hKW⟩ := hv
  have hK := hKW.1
  have hx := B.exec
  have hb := B.bytes
  have hr := B.returns
  have hts := atoms_spec (ws := wsX2_has) B.pre
  have hown : s.vm.findClass RX2 = some m.cls := findClass_of_methodNamed B.named
  have hlocks := B.notSynchronized
  have i_X2 : ∀ w ∈ wsX20, w ∈ wsX2_has := fun w h => List.mem_cons_of_mem _ (List.mem_append_right _ h)
  have hent : entryFrame m args 2 = F0 m 0 ((lg_sl ([.ref (aP 0), .int p1]) ++ List.replicate (2 - (lg_sl ([.ref (aP 0), .int p1])).length) Slot.unset).toArray) [] := by rw [hargs]; exact lg_entry_eq _ _ _
  rw [hent]
  have hl := lv_entry ([.ref (aP 0), .int p1]) (n := 2) (Nat.le_of_ble_eq_true rfl)
  generalize (lg_sl ([.ref (aP 0), .int p1]) ++ List.replicate (2 - (lg_sl ([.ref (aP 0), .int p1])).length) Slot.unset).toArray = ls at hl ⊢
  have hl : lv_has ls 2 [(0, .ref (aP 0)), (1, .int p1)] := hl
  generalize hQ0 : MQ below _ _ _ _ _ _ = Q0
  unfold fX2_has at hf
  refine lv_iload_n hx hb dX2_has_0 rfl (lv_at hl 1 rfl) ?_
  refine lv_if_lt (tgt := 16) hx hb dX2_has_1 (by decide) (fun c1 => ?_) (fun c1 => ?_)
  · have hf := ite_t hf c1
    refine lv_iconst (v := 0) hx hb dX2_has_16 (by decide) ?_
    have er0 := Option.some.inj hf
    rw [← hQ0]; exact W.zret (v := 0) hx hb hr rfl (fun t ht hW => ⟨0, rfl, ⟨er0, rfl⟩, ht⟩) (fun q h => by cases h) dX2_has_17
  · have hf := ite_f hf c1
    refine lv_iload_n hx hb dX2_has_4 rfl (lv_at hl 1 rfl) ?_
    refine lv_aload_n hx hb dX2_has_5 rfl (lv_at hl 0 rfl) ?_
    refine va_get (D := g.1) (ci := 2) (v := .int (XP 3 0)) (C := RX2) (T := TX2) (N := 4) hx hb hts i_X2 hown hK hP 0 rfl rfl 3 (by decide) (hts (.fieldLink RX2 21 "WordFlasher$Spans" "many" "I") (List.mem_of_getElem? (i := 1) rfl)) (fun _ h9 => h9) rfl dX2_has_6 ?_
    refine lv_icmp_ge (tgt := 16) hx hb dX2_has_9 (by decide) (fun c2 => ?_) (fun c2 => ?_)
    · have hf := ite_t hf c2
      refine lv_iconst (v := 0) hx hb dX2_has_16 (by decide) ?_
      have er0 := Option.some.inj hf
      rw [← hQ0]; exact W.zret (v := 0) hx hb hr rfl (fun t ht hW => ⟨0, rfl, ⟨er0, rfl⟩, ht⟩) (fun q h => by cases h) dX2_has_17
    · have hf := ite_f hf c2
      refine lv_iconst (v := 1) hx hb dX2_has_12 (by decide) ?_
      refine lv_goto (tgt := 17) hx hb dX2_has_13 (by decide) ?_
      have er0 := Option.some.inj hf
      rw [← hQ0]; exact W.zret (v := 1) hx hb hr rfl (fun t ht hW => ⟨1, rfl, ⟨er0, rfl⟩, ht⟩) (fun q h => by cases h) dX2_has_17
abbrev rmX2_clear : Room := { frames := 0, cells := 0, slots := 0, locals := 0 }
set_option maxHeartbeats 8000000 in
set_option maxRecDepth 100000 in
theorem c_X2_clear (l : Launch) (g : GG) (aP : Nat → Nat) (sz : Nat) (XP : DM) (XPz : DM) (hf : fX2_clear XP = some XPz) : Met l yX2_clear wsX2_clear rmX2_clear (va_Pc [.ref (aP 0)] (fun U => U.heap.size = sz ∧ va_P g.1 vwCl (pP g aP XP) U.heap ∧ KW g U ∧ va_D (fun _ => True) (pP g aP XP))) (va_Qv (fun (_ : Unit) => True) (fun (_ : Unit) t => va_P g.1 vwCl (pP g aP XPz) t.heap) (va_A (pP g aP XP) sz)) 0 0 (va_A (pP g aP XP) sz) := by
  refine Met.ofW (cc := cX2_clear) (maxL := 1) (ret := none) (by decide) rfl ?_
  intro p e s m args below meth c s₁ B hml hv
  obtain ⟨hargs, hsz, hP, hKW, hD0⟩ := hv
  have hK := hKW.1
  have hx := B.exec
  have hb := B.bytes
  have hr := B.returns
  have hts := atoms_spec (ws := wsX2_clear) B.pre
  have hown : s.vm.findClass RX2 = some m.cls := findClass_of_methodNamed B.named
  have hlocks := B.notSynchronized
  subst hsz
  have hD := hD0.self (sz := s.heap.size)
  generalize hAe : va_A (pP g aP XP) s.heap.size = A at hD ⊢
  have hA : ∀ q : Nat, s.heap.size ≤ q → A q := fun q h => by rw [← hAe]; exact Or.inr h
  have hS : va_S A s.heap s.heap [] := va_S.rf
  have i_X2 : ∀ w ∈ wsX20, w ∈ wsX2_clear := fun w h => List.mem_cons_of_mem _ (List.mem_append_right _ h)
  have hent : entryFrame m args 1 = F0 m 0 ((lg_sl ([.ref (aP 0)]) ++ List.replicate (1 - (lg_sl ([.ref (aP 0)])).length) Slot.unset).toArray) [] := by rw [hargs]; exact lg_entry_eq _ _ _
  rw [hent]
  have hl := lv_entry ([.ref (aP 0)]) (n := 1) (Nat.le_of_ble_eq_true rfl)
  generalize (lg_sl ([.ref (aP 0)]) ++ List.replicate (1 - (lg_sl ([.ref (aP 0)])).length) Slot.unset).toArray = ls at hl ⊢
  have hl : lv_has ls 1 [(0, .ref (aP 0))] := hl
  generalize hQ0 : MQ below _ _ _ _ _ _ = Q0
  unfold fX2_clear at hf
  refine lv_aload_n hx hb dX2_clear_0 rfl (lv_at hl 0 rfl) ?_
  refine lv_iconst (v := 0) hx hb dX2_clear_1 (by decide) ?_
  obtain ⟨X1, e2, hf⟩ := sl_el hf
  refine va_put (D := g.1) (ci := 2) (v := .int 0) (ty := .int) (C := RX2) (T := TX2) (N := 4) hx hb hts i_X2 tyX2 tyX2_ok nmX2 hown hK hP hD hS 0 rfl rfl 3 (by decide) (hts (.fieldLink RX2 21 "WordFlasher$Spans" "many" "I") (List.mem_of_getElem? (i := 1) rfl)) (fun _ h9 => h9) rfl (by decide +kernel) rfl rfl (Nat.le_of_ble_eq_true rfl) dX2_clear_2 (fun H locs hP hD hS => ?_)
  have hP : va_P g.1 vwCl (pP g aP X1) H := by subst e2; exact hP
  have hD : va_D A (pP g aP X1) := by subst e2; exact hD
  have er0 := Option.some.inj hf
  rw [← hQ0]; exact W.vret hx hb hr (fun t ht hW => ⟨⟨(), rfl, trivial, by dsimp only; rw [ht, ← er0]; exact hP⟩, hS.F ht⟩) hS.2.2 dX2_clear_5
abbrev rmX2_add : Room := { frames := 1, cells := 0, slots := 0, locals := 22 }
set_option maxHeartbeats 8000000 in
set_option maxRecDepth 100000 in
theorem c_X2_add (l : Launch) (g : GG) (aP : Nat → Nat) (sz : Nat) (XP : DM) (p1 p2 : Int32) (XPz : DM) (hf : fX2_add XP p1 p2 = some XPz) : Met l yX2_add wsX2_add rmX2_add (va_Pc [.ref (aP 0), .int p1, .int p2] (fun U => U.heap.size = sz ∧ va_P g.1 vwCl (pP g aP XP) U.heap ∧ KW g U ∧ va_D (fun _ => True) (pP g aP XP))) (va_Qv (fun (_ : Unit) => True) (fun (_ : Unit) t => va_P g.1 vwCl (pP g aP XPz) t.heap) (va_A (pP g aP XP) sz)) 0 0 (va_A (pP g aP XP) sz) := by
  refine Met.ofW (cc := cX2_add) (maxL := 3) (ret := none) (by decide) rfl ?_
  intro p e s m args below meth c s₁ B hml hv
  obtain ⟨hargs, hsz, hP, hKW, hD0⟩ := hv
  have hK := hKW.1
  have hx := B.exec
  have hb := B.bytes
  have hr := B.returns
  have hts := atoms_spec (ws := wsX2_add) B.pre
  have hown : s.vm.findClass RX2 = some m.cls := findClass_of_methodNamed B.named
  have hlocks := B.notSynchronized
  subst hsz
  have hD := hD0.self (sz := s.heap.size)
  generalize hAe : va_A (pP g aP XP) s.heap.size = A at hD ⊢
  have hA : ∀ q : Nat, s.heap.size ≤ q → A q := fun q h => by rw [← hAe]; exact Or.inr h
  have hS : va_S A s.heap s.heap [] := va_S.rf
  have i_X2 : ∀ w ∈ wsX20, w ∈ wsX2_add := fun w h => List.mem_cons_of_mem _ (List.mem_append_right _ h)
  have hent : entryFrame m args 3 = F0 m 0 ((lg_sl ([.ref (aP 0), .int p1, .int p2]) ++ List.replicate (3 - (lg_sl ([.ref (aP 0), .int p1, .int p2])).length) Slot.unset).toArray) [] := by rw [hargs]; exact lg_entry_eq _ _ _
  rw [hent]
  have hl := lv_entry ([.ref (aP 0), .int p1, .int p2]) (n := 3) (Nat.le_of_ble_eq_true rfl)
  generalize (lg_sl ([.ref (aP 0), .int p1, .int p2]) ++ List.replicate (3 - (lg_sl ([.ref (aP 0), .int p1, .int p2])).length) Slot.unset).toArray = ls at hl ⊢
  have hl : lv_has ls 3 [(0, .ref (aP 0)), (1, .int p1), (2, .int p2)] := hl
  generalize hQ0 : MQ below _ _ _ _ _ _ = Q0
  unfold fX2_add at hf
  refine lv_iload_n hx hb dX2_add_0 rfl (lv_at hl 2 rfl) ?_
  obtain ⟨j26, ej26, hf⟩ := sl_el hf
  have J_26 : ∀ (x1 : Int32) (XP : DM) (H : Heap) (locs : List Loc) (ls : Array Slot), va_P g.1 vwCl (pP g aP XP) H → va_D A (pP g aP XP) → va_S A s.heap H locs → lv_has ls 3 [(0, .ref (aP 0)), (1, .int x1)] → j26 x1 XP = some XPz → W p l e (headSpec wsX2_add rmX2_add).room s m args below meth c H locs 0 0 Q0 (F0 m 26 ls []) := by
    intro x1 XP H locs ls hP hD hS hl hf
    rw [ej26] at hf
    refine lv_aload_n hx hb dX2_add_26 rfl (lv_at hl 0 rfl) ?_
    refine va_get (D := g.1) (ci := 2) (v := .ref (aP 2)) (C := RX2) (T := TX2) (N := 4) hx hb hts i_X2 hown hK hP 0 rfl rfl 1 (by decide) (hts (.fieldLink RX2 15 "WordFlasher$Spans" "lasts" "[I") (List.mem_of_getElem? (i := 3) rfl)) (fun _ h9 => h9) rfl dX2_add_27 ?_
    refine lv_aload_n hx hb dX2_add_30 rfl (lv_at hl 0 rfl) ?_
    refine va_get (D := g.1) (ci := 2) (v := .int (XP 3 0)) (C := RX2) (T := TX2) (N := 4) hx hb hts i_X2 hown hK hP 0 rfl rfl 3 (by decide) (hts (.fieldLink RX2 21 "WordFlasher$Spans" "many" "I") (List.mem_of_getElem? (i := 2) rfl)) (fun _ h9 => h9) rfl dX2_add_31 ?_
    refine lv_iconst (v := 1) hx hb dX2_add_34 (by decide) ?_
    refine lv_isub hx hb dX2_add_35 ?_
    refine lv_iload_n hx hb dX2_add_36 rfl (lv_at hl 1 rfl) ?_
    obtain ⟨f1, h2, hf⟩ := bnd_el hf
    obtain ⟨X3, e4, hf⟩ := sl_el hf
    refine wr_v (rest := []) (wc := (pR g (aP 2) 150 (XP 1))) (wc' := (pR g (aP 2) 150 f1)) (ws2 := (pP g aP X3)) hP hD hS hA [2] rfl rfl (by subst e4; rfl) (rnN (As := [.ref (aP 2), .int ((XP 3 0) - 1), .int x1]) ⟨hx, hb, hml, hown, hts⟩ (c_X5_put l g (aP 2) 150 _ _ _ _ _ h2) ⟨va_cnB 3 hts gX2_add_X5_put_n25 rfl rfl rfl (hKW.2 _ (List.mem_of_getElem? (i := 10) rfl)) (hts (.initialized RX5) (List.mem_of_getElem? (i := 6) rfl)) (by decide +kernel) ⟨Nat.le_of_ble_eq_true rfl, Nat.le_of_ble_eq_true rfl⟩, (hts (.static yX5_put) (List.mem_of_getElem? (i := 5) rfl)), trivial⟩ hKW hP hD [2] (by decide) rfl rfl hl.1 rfl (lv_room (Nat.le_of_ble_eq_true rfl)) dX2_add_37 ⟨Nat.zero_le _, Nat.zero_le _⟩) (fun H locs hP hD hS => ?_)
    refine lv_aload_n hx hb dX2_add_40 rfl (lv_at hl 0 rfl) ?_
    refine va_get (D := g.1) (ci := 2) (v := .ref (aP 3)) (C := RX2) (T := TX2) (N := 4) hx hb hts i_X2 hown hK hP 0 rfl rfl 2 (by decide) (hts (.fieldLink RX2 18 "WordFlasher$Spans" "numbers" "[I") (List.mem_of_getElem? (i := 4) rfl)) (fun _ h9 => h9) rfl dX2_add_41 ?_
    refine lv_iload_n hx hb dX2_add_44 rfl (lv_at hl 1 rfl) ?_
    refine lv_aload_n hx hb dX2_add_45 rfl (lv_at hl 0 rfl) ?_
    refine va_get (D := g.1) (ci := 2) (v := .int (X3 3 0)) (C := RX2) (T := TX2) (N := 4) hx hb hts i_X2 hown hK hP 0 rfl rfl 3 (by decide) (hts (.fieldLink RX2 21 "WordFlasher$Spans" "many" "I") (List.mem_of_getElem? (i := 2) rfl)) (fun _ h9 => h9) rfl dX2_add_46 ?_
    refine lv_iconst (v := 1) hx hb dX2_add_49 (by decide) ?_
    refine lv_isub hx hb dX2_add_50 ?_
    obtain ⟨f5, h6, hf⟩ := bnd_el hf
    obtain ⟨X7, e8, hf⟩ := sl_el hf
    refine wr_v (rest := []) (wc := (pR g (aP 3) 150 (X3 2))) (wc' := (pR g (aP 3) 150 f5)) (ws2 := (pP g aP X7)) hP hD hS hA [3] rfl rfl (by subst e8; rfl) (rnN (As := [.ref (aP 3), .int x1, .int ((X3 3 0) - 1)]) ⟨hx, hb, hml, hown, hts⟩ (c_X5_put l g (aP 3) 150 _ _ _ _ _ h6) ⟨va_cnB 3 hts gX2_add_X5_put_n25 rfl rfl rfl (hKW.2 _ (List.mem_of_getElem? (i := 10) rfl)) (hts (.initialized RX5) (List.mem_of_getElem? (i := 6) rfl)) (by decide +kernel) ⟨Nat.le_of_ble_eq_true rfl, Nat.le_of_ble_eq_true rfl⟩, (hts (.static yX5_put) (List.mem_of_getElem? (i := 5) rfl)), trivial⟩ hKW hP hD [3] (by decide) rfl rfl hl.1 rfl (lv_room (Nat.le_of_ble_eq_true rfl)) dX2_add_51 ⟨Nat.zero_le _, Nat.zero_le _⟩) (fun H locs hP hD hS => ?_)
    have er0 := Option.some.inj hf
    rw [← hQ0]; exact W.vret hx hb hr (fun t ht hW => ⟨⟨(), rfl, trivial, by dsimp only; rw [ht, ← er0]; exact hP⟩, hS.F ht⟩) hS.2.2 dX2_add_54
  refine lv_if_eq (tgt := 26) hx hb dX2_add_1 (by decide) (fun c9 => ?_) (fun c9 => ?_)
  · have hf := ite_t hf c9
    exact J_26 p1 XP _ _ ls hP hD hS (lv_sub hl [0, 1] rfl) hf
  · have hf := ite_f hf c9
    refine lv_aload_n hx hb dX2_add_4 rfl (lv_at hl 0 rfl) ?_
    refine va_get (D := g.1) (ci := 2) (v := .ref (aP 1)) (C := RX2) (T := TX2) (N := 4) hx hb hts i_X2 hown hK hP 0 rfl rfl 0 (by decide) (hts (.fieldLink RX2 9 "WordFlasher$Spans" "firsts" "[I") (List.mem_of_getElem? (i := 1) rfl)) (fun _ h9 => h9) rfl dX2_add_5 ?_
    refine lv_aload_n hx hb dX2_add_8 rfl (lv_at hl 0 rfl) ?_
    refine va_get (D := g.1) (ci := 2) (v := .int (XP 3 0)) (C := RX2) (T := TX2) (N := 4) hx hb hts i_X2 hown hK hP 0 rfl rfl 3 (by decide) (hts (.fieldLink RX2 21 "WordFlasher$Spans" "many" "I") (List.mem_of_getElem? (i := 2) rfl)) (fun _ h9 => h9) rfl dX2_add_9 ?_
    refine lv_iload_n hx hb dX2_add_12 rfl (lv_at hl 1 rfl) ?_
    obtain ⟨f10, h11, hf⟩ := bnd_el hf
    obtain ⟨X12, e13, hf⟩ := sl_el hf
    refine wr_v (rest := []) (wc := (pR g (aP 1) 150 (XP 0))) (wc' := (pR g (aP 1) 150 f10)) (ws2 := (pP g aP X12)) hP hD hS hA [1] rfl rfl (by subst e13; rfl) (rnN (As := [.ref (aP 1), .int (XP 3 0), .int p1]) ⟨hx, hb, hml, hown, hts⟩ (c_X5_put l g (aP 1) 150 _ _ _ _ _ h11) ⟨va_cnB 3 hts gX2_add_X5_put_n25 rfl rfl rfl (hKW.2 _ (List.mem_of_getElem? (i := 10) rfl)) (hts (.initialized RX5) (List.mem_of_getElem? (i := 6) rfl)) (by decide +kernel) ⟨Nat.le_of_ble_eq_true rfl, Nat.le_of_ble_eq_true rfl⟩, (hts (.static yX5_put) (List.mem_of_getElem? (i := 5) rfl)), trivial⟩ hKW hP hD [1] (by decide) rfl rfl hl.1 rfl (lv_room (Nat.le_of_ble_eq_true rfl)) dX2_add_13 ⟨Nat.zero_le _, Nat.zero_le _⟩) (fun H locs hP hD hS => ?_)
    refine lv_aload_n hx hb dX2_add_16 rfl (lv_at hl 0 rfl) ?_
    refine lv_dup hx hb dX2_add_17 rfl ?_
    refine va_get (D := g.1) (ci := 2) (v := .int (X12 3 0)) (C := RX2) (T := TX2) (N := 4) hx hb hts i_X2 hown hK hP 0 rfl rfl 3 (by decide) (hts (.fieldLink RX2 21 "WordFlasher$Spans" "many" "I") (List.mem_of_getElem? (i := 2) rfl)) (fun _ h9 => h9) rfl dX2_add_18 ?_
    refine lv_iconst (v := 1) hx hb dX2_add_21 (by decide) ?_
    refine lv_iadd hx hb dX2_add_22 ?_
    obtain ⟨X14, e15, hf⟩ := sl_el hf
    refine va_put (D := g.1) (ci := 2) (v := .int ((X12 3 0) + 1)) (ty := .int) (C := RX2) (T := TX2) (N := 4) hx hb hts i_X2 tyX2 tyX2_ok nmX2 hown hK hP hD hS 0 rfl rfl 3 (by decide) (hts (.fieldLink RX2 21 "WordFlasher$Spans" "many" "I") (List.mem_of_getElem? (i := 2) rfl)) (fun _ h9 => h9) rfl (by decide +kernel) rfl rfl (Nat.le_of_ble_eq_true rfl) dX2_add_23 (fun H locs hP hD hS => ?_)
    have hP : va_P g.1 vwCl (pP g aP X14) H := by subst e15; exact hP
    have hD : va_D A (pP g aP X14) := by subst e15; exact hD
    exact J_26 p1 X14 _ _ ls hP hD hS (lv_sub hl [0, 1] rfl) hf
