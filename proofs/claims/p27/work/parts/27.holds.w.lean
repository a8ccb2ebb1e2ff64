abbrev rmL_sign : Room := { frames := 0, cells := 0, slots := 0, locals := 0 }
set_option maxHeartbeats 8000000 in
set_option maxRecDepth 100000 in
theorem c_L_sign (l : Launch) (g : GG)  (p0 : Int32) (r : Int32) (hf : fL_sign p0 = some r) : Met l yL_sign wsL_sign rmL_sign (va_Pc [.int p0] (fun U => va_P g.1 vwCl ([] : va_W) U.heap ∧ KW g U)) (vp_Si (fun r' => r' = r ∧ True)) 0 0 (fun _ => False) := by
  refine Met.ofW (cc := cL_sign) (maxL := 2) (ret := (some .int)) (by decide) rfl ?_
  intro p e s m args below meth c s₁ B hml hv
  obtain ⟨hargs, hP, hKW⟩ := hv
  have hK := hKW.1
  have hx := B.exec
  have hb := B.bytes
  have hr := B.returns
  have hts := atoms_spec (ws := wsL_sign) B.pre
  have hown : s.vm.findClass RL = some m.cls := findClass_of_methodNamed B.named
  have hlocks := B.notSynchronized
  have hent : entryFrame m args 2 = F0 m 0 ((lg_sl ([.int p0]) ++ List.replicate (2 - (lg_sl ([.int p0])).length) Slot.unset).toArray) [] := by rw [hargs]; exact lg_entry_eq _ _ _
  rw [hent]
  have hl := lv_entry ([.int p0]) (n := 2) (Nat.le_of_ble_eq_true rfl)
  generalize (lg_sl ([.int p0]) ++ List.replicate (2 - (lg_sl ([.int p0])).length) Slot.unset).toArray = ls at hl ⊢
  have hl : lv_has ls 2 [(0, .int p0)] := hl
  generalize hQ0 : MQ below _ _ _ _ _ _ = Q0
  unfold fL_sign at hf
  refine lv_iload_n hx hb dL_sign_0 rfl (lv_at hl 0 rfl) ?_
  refine lv_bipush (v := 9) hx hb dL_sign_1 (by decide) ?_
  obtain ⟨z3, v1, e2, hf⟩ := dvA_el hf
  refine lv_idiv hx hb dL_sign_3 z3 ?_
  refine lv_as e2 ?_
  refine lv_istore_n (lv' := [(1, .int v1), (0, .int p0)]) hx hb dL_sign_4 rfl hl (by decide) rfl (fun ls hl => ?_)
  refine lv_iload_n hx hb dL_sign_5 rfl (lv_at hl 1 rfl) ?_
  refine lv_bipush (v := 9) hx hb dL_sign_6 (by decide) ?_
  obtain ⟨z6, v4, e5, hf⟩ := rmA_el hf
  refine lv_irem hx hb dL_sign_8 z6 ?_
  refine lv_as e5 ?_
  refine lv_iconst (v := 3) hx hb dL_sign_9 (by decide) ?_
  refine lv_icmp_ge (tgt := 18) hx hb dL_sign_10 (by decide) (fun c7 => ?_) (fun c7 => ?_)
  · have hf := ite_t hf c7
    refine lv_iload_n hx hb dL_sign_18 rfl (lv_at hl 1 rfl) ?_
    refine lv_bipush (v := 9) hx hb dL_sign_19 (by decide) ?_
    obtain ⟨z10, v8, e9, hf⟩ := rmA_el hf
    refine lv_irem hx hb dL_sign_21 z10 ?_
    refine lv_as e9 ?_
    refine lv_iconst (v := 3) hx hb dL_sign_22 (by decide) ?_
    refine lv_icmp_ne (tgt := 31) hx hb dL_sign_23 (by decide) (fun c11 => ?_) (fun c11 => ?_)
    · have hf := ite_f hf c11
      refine lv_iload_n hx hb dL_sign_31 rfl (lv_at hl 1 rfl) ?_
      refine lv_bipush (v := 9) hx hb dL_sign_32 (by decide) ?_
      obtain ⟨z14, v12, e13, hf⟩ := rmA_el hf
      refine lv_irem hx hb dL_sign_34 z14 ?_
      refine lv_as e13 ?_
      refine lv_iconst (v := 4) hx hb dL_sign_35 (by decide) ?_
      obtain ⟨j50, ej50, hf⟩ := sl_el hf
      have J_50 : ∀ (x0 x1 : Int32) (ls : Array Slot), lv_has ls 2 [(0, .int x0), (1, .int x1)] → j50 x0 x1 = some r → W p l e (headSpec wsL_sign rmL_sign).room s m args below meth c s.heap [] 0 0 Q0 (F0 m 50 ls []) := by
        intro x0 x1 ls hl hf
        rw [ej50] at hf
        refine lv_iload_n hx hb dL_sign_50 rfl (lv_at hl 0 rfl) ?_
        refine lv_bipush (v := 9) hx hb dL_sign_51 (by decide) ?_
        obtain ⟨z17, v15, e16, hf⟩ := rmA_el hf
        refine lv_irem hx hb dL_sign_53 z17 ?_
        refine lv_as e16 ?_
        refine lv_iconst (v := 5) hx hb dL_sign_54 (by decide) ?_
        obtain ⟨j69, ej69, hf⟩ := sl_el hf
        have J_69 : ∀ (x0 x1 : Int32) (ls : Array Slot), lv_has ls 2 [(0, .int x0), (1, .int x1)] → j69 x0 x1 = some r → W p l e (headSpec wsL_sign rmL_sign).room s m args below meth c s.heap [] 0 0 Q0 (F0 m 69 ls []) := by
          intro x0 x1 ls hl hf
          rw [ej69] at hf
          refine lv_iload_n hx hb dL_sign_69 rfl (lv_at hl 0 rfl) ?_
          refine lv_bipush (v := 9) hx hb dL_sign_70 (by decide) ?_
          obtain ⟨z20, v18, e19, hf⟩ := rmA_el hf
          refine lv_irem hx hb dL_sign_72 z20 ?_
          refine lv_as e19 ?_
          refine lv_bipush (v := 6) hx hb dL_sign_73 (by decide) ?_
          refine lv_icmp_ne (tgt := 88) hx hb dL_sign_75 (by decide) (fun c21 => ?_) (fun c21 => ?_)
          · have hf := ite_f hf c21
            refine lv_bipush (v := 65) hx hb dL_sign_88 (by decide) ?_
            refine lv_iload_n hx hb dL_sign_90 rfl (lv_at hl 1 rfl) ?_
            refine lv_bipush (v := 26) hx hb dL_sign_91 (by decide) ?_
            obtain ⟨z24, v22, e23, hf⟩ := rmA_el hf
            refine lv_irem hx hb dL_sign_93 z24 ?_
            refine lv_as e23 ?_
            refine lv_iadd hx hb dL_sign_94 ?_
            have er0 := Option.some.inj hf
            rw [← hQ0]; exact W.iret (v := (65 + v22)) hx hb hr (fun t ht hW => ⟨(65 + v22), rfl, ⟨er0, trivial⟩, ht⟩) (fun q h => by cases h) dL_sign_95
          · have hf := ite_t hf c21
            refine lv_bipush (v := 48) hx hb dL_sign_78 (by decide) ?_
            refine lv_iload_n hx hb dL_sign_80 rfl (lv_at hl 1 rfl) ?_
            refine lv_bipush (v := 10) hx hb dL_sign_81 (by decide) ?_
            obtain ⟨z27, v25, e26, hf⟩ := rmA_el hf
            refine lv_irem hx hb dL_sign_83 z27 ?_
            refine lv_as e26 ?_
            refine lv_iadd hx hb dL_sign_84 ?_
            refine lv_goto (tgt := 95) hx hb dL_sign_85 (by decide) ?_
            have er0 := Option.some.inj hf
            rw [← hQ0]; exact W.iret (v := (48 + v25)) hx hb hr (fun t ht hW => ⟨(48 + v25), rfl, ⟨er0, trivial⟩, ht⟩) (fun q h => by cases h) dL_sign_95
        refine lv_icmp_ne (tgt := 69) hx hb dL_sign_55 (by decide) (fun c28 => ?_) (fun c28 => ?_)
        · have hf := ite_f hf c28
          exact J_69 x0 x1 ls (lv_sub hl [0, 1] rfl) hf
        · have hf := ite_t hf c28
          refine lv_iload_n hx hb dL_sign_58 rfl (lv_at hl 1 rfl) ?_
          refine lv_iconst (v := 2) hx hb dL_sign_59 (by decide) ?_
          obtain ⟨z31, v29, e30, hf⟩ := rmA_el hf
          refine lv_irem hx hb dL_sign_60 z31 ?_
          refine lv_as e30 ?_
          refine lv_if_ne (tgt := 69) hx hb dL_sign_61 (by decide) (fun c32 => ?_) (fun c32 => ?_)
          · have hf := ite_f hf c32
            exact J_69 x0 x1 ls (lv_sub hl [0, 1] rfl) hf
          · have hf := ite_t hf c32
            refine lv_bipush (v := 59) hx hb dL_sign_64 (by decide) ?_
            refine lv_goto (tgt := 95) hx hb dL_sign_66 (by decide) ?_
            have er0 := Option.some.inj hf
            rw [← hQ0]; exact W.iret (v := 59) hx hb hr (fun t ht hW => ⟨59, rfl, ⟨er0, trivial⟩, ht⟩) (fun q h => by cases h) dL_sign_95
      refine lv_icmp_ne (tgt := 50) hx hb dL_sign_36 (by decide) (fun c33 => ?_) (fun c33 => ?_)
      · have hf := ite_f hf c33
        exact J_50 p0 v1 ls (lv_sub hl [1, 0] rfl) hf
      · have hf := ite_t hf c33
        refine lv_iload_n hx hb dL_sign_39 rfl (lv_at hl 0 rfl) ?_
        refine lv_iconst (v := 2) hx hb dL_sign_40 (by decide) ?_
        obtain ⟨z36, v34, e35, hf⟩ := rmA_el hf
        refine lv_irem hx hb dL_sign_41 z36 ?_
        refine lv_as e35 ?_
        refine lv_if_ne (tgt := 50) hx hb dL_sign_42 (by decide) (fun c37 => ?_) (fun c37 => ?_)
        · have hf := ite_f hf c37
          exact J_50 p0 v1 ls (lv_sub hl [1, 0] rfl) hf
        · have hf := ite_t hf c37
          refine lv_bipush (v := 124) hx hb dL_sign_45 (by decide) ?_
          refine lv_goto (tgt := 95) hx hb dL_sign_47 (by decide) ?_
          have er0 := Option.some.inj hf
          rw [← hQ0]; exact W.iret (v := 124) hx hb hr (fun t ht hW => ⟨124, rfl, ⟨er0, trivial⟩, ht⟩) (fun q h => by cases h) dL_sign_95
    · have hf := ite_t hf c11
      refine lv_bipush (v := 33) hx hb dL_sign_26 (by decide) ?_
      refine lv_goto (tgt := 95) hx hb dL_sign_28 (by decide) ?_
      have er0 := Option.some.inj hf
      rw [← hQ0]; exact W.iret (v := 33) hx hb hr (fun t ht hW => ⟨33, rfl, ⟨er0, trivial⟩, ht⟩) (fun q h => by cases h) dL_sign_95
  · have hf := ite_f hf c7
    refine lv_bipush (v := 32) hx hb dL_sign_13 (by decide) ?_
    refine lv_goto (tgt := 95) hx hb dL_sign_15 (by decide) ?_
    have er0 := Option.some.inj hf
    rw [← hQ0]; exact W.iret (v := 32) hx hb hr (fun t ht hW => ⟨32, rfl, ⟨er0, trivial⟩, ht⟩) (fun q h => by cases h) dL_sign_95
abbrev rmL_holds : Room := { frames := 7, cells := 0, slots := 0, locals := 159 }
set_option maxHeartbeats 8000000 in
set_option maxRecDepth 100000 in
theorem c_L_holds (l : Launch) (g : GG) (aF : Nat → Nat) (aN : Nat → Nat) (aA : Nat → Nat) (aW : Nat → Nat) (aP : Nat → Nat) (aQ : Nat → Nat) (aO : Nat → Nat) (aH : Nat → Nat) (aB : Nat → Nat → Nat) (n : Nat) (XF : DM) (XN : DM) (XW : DM) (XP : DM) (XQ : DM) (XO : DM) (XH : HD) (r : Int32) (hf : fL_holds n XF XN XW XP XQ XO XH = some r) : Met l yL_holds wsL_holds rmL_holds (va_Pc [.ref (aF 0)] (fun U => va_P g.1 vwCl (pF g aF (aW 0) (aN 0) (aA 0) (aH 0) (aO 0) XF ++ (pS g aN (aW 0) XN ++ (pW g aW (aP 0) (aQ 0) XW ++ (pP g aP XP ++ (pP g aQ XQ ++ (pO g aO XO ++ (pH g aH aB (aW 0) XH))))))) U.heap ∧ KW g U)) (vp_Si (fun r' => r' = r ∧ narrow .boolean (.int r') = .int r')) 0 0 (fun _ => False) := by
  refine Met.ofW (cc := cL_holds) (maxL := 8) (ret := (some .boolean)) (by decide) rfl ?_
  intro p e s m args below meth c s₁ B hml hv
  obtain ⟨hargs, hP, hKW⟩ := hv
  have hK := hKW.1
  have hx := B.exec
  have hb := B.bytes
  have hr := B.returns
  have hts := atoms_spec (ws := wsL_holds) B.pre
  have hown : s.vm.findClass RL = some m.cls := findClass_of_methodNamed B.named
  have hlocks := B.notSynchronized
  have i_X5 : ∀ w ∈ wsX50, w ∈ wsL_holds := fun w h => List.mem_cons_of_mem _ (List.mem_append_left _ (List.mem_append_left _ (List.mem_append_left _ (List.mem_append_left _ (List.mem_append_left _ (List.mem_append_right _ h))))))
  have i_X3 : ∀ w ∈ wsX30, w ∈ wsL_holds := fun w h => List.mem_cons_of_mem _ (List.mem_append_left _ (List.mem_append_left _ (List.mem_append_left _ (List.mem_append_left _ (List.mem_append_right _ h)))))
  have i_X4 : ∀ w ∈ wsX40, w ∈ wsL_holds := fun w h => List.mem_cons_of_mem _ (List.mem_append_left _ (List.mem_append_left _ (List.mem_append_left _ (List.mem_append_right _ h))))
  have i_X2 : ∀ w ∈ wsX20, w ∈ wsL_holds := fun w h => List.mem_cons_of_mem _ (List.mem_append_left _ (List.mem_append_left _ (List.mem_append_right _ h)))
  have i_X0 : ∀ w ∈ wsX00, w ∈ wsL_holds := fun w h => List.mem_cons_of_mem _ (List.mem_append_left _ (List.mem_append_right _ h))
  have i_X1 : ∀ w ∈ wsX10, w ∈ wsL_holds := fun w h => List.mem_cons_of_mem _ (List.mem_append_right _ h)
  have hent : entryFrame m args 8 = F0 m 0 ((lg_sl ([.ref (aF 0)]) ++ List.replicate (8 - (lg_sl ([.ref (aF 0)])).length) Slot.unset).toArray) [] := by rw [hargs]; exact lg_entry_eq _ _ _
  rw [hent]
  have hl := lv_entry ([.ref (aF 0)]) (n := 8) (Nat.le_of_ble_eq_true rfl)
  generalize (lg_sl ([.ref (aF 0)]) ++ List.replicate (8 - (lg_sl ([.ref (aF 0)])).length) Slot.unset).toArray = ls at hl ⊢
  have hl : lv_has ls 8 [(0, .ref (aF 0))] := hl
  generalize hQ0 : MQ below _ _ _ _ _ _ = Q0
  unfold fL_holds at hf
  refine lv_aload_n hx hb dL_holds_0 rfl (lv_at hl 0 rfl) ?_
  refine lv_iconst (v := 1) hx hb dL_holds_1 (by decide) ?_
  obtain ⟨r1, h2, hf⟩ := bnd_el hf
  refine rdV (As := [.int 1]) (rest := []) ⟨hx, hb, hml, hown, hts⟩ (c_X5_count l g aF aN aA aW aP aQ aO aH aB _ _ _ _ _ _ _ _ _ _ h2) (cwV 1 hts gL_holds_X5_count rfl rfl rfl (by decide +kernel) ⟨Nat.le_of_ble_eq_true rfl, Nat.le_of_ble_eq_true rfl⟩) hKW hP [0, 1, 2, 3, 4, 5, 6, 7, 8, 9, 10, 11, 12, 13, 14, 15, 16, 17, 18, 19, 20, 21, 22, 23, 24, 25, 26, 27, 28, 29, 30, 31, 32, 33, 34, 35, 36, 37, 38, 39, 40, 41, 42, 43, 44, 45, 46, 47, 48, 49, 50, 51, 52, 53, 54, 55] rfl (va_recv hK hP (ci := 5) (q0 := 0) rfl rfl) rfl hl.1 rfl (lv_room (Nat.le_of_ble_eq_true rfl)) dL_holds_2 ⟨Nat.zero_le _, Nat.zero_le _⟩ (fun r3 q4 => ?_)
  obtain ⟨q4, nb5⟩ := q4
  refine lv_as q4.symm ?_
  refine lv_istore_n (lv' := [(1, .int r1), (0, .ref (aF 0))]) hx hb dL_holds_5 rfl hl (by decide) rfl (fun ls hl => ?_)
  refine lv_iconst (v := 0) hx hb dL_holds_6 (by decide) ?_
  refine lv_istore_n (lv' := [(2, .int 0), (1, .int r1), (0, .ref (aF 0))]) hx hb dL_holds_7 rfl hl (by decide) rfl (fun ls hl => ?_)
  refine lv_iconst (v := 0) hx hb dL_holds_8 (by decide) ?_
  refine lv_istore_n (lv' := [(3, .int 0), (2, .int 0), (1, .int r1), (0, .ref (aF 0))]) hx hb dL_holds_9 rfl hl (by decide) rfl (fun ls hl => ?_)
  refine lv_aload_n hx hb dL_holds_10 rfl (lv_at hl 3 rfl) ?_
  refine lv_iconst (v := 2) hx hb dL_holds_11 (by decide) ?_
  obtain ⟨r6, h7, hf⟩ := bnd_el hf
  refine rdV (As := [.int 2]) (rest := []) ⟨hx, hb, hml, hown, hts⟩ (c_X5_count l g aF aN aA aW aP aQ aO aH aB _ _ _ _ _ _ _ _ _ _ h7) (cwV 1 hts gL_holds_X5_count rfl rfl rfl (by decide +kernel) ⟨Nat.le_of_ble_eq_true rfl, Nat.le_of_ble_eq_true rfl⟩) hKW hP [0, 1, 2, 3, 4, 5, 6, 7, 8, 9, 10, 11, 12, 13, 14, 15, 16, 17, 18, 19, 20, 21, 22, 23, 24, 25, 26, 27, 28, 29, 30, 31, 32, 33, 34, 35, 36, 37, 38, 39, 40, 41, 42, 43, 44, 45, 46, 47, 48, 49, 50, 51, 52, 53, 54, 55] rfl (va_recv hK hP (ci := 5) (q0 := 0) rfl rfl) rfl hl.1 rfl (lv_room (Nat.le_of_ble_eq_true rfl)) dL_holds_12 ⟨Nat.zero_le _, Nat.zero_le _⟩ (fun r8 q9 => ?_)
  obtain ⟨q9, nb10⟩ := q9
  refine lv_as q9.symm ?_
  refine lv_aload_n hx hb dL_holds_15 rfl (lv_at hl 3 rfl) ?_
  refine lv_iconst (v := 3) hx hb dL_holds_16 (by decide) ?_
  obtain ⟨r11, h12, hf⟩ := bnd_el hf
  refine rdV (As := [.int 3]) (rest := [.int r6]) ⟨hx, hb, hml, hown, hts⟩ (c_X5_count l g aF aN aA aW aP aQ aO aH aB _ _ _ _ _ _ _ _ _ _ h12) (cwV 1 hts gL_holds_X5_count rfl rfl rfl (by decide +kernel) ⟨Nat.le_of_ble_eq_true rfl, Nat.le_of_ble_eq_true rfl⟩) hKW hP [0, 1, 2, 3, 4, 5, 6, 7, 8, 9, 10, 11, 12, 13, 14, 15, 16, 17, 18, 19, 20, 21, 22, 23, 24, 25, 26, 27, 28, 29, 30, 31, 32, 33, 34, 35, 36, 37, 38, 39, 40, 41, 42, 43, 44, 45, 46, 47, 48, 49, 50, 51, 52, 53, 54, 55] rfl (va_recv hK hP (ci := 5) (q0 := 0) rfl rfl) rfl hl.1 rfl (lv_room (Nat.le_of_ble_eq_true rfl)) dL_holds_17 ⟨Nat.zero_le _, Nat.zero_le _⟩ (fun r13 q14 => ?_)
  obtain ⟨q14, nb15⟩ := q14
  refine lv_as q14.symm ?_
  obtain ⟨j49, ej49, hf⟩ := sl_el hf
  have J_49 : ∀ (x1 x2 x3 k0 : Int32) (ls : Array Slot), lv_has ls 8 [(0, .ref (aF 0)), (1, .int x1), (2, .int x2), (3, .int x3)] → j49 x1 x2 x3 k0 = some r → W p l e (headSpec wsL_holds rmL_holds).room s m args below meth c s.heap [] 0 0 Q0 (F0 m 49 ls [.int k0]) := by
    intro x1 x2 x3 k0 ls hl hf
    rw [ej49] at hf
    refine lv_istore (lv' := [(4, .int k0), (0, .ref (aF 0)), (1, .int x1), (2, .int x2), (3, .int x3)]) hx hb dL_holds_49 hl (by decide) rfl (fun ls hl => ?_)
    refine lv_iconst (v := 0) hx hb dL_holds_51 (by decide) ?_
    refine lv_istore (lv' := [(5, .int 0), (4, .int k0), (0, .ref (aF 0)), (1, .int x1), (2, .int x2), (3, .int x3)]) hx hb dL_holds_52 hl (by decide) rfl (fun ls hl => ?_)
    obtain ⟨j329, ej329, hf⟩ := sl_el hf
    have J_329 : ∀ (x2 x3 x4 : Int32) (ls : Array Slot), lv_has ls 8 [(0, .ref (aF 0)), (2, .int x2), (3, .int x3), (4, .int x4)] → j329 x2 x3 x4 = some r → W p l e (headSpec wsL_holds rmL_holds).room s m args below meth c s.heap [] 0 0 Q0 (F0 m 329 ls []) := by
      intro x2 x3 x4 ls hl hf
      rw [ej329] at hf
      refine lv_iconst (v := 0) hx hb dL_holds_329 (by decide) ?_
      refine lv_istore (lv' := [(5, .int 0), (0, .ref (aF 0)), (2, .int x2), (3, .int x3), (4, .int x4)]) hx hb dL_holds_330 hl (by decide) rfl (fun ls hl => ?_)
      refine lv_iconst (v := 0) hx hb dL_holds_332 (by decide) ?_
      refine lv_istore (lv' := [(6, .int 0), (5, .int 0), (0, .ref (aF 0)), (2, .int x2), (3, .int x3), (4, .int x4)]) hx hb dL_holds_333 hl (by decide) rfl (fun ls hl => ?_)
      obtain ⟨j363, ej363, hf⟩ := sl_el hf
      have J_363 : ∀ (x2 x3 x4 x5 : Int32) (ls : Array Slot), lv_has ls 8 [(0, .ref (aF 0)), (2, .int x2), (3, .int x3), (4, .int x4), (5, .int x5)] → j363 x2 x3 x4 x5 = some r → W p l e (headSpec wsL_holds rmL_holds).room s m args below meth c s.heap [] 0 0 Q0 (F0 m 363 ls []) := by
        intro x2 x3 x4 x5 ls hl hf
        rw [ej363] at hf
        refine lv_iconst (v := 0) hx hb dL_holds_363 (by decide) ?_
        refine lv_istore (lv' := [(6, .int 0), (0, .ref (aF 0)), (2, .int x2), (3, .int x3), (4, .int x4), (5, .int x5)]) hx hb dL_holds_364 hl (by decide) rfl (fun ls hl => ?_)
        refine lv_iconst (v := 0) hx hb dL_holds_366 (by decide) ?_
        refine lv_istore (lv' := [(7, .int 0), (6, .int 0), (0, .ref (aF 0)), (2, .int x2), (3, .int x3), (4, .int x4), (5, .int x5)]) hx hb dL_holds_367 hl (by decide) rfl (fun ls hl => ?_)
        obtain ⟨j397, ej397, hf⟩ := sl_el hf
        have J_397 : ∀ (x2 x3 x4 x5 x6 : Int32) (ls : Array Slot), lv_has ls 8 [(0, .ref (aF 0)), (2, .int x2), (3, .int x3), (4, .int x4), (5, .int x5), (6, .int x6)] → j397 x2 x3 x4 x5 x6 = some r → W p l e (headSpec wsL_holds rmL_holds).room s m args below meth c s.heap [] 0 0 Q0 (F0 m 397 ls []) := by
          intro x2 x3 x4 x5 x6 ls hl hf
          rw [ej397] at hf
          refine lv_iconst (v := 0) hx hb dL_holds_397 (by decide) ?_
          refine lv_istore (lv' := [(7, .int 0), (0, .ref (aF 0)), (2, .int x2), (3, .int x3), (4, .int x4), (5, .int x5), (6, .int x6)]) hx hb dL_holds_398 hl (by decide) rfl (fun ls hl => ?_)
          obtain ⟨j453, ej453, hf⟩ := sl_el hf
          have J_453 : ∀ (x2 x3 x4 x5 x6 : Int32) (ls : Array Slot), lv_has ls 8 [(0, .ref (aF 0)), (2, .int x2), (3, .int x3), (4, .int x4), (5, .int x5), (6, .int x6)] → j453 x2 x3 x4 x5 x6 = some r → W p l e (headSpec wsL_holds rmL_holds).room s m args below meth c s.heap [] 0 0 Q0 (F0 m 453 ls []) := by
            intro x2 x3 x4 x5 x6 ls hl hf
            rw [ej453] at hf
            refine lv_aload_n hx hb dL_holds_453 rfl (lv_at hl 0 rfl) ?_
            refine lv_iconst (v := 4) hx hb dL_holds_454 (by decide) ?_
            obtain ⟨r16, h17, hf⟩ := bnd_el hf
            refine rdV (As := [.int 4]) (rest := []) ⟨hx, hb, hml, hown, hts⟩ (c_X5_count l g aF aN aA aW aP aQ aO aH aB _ _ _ _ _ _ _ _ _ _ h17) (cwV 1 hts gL_holds_X5_count rfl rfl rfl (by decide +kernel) ⟨Nat.le_of_ble_eq_true rfl, Nat.le_of_ble_eq_true rfl⟩) hKW hP [0, 1, 2, 3, 4, 5, 6, 7, 8, 9, 10, 11, 12, 13, 14, 15, 16, 17, 18, 19, 20, 21, 22, 23, 24, 25, 26, 27, 28, 29, 30, 31, 32, 33, 34, 35, 36, 37, 38, 39, 40, 41, 42, 43, 44, 45, 46, 47, 48, 49, 50, 51, 52, 53, 54, 55] rfl (va_recv hK hP (ci := 5) (q0 := 0) rfl rfl) rfl hl.1 rfl (lv_room (Nat.le_of_ble_eq_true rfl)) dL_holds_455 ⟨Nat.zero_le _, Nat.zero_le _⟩ (fun r18 q19 => ?_)
            obtain ⟨q19, nb20⟩ := q19
            refine lv_as q19.symm ?_
            refine lv_istore (lv' := [(7, .int r16), (0, .ref (aF 0)), (2, .int x2), (3, .int x3), (4, .int x4), (5, .int x5), (6, .int x6)]) hx hb dL_holds_458 hl (by decide) rfl (fun ls hl => ?_)
            refine lv_iload hx hb dL_holds_460 (lv_at hl 4 rfl) ?_
            refine lv_if_eq (tgt := 524) hx hb dL_holds_462 (by decide) (fun c21 => ?_) (fun c21 => ?_)
            · have hf := ite_t hf c21
              refine lv_iconst (v := 0) hx hb dL_holds_524 (by decide) ?_
              have er0 := Option.some.inj hf
              rw [← hQ0]; exact W.zret (v := 0) hx hb hr rfl (fun t ht hW => ⟨0, rfl, ⟨er0, rfl⟩, ht⟩) (fun q h => by cases h) dL_holds_525
            · have hf := ite_f hf c21
              refine lv_iload_n hx hb dL_holds_465 rfl (lv_at hl 2 rfl) ?_
              refine lv_aload_n hx hb dL_holds_466 rfl (lv_at hl 1 rfl) ?_
              refine lv_bipush (v := 13) hx hb dL_holds_467 (by decide) ?_
              obtain ⟨r22, h23, hf⟩ := bnd_el hf
              refine rdV (As := [.int 13]) (rest := [.int x2]) ⟨hx, hb, hml, hown, hts⟩ (c_X5_count l g aF aN aA aW aP aQ aO aH aB _ _ _ _ _ _ _ _ _ _ h23) (cwV 1 hts gL_holds_X5_count rfl rfl rfl (by decide +kernel) ⟨Nat.le_of_ble_eq_true rfl, Nat.le_of_ble_eq_true rfl⟩) hKW hP [0, 1, 2, 3, 4, 5, 6, 7, 8, 9, 10, 11, 12, 13, 14, 15, 16, 17, 18, 19, 20, 21, 22, 23, 24, 25, 26, 27, 28, 29, 30, 31, 32, 33, 34, 35, 36, 37, 38, 39, 40, 41, 42, 43, 44, 45, 46, 47, 48, 49, 50, 51, 52, 53, 54, 55] rfl (va_recv hK hP (ci := 5) (q0 := 0) rfl rfl) rfl hl.1 rfl (lv_room (Nat.le_of_ble_eq_true rfl)) dL_holds_469 ⟨Nat.zero_le _, Nat.zero_le _⟩ (fun r24 q25 => ?_)
              obtain ⟨q25, nb26⟩ := q25
              refine lv_as q25.symm ?_
              refine lv_icmp_ne (tgt := 524) hx hb dL_holds_472 (by decide) (fun c27 => ?_) (fun c27 => ?_)
              · have hf := ite_f hf c27
                refine lv_iconst (v := 0) hx hb dL_holds_524 (by decide) ?_
                have er0 := Option.some.inj hf
                rw [← hQ0]; exact W.zret (v := 0) hx hb hr rfl (fun t ht hW => ⟨0, rfl, ⟨er0, rfl⟩, ht⟩) (fun q h => by cases h) dL_holds_525
              · have hf := ite_t hf c27
                refine lv_iload_n hx hb dL_holds_475 rfl (lv_at hl 2 rfl) ?_
                refine lv_iload hx hb dL_holds_476 (lv_at hl 5 rfl) ?_
                refine lv_icmp_ne (tgt := 524) hx hb dL_holds_478 (by decide) (fun c28 => ?_) (fun c28 => ?_)
                · have hf := ite_f hf c28
                  refine lv_iconst (v := 0) hx hb dL_holds_524 (by decide) ?_
                  have er0 := Option.some.inj hf
                  rw [← hQ0]; exact W.zret (v := 0) hx hb hr rfl (fun t ht hW => ⟨0, rfl, ⟨er0, rfl⟩, ht⟩) (fun q h => by cases h) dL_holds_525
                · have hf := ite_t hf c28
                  refine lv_iload_n hx hb dL_holds_481 rfl (lv_at hl 2 rfl) ?_
                  refine lv_iload hx hb dL_holds_482 (lv_at hl 6 rfl) ?_
                  refine lv_icmp_ne (tgt := 524) hx hb dL_holds_484 (by decide) (fun c29 => ?_) (fun c29 => ?_)
                  · have hf := ite_f hf c29
                    refine lv_iconst (v := 0) hx hb dL_holds_524 (by decide) ?_
                    have er0 := Option.some.inj hf
                    rw [← hQ0]; exact W.zret (v := 0) hx hb hr rfl (fun t ht hW => ⟨0, rfl, ⟨er0, rfl⟩, ht⟩) (fun q h => by cases h) dL_holds_525
                  · have hf := ite_t hf c29
                    refine lv_iload_n hx hb dL_holds_487 rfl (lv_at hl 3 rfl) ?_
                    refine lv_aload_n hx hb dL_holds_488 rfl (lv_at hl 1 rfl) ?_
                    refine lv_iconst (v := 0) hx hb dL_holds_489 (by decide) ?_
                    obtain ⟨r30, h31, hf⟩ := bnd_el hf
                    refine rdV (As := [.int 0]) (rest := [.int x3]) ⟨hx, hb, hml, hown, hts⟩ (c_X5_count l g aF aN aA aW aP aQ aO aH aB _ _ _ _ _ _ _ _ _ _ h31) (cwV 1 hts gL_holds_X5_count rfl rfl rfl (by decide +kernel) ⟨Nat.le_of_ble_eq_true rfl, Nat.le_of_ble_eq_true rfl⟩) hKW hP [0, 1, 2, 3, 4, 5, 6, 7, 8, 9, 10, 11, 12, 13, 14, 15, 16, 17, 18, 19, 20, 21, 22, 23, 24, 25, 26, 27, 28, 29, 30, 31, 32, 33, 34, 35, 36, 37, 38, 39, 40, 41, 42, 43, 44, 45, 46, 47, 48, 49, 50, 51, 52, 53, 54, 55] rfl (va_recv hK hP (ci := 5) (q0 := 0) rfl rfl) rfl hl.1 rfl (lv_room (Nat.le_of_ble_eq_true rfl)) dL_holds_490 ⟨Nat.zero_le _, Nat.zero_le _⟩ (fun r32 q33 => ?_)
                    obtain ⟨q33, nb34⟩ := q33
                    refine lv_as q33.symm ?_
                    refine lv_icmp_gt (tgt := 524) hx hb dL_holds_493 (by decide) (fun c35 => ?_) (fun c35 => ?_)
                    · have hf := ite_t hf c35
                      refine lv_iconst (v := 0) hx hb dL_holds_524 (by decide) ?_
                      have er0 := Option.some.inj hf
                      rw [← hQ0]; exact W.zret (v := 0) hx hb hr rfl (fun t ht hW => ⟨0, rfl, ⟨er0, rfl⟩, ht⟩) (fun q h => by cases h) dL_holds_525
                    · have hf := ite_f hf c35
                      refine lv_iload hx hb dL_holds_496 (lv_at hl 0 rfl) ?_
                      refine lv_if_lt (tgt := 520) hx hb dL_holds_498 (by decide) (fun c36 => ?_) (fun c36 => ?_)
                      · have hf := ite_t hf c36
                        refine lv_iconst (v := 1) hx hb dL_holds_520 (by decide) ?_
                        refine lv_goto (tgt := 525) hx hb dL_holds_521 (by decide) ?_
                        have er0 := Option.some.inj hf
                        rw [← hQ0]; exact W.zret (v := 1) hx hb hr rfl (fun t ht hW => ⟨1, rfl, ⟨er0, rfl⟩, ht⟩) (fun q h => by cases h) dL_holds_525
                      · have hf := ite_f hf c36
                        refine lv_aload_n hx hb dL_holds_501 rfl (lv_at hl 1 rfl) ?_
                        refine lv_iload hx hb dL_holds_502 (lv_at hl 0 rfl) ?_
                        refine lv_iconst (v := 4) hx hb dL_holds_504 (by decide) ?_
                        obtain ⟨r37, h38, hf⟩ := bnd_el hf
                        refine rdV (As := [.int r16, .int 4]) (rest := []) ⟨hx, hb, hml, hown, hts⟩ (c_X5_word l g aF aN aA aW aP aQ aO aH aB _ _ _ _ _ _ _ _ h38) (cwV 2 hts gL_holds_X5_word rfl rfl rfl (by decide +kernel) ⟨Nat.le_of_ble_eq_true rfl, Nat.le_of_ble_eq_true rfl⟩) hKW hP [0, 1, 2, 3, 4, 5, 6, 7, 8, 9, 10, 11, 12, 13, 14, 15, 16, 17, 18, 19, 20, 21, 22, 23] rfl (va_recv hK hP (ci := 5) (q0 := 0) rfl rfl) rfl hl.1 rfl (lv_room (Nat.le_of_ble_eq_true rfl)) dL_holds_505 ⟨Nat.zero_le _, Nat.zero_le _⟩ (fun r39 q40 => ?_)
                        obtain ⟨q40, nb41⟩ := q40
                        refine lv_as q40.symm ?_
                        refine lv_iconst (v := 3) hx hb dL_holds_508 (by decide) ?_
                        refine lv_icmp_ge (tgt := 524) hx hb dL_holds_509 (by decide) (fun c42 => ?_) (fun c42 => ?_)
                        · have hf := ite_t hf c42
                          refine lv_iconst (v := 0) hx hb dL_holds_524 (by decide) ?_
                          have er0 := Option.some.inj hf
                          rw [← hQ0]; exact W.zret (v := 0) hx hb hr rfl (fun t ht hW => ⟨0, rfl, ⟨er0, rfl⟩, ht⟩) (fun q h => by cases h) dL_holds_525
                        · have hf := ite_f hf c42
                          refine lv_aload_n hx hb dL_holds_512 rfl (lv_at hl 1 rfl) ?_
                          refine lv_iconst (v := 5) hx hb dL_holds_513 (by decide) ?_
                          obtain ⟨r43, h44, hf⟩ := bnd_el hf
                          refine rdV (As := [.int 5]) (rest := []) ⟨hx, hb, hml, hown, hts⟩ (c_X5_count l g aF aN aA aW aP aQ aO aH aB _ _ _ _ _ _ _ _ _ _ h44) (cwV 1 hts gL_holds_X5_count rfl rfl rfl (by decide +kernel) ⟨Nat.le_of_ble_eq_true rfl, Nat.le_of_ble_eq_true rfl⟩) hKW hP [0, 1, 2, 3, 4, 5, 6, 7, 8, 9, 10, 11, 12, 13, 14, 15, 16, 17, 18, 19, 20, 21, 22, 23, 24, 25, 26, 27, 28, 29, 30, 31, 32, 33, 34, 35, 36, 37, 38, 39, 40, 41, 42, 43, 44, 45, 46, 47, 48, 49, 50, 51, 52, 53, 54, 55] rfl (va_recv hK hP (ci := 5) (q0 := 0) rfl rfl) rfl hl.1 rfl (lv_room (Nat.le_of_ble_eq_true rfl)) dL_holds_514 ⟨Nat.zero_le _, Nat.zero_le _⟩ (fun r45 q46 => ?_)
                          obtain ⟨q46, nb47⟩ := q46
                          refine lv_as q46.symm ?_
                          refine lv_if_le (tgt := 524) hx hb dL_holds_517 (by decide) (fun c48 => ?_) (fun c48 => ?_)
                          · have hf := ite_t hf c48
                            refine lv_iconst (v := 0) hx hb dL_holds_524 (by decide) ?_
                            have er0 := Option.some.inj hf
                            rw [← hQ0]; exact W.zret (v := 0) hx hb hr rfl (fun t ht hW => ⟨0, rfl, ⟨er0, rfl⟩, ht⟩) (fun q h => by cases h) dL_holds_525
                          · have hf := ite_f hf c48
                            refine lv_iconst (v := 1) hx hb dL_holds_520 (by decide) ?_
                            refine lv_goto (tgt := 525) hx hb dL_holds_521 (by decide) ?_
                            have er0 := Option.some.inj hf
                            rw [← hQ0]; exact W.zret (v := 1) hx hb hr rfl (fun t ht hW => ⟨1, rfl, ⟨er0, rfl⟩, ht⟩) (fun q h => by cases h) dL_holds_525
          have L_400 : ∀ fu : Nat, ∀ (x2 x3 x4 x5 x6 x7 : Int32) (ls : Array Slot), lv_has ls 8 [(0, .ref (aF 0)), (2, .int x2), (3, .int x3), (4, .int x4), (5, .int x5), (6, .int x6), (7, .int x7)] → fL_holds_L400 n XF XN XW XP XQ XO XH j453 fu x2 x3 x4 x5 x6 x7 = some r → W p l e (headSpec wsL_holds rmL_holds).room s m args below meth c s.heap [] 0 0 Q0 (F0 m 400 ls []) := by
            intro fu
            induction fu with
            | zero => intros; rename_i hf; rw [fL_holds_L400] at hf; cases hf
            | succ fu ih =>
              intro x2 x3 x4 x5 x6 x7 ls hl hf
              rw [fL_holds_L400] at hf
              refine lv_iload hx hb dL_holds_400 (lv_at hl 6 rfl) ?_
              refine lv_iconst (v := 3) hx hb dL_holds_402 (by decide) ?_
              refine lv_icmp_ge (tgt := 453) hx hb dL_holds_403 (by decide) (fun c49 => ?_) (fun c49 => ?_)
              · have hf := ite_t hf c49
                exact J_453 x2 x3 x4 x5 x6 ls (lv_sub hl [0, 1, 2, 3, 4, 5] rfl) hf
              · have hf := ite_f hf c49
                refine lv_iload hx hb dL_holds_406 (lv_at hl 3 rfl) ?_
                obtain ⟨j445, ej445, hf⟩ := sl_el hf
                have J_445 : ∀ (x2 x3 x5 x6 x7 k0 : Int32) (ls : Array Slot), lv_has ls 8 [(0, .ref (aF 0)), (2, .int x2), (3, .int x3), (5, .int x5), (6, .int x6), (7, .int x7)] → j445 x2 x3 x5 x6 x7 k0 = some r → W p l e (headSpec wsL_holds rmL_holds).room s m args below meth c s.heap [] 0 0 Q0 (F0 m 445 ls [.int k0]) := by
                  intro x2 x3 x5 x6 x7 k0 ls hl hf
                  rw [ej445] at hf
                  refine lv_istore (lv' := [(4, .int k0), (0, .ref (aF 0)), (2, .int x2), (3, .int x3), (5, .int x5), (6, .int x6), (7, .int x7)]) hx hb dL_holds_445 hl (by decide) rfl (fun ls hl => ?_)
                  obtain ⟨v50, e51, hf⟩ := sl_el hf
                  refine lv_iinc (v := v50) (lv' := [(7, .int v50), (4, .int k0), (0, .ref (aF 0)), (2, .int x2), (3, .int x3), (5, .int x5), (6, .int x6)]) hx hb dL_holds_447 hl (k := 6) rfl (by rw [e51]; rfl) (by decide) rfl (fun ls hl => ?_)
                  refine lv_goto (tgt := 400) hx hb dL_holds_450 (by decide) ?_
                  exact ih x2 x3 k0 x5 x6 v50 ls (lv_sub hl [2, 3, 4, 1, 5, 6, 0] rfl) hf
                obtain ⟨j444, ej444, hf⟩ := sl_el hf
                have J_444 : ∀ (x2 x3 x5 x6 x7 : Int32) (ls : Array Slot), lv_has ls 8 [(0, .ref (aF 0)), (2, .int x2), (3, .int x3), (5, .int x5), (6, .int x6), (7, .int x7)] → j444 x2 x3 x5 x6 x7 = some r → W p l e (headSpec wsL_holds rmL_holds).room s m args below meth c s.heap [] 0 0 Q0 (F0 m 444 ls []) := by
                  intro x2 x3 x5 x6 x7 ls hl hf
                  rw [ej444] at hf
                  refine lv_iconst (v := 0) hx hb dL_holds_444 (by decide) ?_
                  exact J_445 x2 x3 x5 x6 x7 0 ls (lv_sub hl [0, 1, 2, 3, 4, 5] rfl) hf
                refine lv_if_eq (tgt := 444) hx hb dL_holds_408 (by decide) (fun c52 => ?_) (fun c52 => ?_)
                · have hf := ite_t hf c52
                  exact J_444 x2 x3 x5 x6 x7 ls (lv_sub hl [0, 1, 2, 4, 5, 6] rfl) hf
                · have hf := ite_f hf c52
                  refine lv_aload_n hx hb dL_holds_411 rfl (lv_at hl 0 rfl) ?_
                  refine lv_bipush (v := 30) hx hb dL_holds_412 (by decide) ?_
                  refine lv_iload hx hb dL_holds_414 (lv_at hl 6 rfl) ?_
                  refine lv_iadd hx hb dL_holds_416 ?_
                  obtain ⟨r53, h54, hf⟩ := bnd_el hf
                  refine rdV (As := [.int (30 + x7)]) (rest := []) ⟨hx, hb, hml, hown, hts⟩ (c_X5_count l g aF aN aA aW aP aQ aO aH aB _ _ _ _ _ _ _ _ _ _ h54) (cwV 1 hts gL_holds_X5_count rfl rfl rfl (by decide +kernel) ⟨Nat.le_of_ble_eq_true rfl, Nat.le_of_ble_eq_true rfl⟩) hKW hP [0, 1, 2, 3, 4, 5, 6, 7, 8, 9, 10, 11, 12, 13, 14, 15, 16, 17, 18, 19, 20, 21, 22, 23, 24, 25, 26, 27, 28, 29, 30, 31, 32, 33, 34, 35, 36, 37, 38, 39, 40, 41, 42, 43, 44, 45, 46, 47, 48, 49, 50, 51, 52, 53, 54, 55] rfl (va_recv hK hP (ci := 5) (q0 := 0) rfl rfl) rfl hl.1 rfl (lv_room (Nat.le_of_ble_eq_true rfl)) dL_holds_417 ⟨Nat.zero_le _, Nat.zero_le _⟩ (fun r55 q56 => ?_)
                  obtain ⟨q56, nb57⟩ := q56
                  refine lv_as q56.symm ?_
                  refine lv_bipush (v := 50) hx hb dL_holds_420 (by decide) ?_
                  refine lv_icmp_lt (tgt := 444) hx hb dL_holds_422 (by decide) (fun c58 => ?_) (fun c58 => ?_)
                  · have hf := ite_t hf c58
                    exact J_444 x2 x3 x5 x6 x7 ls (lv_sub hl [0, 1, 2, 4, 5, 6] rfl) hf
                  · have hf := ite_f hf c58
                    refine lv_aload_n hx hb dL_holds_425 rfl (lv_at hl 0 rfl) ?_
                    refine lv_bipush (v := 30) hx hb dL_holds_426 (by decide) ?_
                    refine lv_iload hx hb dL_holds_428 (lv_at hl 6 rfl) ?_
                    refine lv_iadd hx hb dL_holds_430 ?_
                    obtain ⟨r59, h60, hf⟩ := bnd_el hf
                    refine rdV (As := [.int (30 + x7)]) (rest := []) ⟨hx, hb, hml, hown, hts⟩ (c_X5_count l g aF aN aA aW aP aQ aO aH aB _ _ _ _ _ _ _ _ _ _ h60) (cwV 1 hts gL_holds_X5_count rfl rfl rfl (by decide +kernel) ⟨Nat.le_of_ble_eq_true rfl, Nat.le_of_ble_eq_true rfl⟩) hKW hP [0, 1, 2, 3, 4, 5, 6, 7, 8, 9, 10, 11, 12, 13, 14, 15, 16, 17, 18, 19, 20, 21, 22, 23, 24, 25, 26, 27, 28, 29, 30, 31, 32, 33, 34, 35, 36, 37, 38, 39, 40, 41, 42, 43, 44, 45, 46, 47, 48, 49, 50, 51, 52, 53, 54, 55] rfl (va_recv hK hP (ci := 5) (q0 := 0) rfl rfl) rfl hl.1 rfl (lv_room (Nat.le_of_ble_eq_true rfl)) dL_holds_431 ⟨Nat.zero_le _, Nat.zero_le _⟩ (fun r61 q62 => ?_)
                    obtain ⟨q62, nb63⟩ := q62
                    refine lv_as q62.symm ?_
                    refine lv_sipush (v := 400) hx hb dL_holds_434 (by decide) ?_
                    refine lv_icmp_gt (tgt := 444) hx hb dL_holds_437 (by decide) (fun c64 => ?_) (fun c64 => ?_)
                    · have hf := ite_t hf c64
                      exact J_444 x2 x3 x5 x6 x7 ls (lv_sub hl [0, 1, 2, 4, 5, 6] rfl) hf
                    · have hf := ite_f hf c64
                      refine lv_iconst (v := 1) hx hb dL_holds_440 (by decide) ?_
                      refine lv_goto (tgt := 445) hx hb dL_holds_441 (by decide) ?_
                      exact J_445 x2 x3 x5 x6 x7 1 ls (lv_sub hl [0, 1, 2, 4, 5, 6] rfl) hf
          exact L_400 n x2 x3 x4 x5 x6 0 ls (lv_sub hl [1, 2, 3, 4, 5, 6, 0] rfl) hf
        have L_369 : ∀ fu : Nat, ∀ (x2 x3 x4 x5 x6 x7 : Int32) (ls : Array Slot), lv_has ls 8 [(0, .ref (aF 0)), (2, .int x2), (3, .int x3), (4, .int x4), (5, .int x5), (6, .int x6), (7, .int x7)] → fL_holds_L369 n XF XN XW XP XQ XO XH j397 fu x2 x3 x4 x5 x6 x7 = some r → W p l e (headSpec wsL_holds rmL_holds).room s m args below meth c s.heap [] 0 0 Q0 (F0 m 369 ls []) := by
          intro fu
          induction fu with
          | zero => intros; rename_i hf; rw [fL_holds_L369] at hf; cases hf
          | succ fu ih =>
            intro x2 x3 x4 x5 x6 x7 ls hl hf
            rw [fL_holds_L369] at hf
            refine lv_iload hx hb dL_holds_369 (lv_at hl 6 rfl) ?_
            refine lv_aload_n hx hb dL_holds_371 rfl (lv_at hl 0 rfl) ?_
            refine lv_iconst (v := 2) hx hb dL_holds_372 (by decide) ?_
            obtain ⟨r65, h66, hf⟩ := bnd_el hf
            refine rdV (As := [.int 2]) (rest := [.int x7]) ⟨hx, hb, hml, hown, hts⟩ (c_X5_count l g aF aN aA aW aP aQ aO aH aB _ _ _ _ _ _ _ _ _ _ h66) (cwV 1 hts gL_holds_X5_count rfl rfl rfl (by decide +kernel) ⟨Nat.le_of_ble_eq_true rfl, Nat.le_of_ble_eq_true rfl⟩) hKW hP [0, 1, 2, 3, 4, 5, 6, 7, 8, 9, 10, 11, 12, 13, 14, 15, 16, 17, 18, 19, 20, 21, 22, 23, 24, 25, 26, 27, 28, 29, 30, 31, 32, 33, 34, 35, 36, 37, 38, 39, 40, 41, 42, 43, 44, 45, 46, 47, 48, 49, 50, 51, 52, 53, 54, 55] rfl (va_recv hK hP (ci := 5) (q0 := 0) rfl rfl) rfl hl.1 rfl (lv_room (Nat.le_of_ble_eq_true rfl)) dL_holds_373 ⟨Nat.zero_le _, Nat.zero_le _⟩ (fun r67 q68 => ?_)
            obtain ⟨q68, nb69⟩ := q68
            refine lv_as q68.symm ?_
            refine lv_icmp_ge (tgt := 397) hx hb dL_holds_376 (by decide) (fun c70 => ?_) (fun c70 => ?_)
            · have hf := ite_t hf c70
              exact J_397 x2 x3 x4 x5 x6 ls (lv_sub hl [0, 1, 2, 3, 4, 5] rfl) hf
            · have hf := ite_f hf c70
              refine lv_iload hx hb dL_holds_379 (lv_at hl 5 rfl) ?_
              refine lv_aload_n hx hb dL_holds_381 rfl (lv_at hl 0 rfl) ?_
              refine lv_iload hx hb dL_holds_382 (lv_at hl 6 rfl) ?_
              refine lv_iconst (v := 2) hx hb dL_holds_384 (by decide) ?_
              obtain ⟨r71, h72, hf⟩ := bnd_el hf
              refine rdV (As := [.int x7, .int 2]) (rest := [.int x6]) ⟨hx, hb, hml, hown, hts⟩ (c_X5_sentence l g aF aN aA aW aP aQ aO aH aB _ _ _ _ _ _ _ _ h72) (cwV 2 hts gL_holds_X5_sentence rfl rfl rfl (by decide +kernel) ⟨Nat.le_of_ble_eq_true rfl, Nat.le_of_ble_eq_true rfl⟩) hKW hP [0, 1, 2, 3, 4, 5, 6, 7, 8, 9, 10, 11, 12, 13, 14, 15, 16, 17, 18, 19] rfl (va_recv hK hP (ci := 5) (q0 := 0) rfl rfl) rfl hl.1 rfl (lv_room (Nat.le_of_ble_eq_true rfl)) dL_holds_385 ⟨Nat.zero_le _, Nat.zero_le _⟩ (fun r73 q74 => ?_)
              obtain ⟨q74, nb75⟩ := q74
              refine lv_as q74.symm ?_
              refine lv_iadd hx hb dL_holds_388 ?_
              obtain ⟨v76, e77, hf⟩ := sl_el hf
              refine lv_as e77 ?_
              refine lv_istore (lv' := [(6, .int v76), (0, .ref (aF 0)), (2, .int x2), (3, .int x3), (4, .int x4), (5, .int x5), (7, .int x7)]) hx hb dL_holds_389 hl (by decide) rfl (fun ls hl => ?_)
              obtain ⟨v78, e79, hf⟩ := sl_el hf
              refine lv_iinc (v := v78) (lv' := [(7, .int v78), (6, .int v76), (0, .ref (aF 0)), (2, .int x2), (3, .int x3), (4, .int x4), (5, .int x5)]) hx hb dL_holds_391 hl (k := 6) rfl (by rw [e79]; rfl) (by decide) rfl (fun ls hl => ?_)
              refine lv_goto (tgt := 369) hx hb dL_holds_394 (by decide) ?_
              exact ih x2 x3 x4 x5 v76 v78 ls (lv_sub hl [2, 3, 4, 5, 6, 1, 0] rfl) hf
        exact L_369 n x2 x3 x4 x5 0 0 ls (lv_sub hl [2, 3, 4, 5, 6, 1, 0] rfl) hf
      have L_335 : ∀ fu : Nat, ∀ (x2 x3 x4 x5 x6 : Int32) (ls : Array Slot), lv_has ls 8 [(0, .ref (aF 0)), (2, .int x2), (3, .int x3), (4, .int x4), (5, .int x5), (6, .int x6)] → fL_holds_L335 n XF XN XW XP XQ XO XH j363 fu x2 x3 x4 x5 x6 = some r → W p l e (headSpec wsL_holds rmL_holds).room s m args below meth c s.heap [] 0 0 Q0 (F0 m 335 ls []) := by
        intro fu
        induction fu with
        | zero => intros; rename_i hf; rw [fL_holds_L335] at hf; cases hf
        | succ fu ih =>
          intro x2 x3 x4 x5 x6 ls hl hf
          rw [fL_holds_L335] at hf
          refine lv_iload hx hb dL_holds_335 (lv_at hl 5 rfl) ?_
          refine lv_aload_n hx hb dL_holds_337 rfl (lv_at hl 0 rfl) ?_
          refine lv_iconst (v := 3) hx hb dL_holds_338 (by decide) ?_
          obtain ⟨r80, h81, hf⟩ := bnd_el hf
          refine rdV (As := [.int 3]) (rest := [.int x6]) ⟨hx, hb, hml, hown, hts⟩ (c_X5_count l g aF aN aA aW aP aQ aO aH aB _ _ _ _ _ _ _ _ _ _ h81) (cwV 1 hts gL_holds_X5_count rfl rfl rfl (by decide +kernel) ⟨Nat.le_of_ble_eq_true rfl, Nat.le_of_ble_eq_true rfl⟩) hKW hP [0, 1, 2, 3, 4, 5, 6, 7, 8, 9, 10, 11, 12, 13, 14, 15, 16, 17, 18, 19, 20, 21, 22, 23, 24, 25, 26, 27, 28, 29, 30, 31, 32, 33, 34, 35, 36, 37, 38, 39, 40, 41, 42, 43, 44, 45, 46, 47, 48, 49, 50, 51, 52, 53, 54, 55] rfl (va_recv hK hP (ci := 5) (q0 := 0) rfl rfl) rfl hl.1 rfl (lv_room (Nat.le_of_ble_eq_true rfl)) dL_holds_339 ⟨Nat.zero_le _, Nat.zero_le _⟩ (fun r82 q83 => ?_)
          obtain ⟨q83, nb84⟩ := q83
          refine lv_as q83.symm ?_
          refine lv_icmp_ge (tgt := 363) hx hb dL_holds_342 (by decide) (fun c85 => ?_) (fun c85 => ?_)
          · have hf := ite_t hf c85
            exact J_363 x2 x3 x4 x5 ls (lv_sub hl [0, 1, 2, 3, 4] rfl) hf
          · have hf := ite_f hf c85
            refine lv_iload hx hb dL_holds_345 (lv_at hl 4 rfl) ?_
            refine lv_aload_n hx hb dL_holds_347 rfl (lv_at hl 0 rfl) ?_
            refine lv_iload hx hb dL_holds_348 (lv_at hl 5 rfl) ?_
            refine lv_iconst (v := 2) hx hb dL_holds_350 (by decide) ?_
            obtain ⟨r86, h87, hf⟩ := bnd_el hf
            refine rdV (As := [.int x6, .int 2]) (rest := [.int x5]) ⟨hx, hb, hml, hown, hts⟩ (c_X5_page l g aF aN aA aW aP aQ aO aH aB _ _ _ _ _ _ _ _ _ h87) (cwV 2 hts gL_holds_X5_page rfl rfl rfl (by decide +kernel) ⟨Nat.le_of_ble_eq_true rfl, Nat.le_of_ble_eq_true rfl⟩) hKW hP [0, 1, 2, 3, 4, 5, 6, 7, 8, 9, 10, 11, 12, 13, 14, 15, 16, 17, 18, 19, 20, 21, 22, 23] rfl (va_recv hK hP (ci := 5) (q0 := 0) rfl rfl) rfl hl.1 rfl (lv_room (Nat.le_of_ble_eq_true rfl)) dL_holds_351 ⟨Nat.zero_le _, Nat.zero_le _⟩ (fun r88 q89 => ?_)
            obtain ⟨q89, nb90⟩ := q89
            refine lv_as q89.symm ?_
            refine lv_iadd hx hb dL_holds_354 ?_
            obtain ⟨v91, e92, hf⟩ := sl_el hf
            refine lv_as e92 ?_
            refine lv_istore (lv' := [(5, .int v91), (0, .ref (aF 0)), (2, .int x2), (3, .int x3), (4, .int x4), (6, .int x6)]) hx hb dL_holds_355 hl (by decide) rfl (fun ls hl => ?_)
            obtain ⟨v93, e94, hf⟩ := sl_el hf
            refine lv_iinc (v := v93) (lv' := [(6, .int v93), (5, .int v91), (0, .ref (aF 0)), (2, .int x2), (3, .int x3), (4, .int x4)]) hx hb dL_holds_357 hl (k := 5) rfl (by rw [e94]; rfl) (by decide) rfl (fun ls hl => ?_)
            refine lv_goto (tgt := 335) hx hb dL_holds_360 (by decide) ?_
            exact ih x2 x3 x4 v91 v93 ls (lv_sub hl [2, 3, 4, 5, 1, 0] rfl) hf
      exact L_335 n x2 x3 x4 0 0 ls (lv_sub hl [2, 3, 4, 5, 1, 0] rfl) hf
    have L_54 : ∀ fu : Nat, ∀ (x1 x2 x3 x4 x5 : Int32) (ls : Array Slot), lv_has ls 8 [(0, .ref (aF 0)), (1, .int x1), (2, .int x2), (3, .int x3), (4, .int x4), (5, .int x5)] → fL_holds_L54 n XF XN XW XP XQ XO XH j329 fu x1 x2 x3 x4 x5 = some r → W p l e (headSpec wsL_holds rmL_holds).room s m args below meth c s.heap [] 0 0 Q0 (F0 m 54 ls []) := by
      intro fu
      induction fu with
      | zero => intros; rename_i hf; rw [fL_holds_L54] at hf; cases hf
      | succ fu ih =>
        intro x1 x2 x3 x4 x5 ls hl hf
        rw [fL_holds_L54] at hf
        refine lv_iload hx hb dL_holds_54 (lv_at hl 5 rfl) ?_
        refine lv_iload_n hx hb dL_holds_56 rfl (lv_at hl 1 rfl) ?_
        refine lv_icmp_ge (tgt := 329) hx hb dL_holds_57 (by decide) (fun c95 => ?_) (fun c95 => ?_)
        · have hf := ite_t hf c95
          exact J_329 x2 x3 x4 ls (lv_sub hl [0, 2, 3, 4] rfl) hf
        · have hf := ite_f hf c95
          refine lv_iload hx hb dL_holds_60 (lv_at hl 4 rfl) ?_
          refine lv_if_eq (tgt := 329) hx hb dL_holds_62 (by decide) (fun c96 => ?_) (fun c96 => ?_)
          · have hf := ite_t hf c96
            exact J_329 x2 x3 x4 ls (lv_sub hl [0, 2, 3, 4] rfl) hf
          · have hf := ite_f hf c96
            refine lv_aload_n hx hb dL_holds_65 rfl (lv_at hl 0 rfl) ?_
            refine lv_iload hx hb dL_holds_66 (lv_at hl 5 rfl) ?_
            refine lv_iconst (v := 4) hx hb dL_holds_68 (by decide) ?_
            obtain ⟨r97, h98, hf⟩ := bnd_el hf
            refine rdV (As := [.int x5, .int 4]) (rest := []) ⟨hx, hb, hml, hown, hts⟩ (c_X5_word l g aF aN aA aW aP aQ aO aH aB _ _ _ _ _ _ _ _ h98) (cwV 2 hts gL_holds_X5_word rfl rfl rfl (by decide +kernel) ⟨Nat.le_of_ble_eq_true rfl, Nat.le_of_ble_eq_true rfl⟩) hKW hP [0, 1, 2, 3, 4, 5, 6, 7, 8, 9, 10, 11, 12, 13, 14, 15, 16, 17, 18, 19, 20, 21, 22, 23] rfl (va_recv hK hP (ci := 5) (q0 := 0) rfl rfl) rfl hl.1 rfl (lv_room (Nat.le_of_ble_eq_true rfl)) dL_holds_69 ⟨Nat.zero_le _, Nat.zero_le _⟩ (fun r99 q100 => ?_)
            obtain ⟨q100, nb101⟩ := q100
            refine lv_as q100.symm ?_
            refine lv_istore (lv' := [(6, .int r97), (0, .ref (aF 0)), (1, .int x1), (2, .int x2), (3, .int x3), (4, .int x4), (5, .int x5)]) hx hb dL_holds_72 hl (by decide) rfl (fun ls hl => ?_)
            refine lv_iload_n hx hb dL_holds_74 rfl (lv_at hl 3 rfl) ?_
            refine lv_aload_n hx hb dL_holds_75 rfl (lv_at hl 1 rfl) ?_
            refine lv_iload hx hb dL_holds_76 (lv_at hl 6 rfl) ?_
            refine lv_bipush (v := 8) hx hb dL_holds_78 (by decide) ?_
            obtain ⟨r102, h103, hf⟩ := bnd_el hf
            refine rdV (As := [.int x5, .int 8]) (rest := [.int x2]) ⟨hx, hb, hml, hown, hts⟩ (c_X5_word l g aF aN aA aW aP aQ aO aH aB _ _ _ _ _ _ _ _ h103) (cwV 2 hts gL_holds_X5_word rfl rfl rfl (by decide +kernel) ⟨Nat.le_of_ble_eq_true rfl, Nat.le_of_ble_eq_true rfl⟩) hKW hP [0, 1, 2, 3, 4, 5, 6, 7, 8, 9, 10, 11, 12, 13, 14, 15, 16, 17, 18, 19, 20, 21, 22, 23] rfl (va_recv hK hP (ci := 5) (q0 := 0) rfl rfl) rfl hl.1 rfl (lv_room (Nat.le_of_ble_eq_true rfl)) dL_holds_80 ⟨Nat.zero_le _, Nat.zero_le _⟩ (fun r104 q105 => ?_)
            obtain ⟨q105, nb106⟩ := q105
            refine lv_as q105.symm ?_
            refine lv_iadd hx hb dL_holds_83 ?_
            obtain ⟨v107, e108, hf⟩ := sl_el hf
            refine lv_as e108 ?_
            refine lv_istore_n (lv' := [(2, .int v107), (6, .int r97), (0, .ref (aF 0)), (1, .int x1), (3, .int x3), (4, .int x4), (5, .int x5)]) hx hb dL_holds_84 rfl hl (by decide) rfl (fun ls hl => ?_)
            refine lv_iload_n hx hb dL_holds_85 rfl (lv_at hl 4 rfl) ?_
            refine lv_aload_n hx hb dL_holds_86 rfl (lv_at hl 2 rfl) ?_
            refine lv_iload hx hb dL_holds_87 (lv_at hl 6 rfl) ?_
            refine lv_iconst (v := 1) hx hb dL_holds_89 (by decide) ?_
            obtain ⟨r109, h110, hf⟩ := bnd_el hf
            refine rdV (As := [.int x5, .int 1]) (rest := [.int x3]) ⟨hx, hb, hml, hown, hts⟩ (c_X5_word l g aF aN aA aW aP aQ aO aH aB _ _ _ _ _ _ _ _ h110) (cwV 2 hts gL_holds_X5_word rfl rfl rfl (by decide +kernel) ⟨Nat.le_of_ble_eq_true rfl, Nat.le_of_ble_eq_true rfl⟩) hKW hP [0, 1, 2, 3, 4, 5, 6, 7, 8, 9, 10, 11, 12, 13, 14, 15, 16, 17, 18, 19, 20, 21, 22, 23] rfl (va_recv hK hP (ci := 5) (q0 := 0) rfl rfl) rfl hl.1 rfl (lv_room (Nat.le_of_ble_eq_true rfl)) dL_holds_90 ⟨Nat.zero_le _, Nat.zero_le _⟩ (fun r111 q112 => ?_)
            obtain ⟨q112, nb113⟩ := q112
            refine lv_as q112.symm ?_
            refine lv_iadd hx hb dL_holds_93 ?_
            obtain ⟨v114, e115, hf⟩ := sl_el hf
            refine lv_as e115 ?_
            refine lv_istore_n (lv' := [(3, .int v114), (2, .int v107), (6, .int r97), (0, .ref (aF 0)), (1, .int x1), (4, .int x4), (5, .int x5)]) hx hb dL_holds_94 rfl hl (by decide) rfl (fun ls hl => ?_)
            refine lv_iload hx hb dL_holds_95 (lv_at hl 2 rfl) ?_
            refine lv_iconst (v := 3) hx hb dL_holds_97 (by decide) ?_
            obtain ⟨j106, ej106, hf⟩ := sl_el hf
            have J_106 : ∀ (x1 x2 x3 x5 x6 k0 : Int32) (ls : Array Slot), lv_has ls 8 [(0, .ref (aF 0)), (1, .int x1), (2, .int x2), (3, .int x3), (5, .int x5), (6, .int x6)] → j106 x1 x2 x3 x5 x6 k0 = some r → W p l e (headSpec wsL_holds rmL_holds).room s m args below meth c s.heap [] 0 0 Q0 (F0 m 106 ls [.int k0]) := by
              intro x1 x2 x3 x5 x6 k0 ls hl hf
              rw [ej106] at hf
              refine lv_aload_n hx hb dL_holds_106 rfl (lv_at hl 0 rfl) ?_
              refine lv_iload hx hb dL_holds_107 (lv_at hl 4 rfl) ?_
              refine lv_bipush (v := 8) hx hb dL_holds_109 (by decide) ?_
              obtain ⟨r116, h117, hf⟩ := bnd_el hf
              refine rdV (As := [.int x5, .int 8]) (rest := [.int k0]) ⟨hx, hb, hml, hown, hts⟩ (c_X5_word l g aF aN aA aW aP aQ aO aH aB _ _ _ _ _ _ _ _ h117) (cwV 2 hts gL_holds_X5_word rfl rfl rfl (by decide +kernel) ⟨Nat.le_of_ble_eq_true rfl, Nat.le_of_ble_eq_true rfl⟩) hKW hP [0, 1, 2, 3, 4, 5, 6, 7, 8, 9, 10, 11, 12, 13, 14, 15, 16, 17, 18, 19, 20, 21, 22, 23] rfl (va_recv hK hP (ci := 5) (q0 := 0) rfl rfl) rfl hl.1 rfl (lv_room (Nat.le_of_ble_eq_true rfl)) dL_holds_111 ⟨Nat.zero_le _, Nat.zero_le _⟩ (fun r118 q119 => ?_)
              obtain ⟨q119, nb120⟩ := q119
              refine lv_as q119.symm ?_
              obtain ⟨j122, ej122, hf⟩ := sl_el hf
              have J_122 : ∀ (x1 x2 x3 x5 x6 k0 k1 : Int32) (ls : Array Slot), lv_has ls 8 [(0, .ref (aF 0)), (1, .int x1), (2, .int x2), (3, .int x3), (5, .int x5), (6, .int x6)] → j122 x1 x2 x3 x5 x6 k0 k1 = some r → W p l e (headSpec wsL_holds rmL_holds).room s m args below meth c s.heap [] 0 0 Q0 (F0 m 122 ls [.int k1, .int k0]) := by
                intro x1 x2 x3 x5 x6 k0 k1 ls hl hf
                rw [ej122] at hf
                obtain ⟨j250, ej250, hf⟩ := sl_el hf
                have J_250 : ∀ (x1 x2 x3 x5 x6 k0 : Int32) (ls : Array Slot), lv_has ls 8 [(0, .ref (aF 0)), (1, .int x1), (2, .int x2), (3, .int x3), (5, .int x5), (6, .int x6)] → j250 x1 x2 x3 x5 x6 k0 = some r → W p l e (headSpec wsL_holds rmL_holds).room s m args below meth c s.heap [] 0 0 Q0 (F0 m 250 ls [.int k0]) := by
                  intro x1 x2 x3 x5 x6 k0 ls hl hf
                  rw [ej250] at hf
                  refine lv_istore (lv' := [(4, .int k0), (0, .ref (aF 0)), (1, .int x1), (2, .int x2), (3, .int x3), (5, .int x5), (6, .int x6)]) hx hb dL_holds_250 hl (by decide) rfl (fun ls hl => ?_)
                  refine lv_iload hx hb dL_holds_252 (lv_at hl 0 rfl) ?_
                  obtain ⟨j321, ej321, hf⟩ := sl_el hf
                  have J_321 : ∀ (x1 x2 x3 x5 k0 : Int32) (ls : Array Slot), lv_has ls 8 [(0, .ref (aF 0)), (1, .int x1), (2, .int x2), (3, .int x3), (5, .int x5)] → j321 x1 x2 x3 x5 k0 = some r → W p l e (headSpec wsL_holds rmL_holds).room s m args below meth c s.heap [] 0 0 Q0 (F0 m 321 ls [.int k0]) := by
                    intro x1 x2 x3 x5 k0 ls hl hf
                    rw [ej321] at hf
                    refine lv_istore (lv' := [(4, .int k0), (0, .ref (aF 0)), (1, .int x1), (2, .int x2), (3, .int x3), (5, .int x5)]) hx hb dL_holds_321 hl (by decide) rfl (fun ls hl => ?_)
                    obtain ⟨v121, e122, hf⟩ := sl_el hf
                    refine lv_iinc (v := v121) (lv' := [(5, .int v121), (4, .int k0), (0, .ref (aF 0)), (1, .int x1), (2, .int x2), (3, .int x3)]) hx hb dL_holds_323 hl (k := 5) rfl (by rw [e122]; rfl) (by decide) rfl (fun ls hl => ?_)
                    refine lv_goto (tgt := 54) hx hb dL_holds_326 (by decide) ?_
                    exact ih x1 x2 x3 k0 v121 ls (lv_sub hl [2, 3, 4, 5, 1, 0] rfl) hf
                  obtain ⟨j320, ej320, hf⟩ := sl_el hf
                  have J_320 : ∀ (x1 x2 x3 x5 : Int32) (ls : Array Slot), lv_has ls 8 [(0, .ref (aF 0)), (1, .int x1), (2, .int x2), (3, .int x3), (5, .int x5)] → j320 x1 x2 x3 x5 = some r → W p l e (headSpec wsL_holds rmL_holds).room s m args below meth c s.heap [] 0 0 Q0 (F0 m 320 ls []) := by
                    intro x1 x2 x3 x5 ls hl hf
                    rw [ej320] at hf
                    refine lv_iconst (v := 0) hx hb dL_holds_320 (by decide) ?_
                    exact J_321 x1 x2 x3 x5 0 ls (lv_sub hl [0, 1, 2, 3, 4] rfl) hf
                  refine lv_if_eq (tgt := 320) hx hb dL_holds_254 (by decide) (fun c123 => ?_) (fun c123 => ?_)
                  · have hf := ite_t hf c123
                    exact J_320 x1 x2 x3 x5 ls (lv_sub hl [1, 2, 3, 4, 5] rfl) hf
                  · have hf := ite_f hf c123
                    refine lv_iload hx hb dL_holds_257 (lv_at hl 6 rfl) ?_
                    refine lv_iconst (v := 3) hx hb dL_holds_259 (by decide) ?_
                    obtain ⟨j274, ej274, hf⟩ := sl_el hf
                    have J_274 : ∀ (x1 x2 x3 x5 : Int32) (ls : Array Slot), lv_has ls 8 [(0, .ref (aF 0)), (1, .int x1), (2, .int x2), (3, .int x3), (5, .int x5)] → j274 x1 x2 x3 x5 = some r → W p l e (headSpec wsL_holds rmL_holds).room s m args below meth c s.heap [] 0 0 Q0 (F0 m 274 ls []) := by
                      intro x1 x2 x3 x5 ls hl hf
                      rw [ej274] at hf
                      refine lv_aload_n hx hb dL_holds_274 rfl (lv_at hl 0 rfl) ?_
                      refine lv_iload hx hb dL_holds_275 (lv_at hl 4 rfl) ?_
                      refine lv_iconst (v := 3) hx hb dL_holds_277 (by decide) ?_
                      obtain ⟨r124, h125, hf⟩ := bnd_el hf
                      refine rdV (As := [.int x5, .int 3]) (rest := []) ⟨hx, hb, hml, hown, hts⟩ (c_X5_word l g aF aN aA aW aP aQ aO aH aB _ _ _ _ _ _ _ _ h125) (cwV 2 hts gL_holds_X5_word rfl rfl rfl (by decide +kernel) ⟨Nat.le_of_ble_eq_true rfl, Nat.le_of_ble_eq_true rfl⟩) hKW hP [0, 1, 2, 3, 4, 5, 6, 7, 8, 9, 10, 11, 12, 13, 14, 15, 16, 17, 18, 19, 20, 21, 22, 23] rfl (va_recv hK hP (ci := 5) (q0 := 0) rfl rfl) rfl hl.1 rfl (lv_room (Nat.le_of_ble_eq_true rfl)) dL_holds_278 ⟨Nat.zero_le _, Nat.zero_le _⟩ (fun r126 q127 => ?_)
                      obtain ⟨q127, nb128⟩ := q127
                      refine lv_as q127.symm ?_
                      refine lv_aload_n hx hb dL_holds_281 rfl (lv_at hl 0 rfl) ?_
                      refine lv_iload hx hb dL_holds_282 (lv_at hl 4 rfl) ?_
                      refine lv_iconst (v := 2) hx hb dL_holds_284 (by decide) ?_
                      obtain ⟨r129, h130, hf⟩ := bnd_el hf
                      refine rdV (As := [.int x5, .int 2]) (rest := [.int r124]) ⟨hx, hb, hml, hown, hts⟩ (c_X5_word l g aF aN aA aW aP aQ aO aH aB _ _ _ _ _ _ _ _ h130) (cwV 2 hts gL_holds_X5_word rfl rfl rfl (by decide +kernel) ⟨Nat.le_of_ble_eq_true rfl, Nat.le_of_ble_eq_true rfl⟩) hKW hP [0, 1, 2, 3, 4, 5, 6, 7, 8, 9, 10, 11, 12, 13, 14, 15, 16, 17, 18, 19, 20, 21, 22, 23] rfl (va_recv hK hP (ci := 5) (q0 := 0) rfl rfl) rfl hl.1 rfl (lv_room (Nat.le_of_ble_eq_true rfl)) dL_holds_285 ⟨Nat.zero_le _, Nat.zero_le _⟩ (fun r131 q132 => ?_)
                      obtain ⟨q132, nb133⟩ := q132
                      refine lv_as q132.symm ?_
                      refine lv_iconst (v := 5) hx hb dL_holds_288 (by decide) ?_
                      obtain ⟨j313, ej313, hf⟩ := sl_el hf
                      have J_313 : ∀ (x1 x2 x3 x5 k0 k1 : Int32) (ls : Array Slot), lv_has ls 8 [(0, .ref (aF 0)), (1, .int x1), (2, .int x2), (3, .int x3), (5, .int x5)] → j313 x1 x2 x3 x5 k0 k1 = some r → W p l e (headSpec wsL_holds rmL_holds).room s m args below meth c s.heap [] 0 0 Q0 (F0 m 313 ls [.int k1, .int k0]) := by
                        intro x1 x2 x3 x5 k0 k1 ls hl hf
                        rw [ej313] at hf
                        refine lv_icmp_ne (tgt := 320) hx hb dL_holds_313 (by decide) (fun c134 => ?_) (fun c134 => ?_)
                        · have hf := ite_f hf c134
                          exact J_320 x1 x2 x3 x5 ls (lv_sub hl [0, 1, 2, 3, 4] rfl) hf
                        · have hf := ite_t hf c134
                          refine lv_iconst (v := 1) hx hb dL_holds_316 (by decide) ?_
                          refine lv_goto (tgt := 321) hx hb dL_holds_317 (by decide) ?_
                          exact J_321 x1 x2 x3 x5 1 ls (lv_sub hl [0, 1, 2, 3, 4] rfl) hf
                      refine lv_icmp_ge (tgt := 296) hx hb dL_holds_289 (by decide) (fun c135 => ?_) (fun c135 => ?_)
                      · have hf := ite_t hf c135
                        refine lv_aload_n hx hb dL_holds_296 rfl (lv_at hl 0 rfl) ?_
                        refine lv_iload hx hb dL_holds_297 (lv_at hl 4 rfl) ?_
                        refine lv_iconst (v := 2) hx hb dL_holds_299 (by decide) ?_
                        obtain ⟨r136, h137, hf⟩ := bnd_el hf
                        refine rdV (As := [.int x5, .int 2]) (rest := [.int r124]) ⟨hx, hb, hml, hown, hts⟩ (c_X5_word l g aF aN aA aW aP aQ aO aH aB _ _ _ _ _ _ _ _ h137) (cwV 2 hts gL_holds_X5_word rfl rfl rfl (by decide +kernel) ⟨Nat.le_of_ble_eq_true rfl, Nat.le_of_ble_eq_true rfl⟩) hKW hP [0, 1, 2, 3, 4, 5, 6, 7, 8, 9, 10, 11, 12, 13, 14, 15, 16, 17, 18, 19, 20, 21, 22, 23] rfl (va_recv hK hP (ci := 5) (q0 := 0) rfl rfl) rfl hl.1 rfl (lv_room (Nat.le_of_ble_eq_true rfl)) dL_holds_300 ⟨Nat.zero_le _, Nat.zero_le _⟩ (fun r138 q139 => ?_)
                        obtain ⟨q139, nb140⟩ := q139
                        refine lv_as q139.symm ?_
                        refine lv_bipush (v := 9) hx hb dL_holds_303 (by decide) ?_
                        refine lv_icmp_ge (tgt := 312) hx hb dL_holds_305 (by decide) (fun c141 => ?_) (fun c141 => ?_)
                        · have hf := ite_t hf c141
                          refine lv_iconst (v := 2) hx hb dL_holds_312 (by decide) ?_
                          exact J_313 x1 x2 x3 x5 r124 2 ls (lv_sub hl [0, 1, 2, 3, 4] rfl) hf
                        · have hf := ite_f hf c141
                          refine lv_iconst (v := 1) hx hb dL_holds_308 (by decide) ?_
                          refine lv_goto (tgt := 313) hx hb dL_holds_309 (by decide) ?_
                          exact J_313 x1 x2 x3 x5 r124 1 ls (lv_sub hl [0, 1, 2, 3, 4] rfl) hf
                      · have hf := ite_f hf c135
                        refine lv_iconst (v := 0) hx hb dL_holds_292 (by decide) ?_
                        refine lv_goto (tgt := 313) hx hb dL_holds_293 (by decide) ?_
                        exact J_313 x1 x2 x3 x5 r124 0 ls (lv_sub hl [0, 1, 2, 3, 4] rfl) hf
                    refine lv_icmp_lt (tgt := 274) hx hb dL_holds_260 (by decide) (fun c142 => ?_) (fun c142 => ?_)
                    · have hf := ite_t hf c142
                      exact J_274 x1 x2 x3 x5 ls (lv_sub hl [1, 2, 3, 4, 5] rfl) hf
                    · have hf := ite_f hf c142
                      refine lv_aload_n hx hb dL_holds_263 rfl (lv_at hl 1 rfl) ?_
                      refine lv_iload hx hb dL_holds_264 (lv_at hl 5 rfl) ?_
                      refine lv_bipush (v := 9) hx hb dL_holds_266 (by decide) ?_
                      obtain ⟨r143, h144, hf⟩ := bnd_el hf
                      refine rdV (As := [.int x5, .int 9]) (rest := []) ⟨hx, hb, hml, hown, hts⟩ (c_X5_word l g aF aN aA aW aP aQ aO aH aB _ _ _ _ _ _ _ _ h144) (cwV 2 hts gL_holds_X5_word rfl rfl rfl (by decide +kernel) ⟨Nat.le_of_ble_eq_true rfl, Nat.le_of_ble_eq_true rfl⟩) hKW hP [0, 1, 2, 3, 4, 5, 6, 7, 8, 9, 10, 11, 12, 13, 14, 15, 16, 17, 18, 19, 20, 21, 22, 23] rfl (va_recv hK hP (ci := 5) (q0 := 0) rfl rfl) rfl hl.1 rfl (lv_room (Nat.le_of_ble_eq_true rfl)) dL_holds_268 ⟨Nat.zero_le _, Nat.zero_le _⟩ (fun r145 q146 => ?_)
                      obtain ⟨q146, nb147⟩ := q146
                      refine lv_as q146.symm ?_
                      refine lv_if_ne (tgt := 320) hx hb dL_holds_271 (by decide) (fun c148 => ?_) (fun c148 => ?_)
                      · have hf := ite_f hf c148
                        exact J_320 x1 x2 x3 x5 ls (lv_sub hl [1, 2, 3, 4, 5] rfl) hf
                      · have hf := ite_t hf c148
                        exact J_274 x1 x2 x3 x5 ls (lv_sub hl [1, 2, 3, 4, 5] rfl) hf
                obtain ⟨j249, ej249, hf⟩ := sl_el hf
                have J_249 : ∀ (x1 x2 x3 x5 x6 : Int32) (ls : Array Slot), lv_has ls 8 [(0, .ref (aF 0)), (1, .int x1), (2, .int x2), (3, .int x3), (5, .int x5), (6, .int x6)] → j249 x1 x2 x3 x5 x6 = some r → W p l e (headSpec wsL_holds rmL_holds).room s m args below meth c s.heap [] 0 0 Q0 (F0 m 249 ls []) := by
                  intro x1 x2 x3 x5 x6 ls hl hf
                  rw [ej249] at hf
                  refine lv_iconst (v := 0) hx hb dL_holds_249 (by decide) ?_
                  exact J_250 x1 x2 x3 x5 x6 0 ls (lv_sub hl [0, 1, 2, 3, 4, 5] rfl) hf
                refine lv_icmp_ne (tgt := 249) hx hb dL_holds_122 (by decide) (fun c149 => ?_) (fun c149 => ?_)
                · have hf := ite_f hf c149
                  exact J_249 x1 x2 x3 x5 x6 ls (lv_sub hl [0, 1, 2, 3, 4, 5] rfl) hf
                · have hf := ite_t hf c149
                  refine lv_aload_n hx hb dL_holds_125 rfl (lv_at hl 0 rfl) ?_
                  refine lv_iload hx hb dL_holds_126 (lv_at hl 4 rfl) ?_
                  refine lv_bipush (v := 7) hx hb dL_holds_128 (by decide) ?_
                  obtain ⟨r150, h151, hf⟩ := bnd_el hf
                  refine rdV (As := [.int x5, .int 7]) (rest := []) ⟨hx, hb, hml, hown, hts⟩ (c_X5_word l g aF aN aA aW aP aQ aO aH aB _ _ _ _ _ _ _ _ h151) (cwV 2 hts gL_holds_X5_word rfl rfl rfl (by decide +kernel) ⟨Nat.le_of_ble_eq_true rfl, Nat.le_of_ble_eq_true rfl⟩) hKW hP [0, 1, 2, 3, 4, 5, 6, 7, 8, 9, 10, 11, 12, 13, 14, 15, 16, 17, 18, 19, 20, 21, 22, 23] rfl (va_recv hK hP (ci := 5) (q0 := 0) rfl rfl) rfl hl.1 rfl (lv_room (Nat.le_of_ble_eq_true rfl)) dL_holds_130 ⟨Nat.zero_le _, Nat.zero_le _⟩ (fun r152 q153 => ?_)
                  obtain ⟨q153, nb154⟩ := q153
                  refine lv_as q153.symm ?_
                  refine lv_aload_n hx hb dL_holds_133 rfl (lv_at hl 0 rfl) ?_
                  refine lv_bipush (v := 21) hx hb dL_holds_134 (by decide) ?_
                  obtain ⟨r155, h156, hf⟩ := bnd_el hf
                  refine rdV (As := [.int 21]) (rest := [.int r150]) ⟨hx, hb, hml, hown, hts⟩ (c_X5_count l g aF aN aA aW aP aQ aO aH aB _ _ _ _ _ _ _ _ _ _ h156) (cwV 1 hts gL_holds_X5_count rfl rfl rfl (by decide +kernel) ⟨Nat.le_of_ble_eq_true rfl, Nat.le_of_ble_eq_true rfl⟩) hKW hP [0, 1, 2, 3, 4, 5, 6, 7, 8, 9, 10, 11, 12, 13, 14, 15, 16, 17, 18, 19, 20, 21, 22, 23, 24, 25, 26, 27, 28, 29, 30, 31, 32, 33, 34, 35, 36, 37, 38, 39, 40, 41, 42, 43, 44, 45, 46, 47, 48, 49, 50, 51, 52, 53, 54, 55] rfl (va_recv hK hP (ci := 5) (q0 := 0) rfl rfl) rfl hl.1 rfl (lv_room (Nat.le_of_ble_eq_true rfl)) dL_holds_136 ⟨Nat.zero_le _, Nat.zero_le _⟩ (fun r157 q158 => ?_)
                  obtain ⟨q158, nb159⟩ := q158
                  refine lv_as q158.symm ?_
                  refine lv_icmp_lt (tgt := 249) hx hb dL_holds_139 (by decide) (fun c160 => ?_) (fun c160 => ?_)
                  · have hf := ite_t hf c160
                    exact J_249 x1 x2 x3 x5 x6 ls (lv_sub hl [0, 1, 2, 3, 4, 5] rfl) hf
                  · have hf := ite_f hf c160
                    refine lv_aload_n hx hb dL_holds_142 rfl (lv_at hl 0 rfl) ?_
                    refine lv_iload hx hb dL_holds_143 (lv_at hl 4 rfl) ?_
                    refine lv_iconst (v := 2) hx hb dL_holds_145 (by decide) ?_
                    obtain ⟨r161, h162, hf⟩ := bnd_el hf
                    refine rdV (As := [.int x5, .int 2]) (rest := []) ⟨hx, hb, hml, hown, hts⟩ (c_X5_word l g aF aN aA aW aP aQ aO aH aB _ _ _ _ _ _ _ _ h162) (cwV 2 hts gL_holds_X5_word rfl rfl rfl (by decide +kernel) ⟨Nat.le_of_ble_eq_true rfl, Nat.le_of_ble_eq_true rfl⟩) hKW hP [0, 1, 2, 3, 4, 5, 6, 7, 8, 9, 10, 11, 12, 13, 14, 15, 16, 17, 18, 19, 20, 21, 22, 23] rfl (va_recv hK hP (ci := 5) (q0 := 0) rfl rfl) rfl hl.1 rfl (lv_room (Nat.le_of_ble_eq_true rfl)) dL_holds_146 ⟨Nat.zero_le _, Nat.zero_le _⟩ (fun r163 q164 => ?_)
                    obtain ⟨q164, nb165⟩ := q164
                    refine lv_as q164.symm ?_
                    refine lv_aload_n hx hb dL_holds_149 rfl (lv_at hl 0 rfl) ?_
                    refine lv_iload hx hb dL_holds_150 (lv_at hl 4 rfl) ?_
                    refine lv_iconst (v := 1) hx hb dL_holds_152 (by decide) ?_
                    obtain ⟨r166, h167, hf⟩ := bnd_el hf
                    refine rdV (As := [.int x5, .int 1]) (rest := [.int r161]) ⟨hx, hb, hml, hown, hts⟩ (c_X5_word l g aF aN aA aW aP aQ aO aH aB _ _ _ _ _ _ _ _ h167) (cwV 2 hts gL_holds_X5_word rfl rfl rfl (by decide +kernel) ⟨Nat.le_of_ble_eq_true rfl, Nat.le_of_ble_eq_true rfl⟩) hKW hP [0, 1, 2, 3, 4, 5, 6, 7, 8, 9, 10, 11, 12, 13, 14, 15, 16, 17, 18, 19, 20, 21, 22, 23] rfl (va_recv hK hP (ci := 5) (q0 := 0) rfl rfl) rfl hl.1 rfl (lv_room (Nat.le_of_ble_eq_true rfl)) dL_holds_153 ⟨Nat.zero_le _, Nat.zero_le _⟩ (fun r168 q169 => ?_)
                    obtain ⟨q169, nb170⟩ := q169
                    refine lv_as q169.symm ?_
                    refine lv_icmp_gt (tgt := 249) hx hb dL_holds_156 (by decide) (fun c171 => ?_) (fun c171 => ?_)
                    · have hf := ite_t hf c171
                      exact J_249 x1 x2 x3 x5 x6 ls (lv_sub hl [0, 1, 2, 3, 4, 5] rfl) hf
                    · have hf := ite_f hf c171
                      refine lv_aload_n hx hb dL_holds_159 rfl (lv_at hl 0 rfl) ?_
                      refine lv_iload hx hb dL_holds_160 (lv_at hl 4 rfl) ?_
                      refine lv_bipush (v := 10) hx hb dL_holds_162 (by decide) ?_
                      obtain ⟨r172, h173, hf⟩ := bnd_el hf
                      refine rdV (As := [.int x5, .int 10]) (rest := []) ⟨hx, hb, hml, hown, hts⟩ (c_X5_word l g aF aN aA aW aP aQ aO aH aB _ _ _ _ _ _ _ _ h173) (cwV 2 hts gL_holds_X5_word rfl rfl rfl (by decide +kernel) ⟨Nat.le_of_ble_eq_true rfl, Nat.le_of_ble_eq_true rfl⟩) hKW hP [0, 1, 2, 3, 4, 5, 6, 7, 8, 9, 10, 11, 12, 13, 14, 15, 16, 17, 18, 19, 20, 21, 22, 23] rfl (va_recv hK hP (ci := 5) (q0 := 0) rfl rfl) rfl hl.1 rfl (lv_room (Nat.le_of_ble_eq_true rfl)) dL_holds_164 ⟨Nat.zero_le _, Nat.zero_le _⟩ (fun r174 q175 => ?_)
                      obtain ⟨q175, nb176⟩ := q175
                      refine lv_as q175.symm ?_
                      obtain ⟨j175, ej175, hf⟩ := sl_el hf
                      have J_175 : ∀ (x1 x2 x3 x5 x6 k0 : Int32) (ls : Array Slot), lv_has ls 8 [(0, .ref (aF 0)), (1, .int x1), (2, .int x2), (3, .int x3), (5, .int x5), (6, .int x6)] → j175 x1 x2 x3 x5 x6 k0 = some r → W p l e (headSpec wsL_holds rmL_holds).room s m args below meth c s.heap [] 0 0 Q0 (F0 m 175 ls [.int k0]) := by
                        intro x1 x2 x3 x5 x6 k0 ls hl hf
                        rw [ej175] at hf
                        refine lv_aload_n hx hb dL_holds_175 rfl (lv_at hl 0 rfl) ?_
                        refine lv_iload hx hb dL_holds_176 (lv_at hl 4 rfl) ?_
                        refine lv_iconst (v := 2) hx hb dL_holds_178 (by decide) ?_
                        obtain ⟨r177, h178, hf⟩ := bnd_el hf
                        refine rdV (As := [.int x5, .int 2]) (rest := [.int k0]) ⟨hx, hb, hml, hown, hts⟩ (c_X5_word l g aF aN aA aW aP aQ aO aH aB _ _ _ _ _ _ _ _ h178) (cwV 2 hts gL_holds_X5_word rfl rfl rfl (by decide +kernel) ⟨Nat.le_of_ble_eq_true rfl, Nat.le_of_ble_eq_true rfl⟩) hKW hP [0, 1, 2, 3, 4, 5, 6, 7, 8, 9, 10, 11, 12, 13, 14, 15, 16, 17, 18, 19, 20, 21, 22, 23] rfl (va_recv hK hP (ci := 5) (q0 := 0) rfl rfl) rfl hl.1 rfl (lv_room (Nat.le_of_ble_eq_true rfl)) dL_holds_179 ⟨Nat.zero_le _, Nat.zero_le _⟩ (fun r179 q180 => ?_)
                        obtain ⟨q180, nb181⟩ := q180
                        refine lv_as q180.symm ?_
                        obtain ⟨j190, ej190, hf⟩ := sl_el hf
                        have J_190 : ∀ (x1 x2 x3 x5 x6 k0 k1 : Int32) (ls : Array Slot), lv_has ls 8 [(0, .ref (aF 0)), (1, .int x1), (2, .int x2), (3, .int x3), (5, .int x5), (6, .int x6)] → j190 x1 x2 x3 x5 x6 k0 k1 = some r → W p l e (headSpec wsL_holds rmL_holds).room s m args below meth c s.heap [] 0 0 Q0 (F0 m 190 ls [.int k1, .int k0]) := by
                          intro x1 x2 x3 x5 x6 k0 k1 ls hl hf
                          rw [ej190] at hf
                          refine lv_icmp_ne (tgt := 249) hx hb dL_holds_190 (by decide) (fun c182 => ?_) (fun c182 => ?_)
                          · have hf := ite_f hf c182
                            exact J_249 x1 x2 x3 x5 x6 ls (lv_sub hl [0, 1, 2, 3, 4, 5] rfl) hf
                          · have hf := ite_t hf c182
                            refine lv_aload_n hx hb dL_holds_193 rfl (lv_at hl 0 rfl) ?_
                            refine lv_iload hx hb dL_holds_194 (lv_at hl 4 rfl) ?_
                            refine lv_bipush (v := 10) hx hb dL_holds_196 (by decide) ?_
                            obtain ⟨r183, h184, hf⟩ := bnd_el hf
                            refine rdV (As := [.int x5, .int 10]) (rest := []) ⟨hx, hb, hml, hown, hts⟩ (c_X5_word l g aF aN aA aW aP aQ aO aH aB _ _ _ _ _ _ _ _ h184) (cwV 2 hts gL_holds_X5_word rfl rfl rfl (by decide +kernel) ⟨Nat.le_of_ble_eq_true rfl, Nat.le_of_ble_eq_true rfl⟩) hKW hP [0, 1, 2, 3, 4, 5, 6, 7, 8, 9, 10, 11, 12, 13, 14, 15, 16, 17, 18, 19, 20, 21, 22, 23] rfl (va_recv hK hP (ci := 5) (q0 := 0) rfl rfl) rfl hl.1 rfl (lv_room (Nat.le_of_ble_eq_true rfl)) dL_holds_198 ⟨Nat.zero_le _, Nat.zero_le _⟩ (fun r185 q186 => ?_)
                            obtain ⟨q186, nb187⟩ := q186
                            refine lv_as q186.symm ?_
                            refine lv_aload_n hx hb dL_holds_201 rfl (lv_at hl 0 rfl) ?_
                            refine lv_iload hx hb dL_holds_202 (lv_at hl 4 rfl) ?_
                            refine lv_iconst (v := 1) hx hb dL_holds_204 (by decide) ?_
                            obtain ⟨r188, h189, hf⟩ := bnd_el hf
                            refine rdV (As := [.int x5, .int 1]) (rest := [.int r183]) ⟨hx, hb, hml, hown, hts⟩ (c_X5_word l g aF aN aA aW aP aQ aO aH aB _ _ _ _ _ _ _ _ h189) (cwV 2 hts gL_holds_X5_word rfl rfl rfl (by decide +kernel) ⟨Nat.le_of_ble_eq_true rfl, Nat.le_of_ble_eq_true rfl⟩) hKW hP [0, 1, 2, 3, 4, 5, 6, 7, 8, 9, 10, 11, 12, 13, 14, 15, 16, 17, 18, 19, 20, 21, 22, 23] rfl (va_recv hK hP (ci := 5) (q0 := 0) rfl rfl) rfl hl.1 rfl (lv_room (Nat.le_of_ble_eq_true rfl)) dL_holds_205 ⟨Nat.zero_le _, Nat.zero_le _⟩ (fun r190 q191 => ?_)
                            obtain ⟨q191, nb192⟩ := q191
                            refine lv_as q191.symm ?_
                            refine lv_icmp_ge (tgt := 249) hx hb dL_holds_208 (by decide) (fun c193 => ?_) (fun c193 => ?_)
                            · have hf := ite_t hf c193
                              exact J_249 x1 x2 x3 x5 x6 ls (lv_sub hl [0, 1, 2, 3, 4, 5] rfl) hf
                            · have hf := ite_f hf c193
                              refine lv_iload hx hb dL_holds_211 (lv_at hl 4 rfl) ?_
                              obtain ⟨j245, ej245, hf⟩ := sl_el hf
                              have J_245 : ∀ (x1 x2 x3 x5 x6 : Int32) (ls : Array Slot), lv_has ls 8 [(0, .ref (aF 0)), (1, .int x1), (2, .int x2), (3, .int x3), (5, .int x5), (6, .int x6)] → j245 x1 x2 x3 x5 x6 = some r → W p l e (headSpec wsL_holds rmL_holds).room s m args below meth c s.heap [] 0 0 Q0 (F0 m 245 ls []) := by
                                intro x1 x2 x3 x5 x6 ls hl hf
                                rw [ej245] at hf
                                refine lv_iconst (v := 1) hx hb dL_holds_245 (by decide) ?_
                                refine lv_goto (tgt := 250) hx hb dL_holds_246 (by decide) ?_
                                exact J_250 x1 x2 x3 x5 x6 1 ls (lv_sub hl [0, 1, 2, 3, 4, 5] rfl) hf
                              refine lv_if_eq (tgt := 245) hx hb dL_holds_213 (by decide) (fun c194 => ?_) (fun c194 => ?_)
                              · have hf := ite_t hf c194
                                exact J_245 x1 x2 x3 x5 x6 ls (lv_sub hl [0, 1, 2, 3, 4, 5] rfl) hf
                              · have hf := ite_f hf c194
                                refine lv_aload_n hx hb dL_holds_216 rfl (lv_at hl 0 rfl) ?_
                                refine lv_iload hx hb dL_holds_217 (lv_at hl 4 rfl) ?_
                                refine lv_iconst (v := 0) hx hb dL_holds_219 (by decide) ?_
                                obtain ⟨r195, h196, hf⟩ := bnd_el hf
                                refine rdV (As := [.int x5, .int 0]) (rest := []) ⟨hx, hb, hml, hown, hts⟩ (c_X5_word l g aF aN aA aW aP aQ aO aH aB _ _ _ _ _ _ _ _ h196) (cwV 2 hts gL_holds_X5_word rfl rfl rfl (by decide +kernel) ⟨Nat.le_of_ble_eq_true rfl, Nat.le_of_ble_eq_true rfl⟩) hKW hP [0, 1, 2, 3, 4, 5, 6, 7, 8, 9, 10, 11, 12, 13, 14, 15, 16, 17, 18, 19, 20, 21, 22, 23] rfl (va_recv hK hP (ci := 5) (q0 := 0) rfl rfl) rfl hl.1 rfl (lv_room (Nat.le_of_ble_eq_true rfl)) dL_holds_220 ⟨Nat.zero_le _, Nat.zero_le _⟩ (fun r197 q198 => ?_)
                                obtain ⟨q198, nb199⟩ := q198
                                refine lv_as q198.symm ?_
                                refine lv_aload_n hx hb dL_holds_223 rfl (lv_at hl 0 rfl) ?_
                                refine lv_iload hx hb dL_holds_224 (lv_at hl 4 rfl) ?_
                                refine lv_iconst (v := 1) hx hb dL_holds_226 (by decide) ?_
                                refine lv_isub hx hb dL_holds_227 ?_
                                refine lv_iconst (v := 0) hx hb dL_holds_228 (by decide) ?_
                                obtain ⟨r200, h201, hf⟩ := bnd_el hf
                                refine rdV (As := [.int (x5 - 1), .int 0]) (rest := [.int r195]) ⟨hx, hb, hml, hown, hts⟩ (c_X5_word l g aF aN aA aW aP aQ aO aH aB _ _ _ _ _ _ _ _ h201) (cwV 2 hts gL_holds_X5_word rfl rfl rfl (by decide +kernel) ⟨Nat.le_of_ble_eq_true rfl, Nat.le_of_ble_eq_true rfl⟩) hKW hP [0, 1, 2, 3, 4, 5, 6, 7, 8, 9, 10, 11, 12, 13, 14, 15, 16, 17, 18, 19, 20, 21, 22, 23] rfl (va_recv hK hP (ci := 5) (q0 := 0) rfl rfl) rfl hl.1 rfl (lv_room (Nat.le_of_ble_eq_true rfl)) dL_holds_229 ⟨Nat.zero_le _, Nat.zero_le _⟩ (fun r202 q203 => ?_)
                                obtain ⟨q203, nb204⟩ := q203
                                refine lv_as q203.symm ?_
                                refine lv_aload_n hx hb dL_holds_232 rfl (lv_at hl 0 rfl) ?_
                                refine lv_iload hx hb dL_holds_233 (lv_at hl 4 rfl) ?_
                                refine lv_iconst (v := 1) hx hb dL_holds_235 (by decide) ?_
                                refine lv_isub hx hb dL_holds_236 ?_
                                refine lv_iconst (v := 1) hx hb dL_holds_237 (by decide) ?_
                                obtain ⟨r205, h206, hf⟩ := bnd_el hf
                                refine rdV (As := [.int (x5 - 1), .int 1]) (rest := [.int r200, .int r195]) ⟨hx, hb, hml, hown, hts⟩ (c_X5_word l g aF aN aA aW aP aQ aO aH aB _ _ _ _ _ _ _ _ h206) (cwV 2 hts gL_holds_X5_word rfl rfl rfl (by decide +kernel) ⟨Nat.le_of_ble_eq_true rfl, Nat.le_of_ble_eq_true rfl⟩) hKW hP [0, 1, 2, 3, 4, 5, 6, 7, 8, 9, 10, 11, 12, 13, 14, 15, 16, 17, 18, 19, 20, 21, 22, 23] rfl (va_recv hK hP (ci := 5) (q0 := 0) rfl rfl) rfl hl.1 rfl (lv_room (Nat.le_of_ble_eq_true rfl)) dL_holds_238 ⟨Nat.zero_le _, Nat.zero_le _⟩ (fun r207 q208 => ?_)
                                obtain ⟨q208, nb209⟩ := q208
                                refine lv_as q208.symm ?_
                                refine lv_iadd hx hb dL_holds_241 ?_
                                refine lv_icmp_le (tgt := 249) hx hb dL_holds_242 (by decide) (fun c210 => ?_) (fun c210 => ?_)
                                · have hf := ite_t hf c210
                                  exact J_249 x1 x2 x3 x5 x6 ls (lv_sub hl [0, 1, 2, 3, 4, 5] rfl) hf
                                · have hf := ite_f hf c210
                                  exact J_245 x1 x2 x3 x5 x6 ls (lv_sub hl [0, 1, 2, 3, 4, 5] rfl) hf
                        refine lv_if_ne (tgt := 189) hx hb dL_holds_182 (by decide) (fun c211 => ?_) (fun c211 => ?_)
                        · have hf := ite_f hf c211
                          refine lv_iconst (v := 0) hx hb dL_holds_189 (by decide) ?_
                          exact J_190 x1 x2 x3 x5 x6 k0 0 ls (lv_sub hl [0, 1, 2, 3, 4, 5] rfl) hf
                        · have hf := ite_t hf c211
                          refine lv_iconst (v := 1) hx hb dL_holds_185 (by decide) ?_
                          refine lv_goto (tgt := 190) hx hb dL_holds_186 (by decide) ?_
                          exact J_190 x1 x2 x3 x5 x6 k0 1 ls (lv_sub hl [0, 1, 2, 3, 4, 5] rfl) hf
                      refine lv_if_ge (tgt := 174) hx hb dL_holds_167 (by decide) (fun c212 => ?_) (fun c212 => ?_)
                      · have hf := ite_t hf c212
                        refine lv_iconst (v := 0) hx hb dL_holds_174 (by decide) ?_
                        exact J_175 x1 x2 x3 x5 x6 0 ls (lv_sub hl [0, 1, 2, 3, 4, 5] rfl) hf
                      · have hf := ite_f hf c212
                        refine lv_iconst (v := 1) hx hb dL_holds_170 (by decide) ?_
                        refine lv_goto (tgt := 175) hx hb dL_holds_171 (by decide) ?_
                        exact J_175 x1 x2 x3 x5 x6 1 ls (lv_sub hl [0, 1, 2, 3, 4, 5] rfl) hf
              refine lv_if_ne (tgt := 121) hx hb dL_holds_114 (by decide) (fun c213 => ?_) (fun c213 => ?_)
              · have hf := ite_f hf c213
                refine lv_iconst (v := 0) hx hb dL_holds_121 (by decide) ?_
                exact J_122 x1 x2 x3 x5 x6 k0 0 ls (lv_sub hl [0, 1, 2, 3, 4, 5] rfl) hf
              · have hf := ite_t hf c213
                refine lv_iconst (v := 1) hx hb dL_holds_117 (by decide) ?_
                refine lv_goto (tgt := 122) hx hb dL_holds_118 (by decide) ?_
                exact J_122 x1 x2 x3 x5 x6 k0 1 ls (lv_sub hl [0, 1, 2, 3, 4, 5] rfl) hf
            refine lv_icmp_ne (tgt := 105) hx hb dL_holds_98 (by decide) (fun c214 => ?_) (fun c214 => ?_)
            · have hf := ite_f hf c214
              refine lv_iconst (v := 0) hx hb dL_holds_105 (by decide) ?_
              exact J_106 x1 v107 v114 x5 r97 0 ls (lv_sub hl [3, 4, 1, 0, 6, 2] rfl) hf
            · have hf := ite_t hf c214
              refine lv_iconst (v := 1) hx hb dL_holds_101 (by decide) ?_
              refine lv_goto (tgt := 106) hx hb dL_holds_102 (by decide) ?_
              exact J_106 x1 v107 v114 x5 r97 1 ls (lv_sub hl [3, 4, 1, 0, 6, 2] rfl) hf
    exact L_54 n x1 x2 x3 k0 0 ls (lv_sub hl [2, 3, 4, 5, 1, 0] rfl) hf
  obtain ⟨j48, ej48, hf⟩ := sl_el hf
  have J_48 : ∀ (x1 x2 x3 : Int32) (ls : Array Slot), lv_has ls 8 [(0, .ref (aF 0)), (1, .int x1), (2, .int x2), (3, .int x3)] → j48 x1 x2 x3 = some r → W p l e (headSpec wsL_holds rmL_holds).room s m args below meth c s.heap [] 0 0 Q0 (F0 m 48 ls []) := by
    intro x1 x2 x3 ls hl hf
    rw [ej48] at hf
    refine lv_iconst (v := 0) hx hb dL_holds_48 (by decide) ?_
    exact J_49 x1 x2 x3 0 ls (lv_sub hl [0, 1, 2, 3] rfl) hf
  refine lv_icmp_lt (tgt := 48) hx hb dL_holds_20 (by decide) (fun c215 => ?_) (fun c215 => ?_)
  · have hf := ite_t hf c215
    exact J_48 r1 0 0 ls (lv_sub hl [3, 2, 1, 0] rfl) hf
  · have hf := ite_f hf c215
    refine lv_aload_n hx hb dL_holds_23 rfl (lv_at hl 3 rfl) ?_
    refine lv_bipush (v := 6) hx hb dL_holds_24 (by decide) ?_
    obtain ⟨r216, h217, hf⟩ := bnd_el hf
    refine rdV (As := [.int 6]) (rest := []) ⟨hx, hb, hml, hown, hts⟩ (c_X5_count l g aF aN aA aW aP aQ aO aH aB _ _ _ _ _ _ _ _ _ _ h217) (cwV 1 hts gL_holds_X5_count rfl rfl rfl (by decide +kernel) ⟨Nat.le_of_ble_eq_true rfl, Nat.le_of_ble_eq_true rfl⟩) hKW hP [0, 1, 2, 3, 4, 5, 6, 7, 8, 9, 10, 11, 12, 13, 14, 15, 16, 17, 18, 19, 20, 21, 22, 23, 24, 25, 26, 27, 28, 29, 30, 31, 32, 33, 34, 35, 36, 37, 38, 39, 40, 41, 42, 43, 44, 45, 46, 47, 48, 49, 50, 51, 52, 53, 54, 55] rfl (va_recv hK hP (ci := 5) (q0 := 0) rfl rfl) rfl hl.1 rfl (lv_room (Nat.le_of_ble_eq_true rfl)) dL_holds_26 ⟨Nat.zero_le _, Nat.zero_le _⟩ (fun r218 q219 => ?_)
    obtain ⟨q219, nb220⟩ := q219
    refine lv_as q219.symm ?_
    refine lv_iconst (v := 5) hx hb dL_holds_29 (by decide) ?_
    refine lv_icmp_gt (tgt := 48) hx hb dL_holds_30 (by decide) (fun c221 => ?_) (fun c221 => ?_)
    · have hf := ite_t hf c221
      exact J_48 r1 0 0 ls (lv_sub hl [3, 2, 1, 0] rfl) hf
    · have hf := ite_f hf c221
      refine lv_aload_n hx hb dL_holds_33 rfl (lv_at hl 3 rfl) ?_
      refine lv_bipush (v := 7) hx hb dL_holds_34 (by decide) ?_
      obtain ⟨r222, h223, hf⟩ := bnd_el hf
      refine rdV (As := [.int 7]) (rest := []) ⟨hx, hb, hml, hown, hts⟩ (c_X5_count l g aF aN aA aW aP aQ aO aH aB _ _ _ _ _ _ _ _ _ _ h223) (cwV 1 hts gL_holds_X5_count rfl rfl rfl (by decide +kernel) ⟨Nat.le_of_ble_eq_true rfl, Nat.le_of_ble_eq_true rfl⟩) hKW hP [0, 1, 2, 3, 4, 5, 6, 7, 8, 9, 10, 11, 12, 13, 14, 15, 16, 17, 18, 19, 20, 21, 22, 23, 24, 25, 26, 27, 28, 29, 30, 31, 32, 33, 34, 35, 36, 37, 38, 39, 40, 41, 42, 43, 44, 45, 46, 47, 48, 49, 50, 51, 52, 53, 54, 55] rfl (va_recv hK hP (ci := 5) (q0 := 0) rfl rfl) rfl hl.1 rfl (lv_room (Nat.le_of_ble_eq_true rfl)) dL_holds_36 ⟨Nat.zero_le _, Nat.zero_le _⟩ (fun r224 q225 => ?_)
      obtain ⟨q225, nb226⟩ := q225
      refine lv_as q225.symm ?_
      refine lv_bipush (v := 10) hx hb dL_holds_39 (by decide) ?_
      refine lv_icmp_gt (tgt := 48) hx hb dL_holds_41 (by decide) (fun c227 => ?_) (fun c227 => ?_)
      · have hf := ite_t hf c227
        exact J_48 r1 0 0 ls (lv_sub hl [3, 2, 1, 0] rfl) hf
      · have hf := ite_f hf c227
        refine lv_iconst (v := 1) hx hb dL_holds_44 (by decide) ?_
        refine lv_goto (tgt := 49) hx hb dL_holds_45 (by decide) ?_
        exact J_49 r1 0 0 1 ls (lv_sub hl [3, 2, 1, 0] rfl) hf
