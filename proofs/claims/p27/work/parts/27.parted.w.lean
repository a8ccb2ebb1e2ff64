abbrev rmL_parted : Room := { frames := 8, cells := 0, slots := 0, locals := 186 }
set_option maxHeartbeats 8000000 in
set_option maxRecDepth 100000 in
theorem c_L_parted (l : Launch) (g : GG) (aF : Nat → Nat) (aN : Nat → Nat) (aA : Nat → Nat) (aW : Nat → Nat) (aP : Nat → Nat) (aQ : Nat → Nat) (aO : Nat → Nat) (aH : Nat → Nat) (aB : Nat → Nat → Nat) (sz : Nat) (n : Nat) (XF : DM) (XN : DM) (XW : DM) (XP : DM) (XQ : DM) (XO : DM) (XH : HD) (p1 p2 : Int32) (r : Int32) (XNz : DM) (XWz : DM) (XPz : DM) (XQz : DM) (XHz : HD) (hf : fL_parted n XF XN XW XP XQ XO XH p1 p2 = some (r, XNz, XWz, XPz, XQz, XHz)) : Met l yL_parted wsL_parted rmL_parted (va_Pc [.ref (aF 0), .int p1, .int p2] (fun U => U.heap.size = sz ∧ va_P g.1 vwCl (pF g aF (aW 0) (aN 0) (aA 0) (aH 0) (aO 0) XF ++ (pS g aN (aW 0) XN ++ (pW g aW (aP 0) (aQ 0) XW ++ (pP g aP XP ++ (pP g aQ XQ ++ (pO g aO XO ++ (pH g aH aB (aW 0) XH))))))) U.heap ∧ KW g U ∧ va_D (fun _ => True) (pF g aF (aW 0) (aN 0) (aA 0) (aH 0) (aO 0) XF ++ (pS g aN (aW 0) XN ++ (pW g aW (aP 0) (aQ 0) XW ++ (pP g aP XP ++ (pP g aQ XQ ++ (pO g aO XO ++ (pH g aH aB (aW 0) XH))))))))) (va_Qi (fun r' (_ : Unit) => r' = r ∧ narrow .boolean (.int r') = .int r') (fun (_ : Unit) t => va_P g.1 vwCl (pF g aF (aW 0) (aN 0) (aA 0) (aH 0) (aO 0) XF ++ (pS g aN (aW 0) XNz ++ (pW g aW (aP 0) (aQ 0) XWz ++ (pP g aP XPz ++ (pP g aQ XQz ++ (pO g aO XO ++ (pH g aH aB (aW 0) XHz))))))) t.heap) (va_A (pF g aF (aW 0) (aN 0) (aA 0) (aH 0) (aO 0) XF ++ (pS g aN (aW 0) XN ++ (pW g aW (aP 0) (aQ 0) XW ++ (pP g aP XP ++ (pP g aQ XQ ++ (pO g aO XO ++ (pH g aH aB (aW 0) XH))))))) sz)) 0 0 (va_A (pF g aF (aW 0) (aN 0) (aA 0) (aH 0) (aO 0) XF ++ (pS g aN (aW 0) XN ++ (pW g aW (aP 0) (aQ 0) XW ++ (pP g aP XP ++ (pP g aQ XQ ++ (pO g aO XO ++ (pH g aH aB (aW 0) XH))))))) sz) := by
  refine Met.ofW (cc := cL_parted) (maxL := 13) (ret := (some .boolean)) (by decide) rfl ?_
  intro p e s m args below meth c s₁ B hml hv
  obtain ⟨hargs, hsz, hP, hKW, hD0⟩ := hv
  have hK := hKW.1
  have hx := B.exec
  have hb := B.bytes
  have hr := B.returns
  have hts := atoms_spec (ws := wsL_parted) B.pre
  have hown : s.vm.findClass RL = some m.cls := findClass_of_methodNamed B.named
  have hlocks := B.notSynchronized
  subst hsz
  have hD := hD0.self (sz := s.heap.size)
  generalize hAe : va_A (pF g aF (aW 0) (aN 0) (aA 0) (aH 0) (aO 0) XF ++ (pS g aN (aW 0) XN ++ (pW g aW (aP 0) (aQ 0) XW ++ (pP g aP XP ++ (pP g aQ XQ ++ (pO g aO XO ++ (pH g aH aB (aW 0) XH))))))) s.heap.size = A at hD ⊢
  have hA : ∀ q : Nat, s.heap.size ≤ q → A q := fun q h => by rw [← hAe]; exact Or.inr h
  have hS : va_S A s.heap s.heap [] := va_S.rf
  have i_X5 : ∀ w ∈ wsX50, w ∈ wsL_parted := fun w h => List.mem_cons_of_mem _ (List.mem_append_left _ (List.mem_append_left _ (List.mem_append_left _ (List.mem_append_left _ (List.mem_append_left _ (List.mem_append_right _ h))))))
  have i_X3 : ∀ w ∈ wsX30, w ∈ wsL_parted := fun w h => List.mem_cons_of_mem _ (List.mem_append_left _ (List.mem_append_left _ (List.mem_append_left _ (List.mem_append_left _ (List.mem_append_right _ h)))))
  have i_X0 : ∀ w ∈ wsX00, w ∈ wsL_parted := fun w h => List.mem_cons_of_mem _ (List.mem_append_left _ (List.mem_append_left _ (List.mem_append_left _ (List.mem_append_right _ h))))
  have i_X4 : ∀ w ∈ wsX40, w ∈ wsL_parted := fun w h => List.mem_cons_of_mem _ (List.mem_append_left _ (List.mem_append_left _ (List.mem_append_right _ h)))
  have i_X2 : ∀ w ∈ wsX20, w ∈ wsL_parted := fun w h => List.mem_cons_of_mem _ (List.mem_append_left _ (List.mem_append_right _ h))
  have i_X1 : ∀ w ∈ wsX10, w ∈ wsL_parted := fun w h => List.mem_cons_of_mem _ (List.mem_append_right _ h)
  have hent : entryFrame m args 13 = F0 m 0 ((lg_sl ([.ref (aF 0), .int p1, .int p2]) ++ List.replicate (13 - (lg_sl ([.ref (aF 0), .int p1, .int p2])).length) Slot.unset).toArray) [] := by rw [hargs]; exact lg_entry_eq _ _ _
  rw [hent]
  have hl := lv_entry ([.ref (aF 0), .int p1, .int p2]) (n := 13) (Nat.le_of_ble_eq_true rfl)
  generalize (lg_sl ([.ref (aF 0), .int p1, .int p2]) ++ List.replicate (13 - (lg_sl ([.ref (aF 0), .int p1, .int p2])).length) Slot.unset).toArray = ls at hl ⊢
  have hl : lv_has ls 13 [(0, .ref (aF 0)), (1, .int p1), (2, .int p2)] := hl
  generalize hQ0 : MQ below _ _ _ _ _ _ = Q0
  unfold fL_parted at hf
  refine lv_aload_n hx hb dL_parted_0 rfl (lv_at hl 0 rfl) ?_
  refine lv_iload_n hx hb dL_parted_1 rfl (lv_at hl 1 rfl) ?_
  obtain ⟨u5, h4, hf⟩ := bnd_el hf
  refine wr_i (rest := []) (wc := (pF g aF (aW 0) (aN 0) (aA 0) (aH 0) (aO 0) XF ++ (pS g aN (aW 0) XN ++ (pW g aW (aP 0) (aQ 0) XW ++ (pP g aP XP ++ (pH g aH aB (aW 0) XH)))))) (wc' := (pF g aF (aW 0) (aN 0) (aA 0) (aH 0) (aO 0) XF ++ (pS g aN (aW 0) u5.2.1 ++ (pW g aW (aP 0) (aQ 0) XW ++ (pP g aP XP ++ (pH g aH aB (aW 0) u5.2.2)))))) (ws2 := (pF g aF (aW 0) (aN 0) (aA 0) (aH 0) (aO 0) XF ++ (pS g aN (aW 0) u5.2.1 ++ (pW g aW (aP 0) (aQ 0) XW ++ (pP g aP XP ++ (pP g aQ XQ ++ (pO g aO XO ++ (pH g aH aB (aW 0) u5.2.2)))))))) hP hD hS hA [0, 1, 2, 3, 4, 5, 6, 7, 8, 9, 10, 11, 12, 13, 14, 15, 16, 17, 18, 19, 26, 27, 28, 29, 30, 31, 32, 33, 34, 35, 36, 37, 38, 39, 40, 41, 42, 43, 44, 45, 46, 47, 48, 49, 50, 51, 52, 53, 54, 55] rfl rfl (by rfl) (rnV (As := [.int p1]) ⟨hx, hb, hml, hown, hts⟩ (c_X5_run l g aF aN aA aW aP aQ aO aH aB _ _ _ _ _ _ _ _ _ _ _ h4) (cwV 1 hts gL_parted_X5_run rfl rfl rfl (by decide +kernel) ⟨Nat.le_of_ble_eq_true rfl, Nat.le_of_ble_eq_true rfl⟩) hKW hP hD [0, 1, 2, 3, 4, 5, 6, 7, 8, 9, 10, 11, 12, 13, 14, 15, 16, 17, 18, 19, 26, 27, 28, 29, 30, 31, 32, 33, 34, 35, 36, 37, 38, 39, 40, 41, 42, 43, 44, 45, 46, 47, 48, 49, 50, 51, 52, 53, 54, 55] (by decide) rfl (va_recv hK hP (ci := 5) (q0 := 0) rfl rfl) rfl hl.1 rfl (lv_room (Nat.le_of_ble_eq_true rfl)) dL_parted_2 ⟨Nat.zero_le _, Nat.zero_le _⟩) (fun r6 H locs q7 hP hD hS => ?_)
  obtain ⟨q7, nb8⟩ := q7
  refine lv_as q7.symm ?_
  obtain ⟨v9, e10, hf⟩ := sl_el hf
  refine lv_as e10 ?_
  refine lv_istore_n (lv' := [(3, .int v9), (0, .ref (aF 0)), (1, .int p1), (2, .int p2)]) hx hb dL_parted_5 rfl hl (by decide) rfl (fun ls hl => ?_)
  refine lv_iload_n hx hb dL_parted_6 rfl (lv_at hl 0 rfl) ?_
  refine lv_if_ge (tgt := 26) hx hb dL_parted_7 (by decide) (fun c11 => ?_) (fun c11 => ?_)
  · have hf := ite_t hf c11
    refine lv_aload_n hx hb dL_parted_26 rfl (lv_at hl 1 rfl) ?_
    refine lv_iconst (v := 4) hx hb dL_parted_27 (by decide) ?_
    obtain ⟨r12, h13, hf⟩ := bnd_el hf
    refine rdV (As := [.int 4]) (rest := []) ⟨hx, hb, hml, hown, hts⟩ (c_X5_count l g aF aN aA aW aP aQ aO aH aB _ _ _ _ _ _ _ _ _ _ h13) (cwV 1 hts gL_parted_X5_count rfl rfl rfl (by decide +kernel) ⟨Nat.le_of_ble_eq_true rfl, Nat.le_of_ble_eq_true rfl⟩) hKW hP [0, 1, 2, 3, 4, 5, 6, 7, 8, 9, 10, 11, 12, 13, 14, 15, 16, 17, 18, 19, 20, 21, 22, 23, 24, 25, 26, 27, 28, 29, 30, 31, 32, 33, 34, 35, 36, 37, 38, 39, 40, 41, 42, 43, 44, 45, 46, 47, 48, 49, 50, 51, 52, 53, 54, 55] rfl (va_recv hK hP (ci := 5) (q0 := 0) rfl rfl) rfl hl.1 rfl (lv_room (Nat.le_of_ble_eq_true rfl)) dL_parted_28 ⟨Nat.zero_le _, Nat.zero_le _⟩ (fun r14 q15 => ?_)
    obtain ⟨q15, nb16⟩ := q15
    refine lv_as q15.symm ?_
    refine lv_istore (lv' := [(4, .int r12), (3, .int v9), (0, .ref (aF 0)), (1, .int p1), (2, .int p2)]) hx hb dL_parted_31 hl (by decide) rfl (fun ls hl => ?_)
    refine lv_aload_n hx hb dL_parted_33 rfl (lv_at hl 2 rfl) ?_
    refine lv_iconst (v := 5) hx hb dL_parted_34 (by decide) ?_
    obtain ⟨r17, h18, hf⟩ := bnd_el hf
    refine rdV (As := [.int 5]) (rest := []) ⟨hx, hb, hml, hown, hts⟩ (c_X5_count l g aF aN aA aW aP aQ aO aH aB _ _ _ _ _ _ _ _ _ _ h18) (cwV 1 hts gL_parted_X5_count rfl rfl rfl (by decide +kernel) ⟨Nat.le_of_ble_eq_true rfl, Nat.le_of_ble_eq_true rfl⟩) hKW hP [0, 1, 2, 3, 4, 5, 6, 7, 8, 9, 10, 11, 12, 13, 14, 15, 16, 17, 18, 19, 20, 21, 22, 23, 24, 25, 26, 27, 28, 29, 30, 31, 32, 33, 34, 35, 36, 37, 38, 39, 40, 41, 42, 43, 44, 45, 46, 47, 48, 49, 50, 51, 52, 53, 54, 55] rfl (va_recv hK hP (ci := 5) (q0 := 0) rfl rfl) rfl hl.1 rfl (lv_room (Nat.le_of_ble_eq_true rfl)) dL_parted_35 ⟨Nat.zero_le _, Nat.zero_le _⟩ (fun r19 q20 => ?_)
    obtain ⟨q20, nb21⟩ := q20
    refine lv_as q20.symm ?_
    refine lv_istore (lv' := [(5, .int r17), (4, .int r12), (3, .int v9), (0, .ref (aF 0)), (1, .int p1), (2, .int p2)]) hx hb dL_parted_38 hl (by decide) rfl (fun ls hl => ?_)
    refine lv_aload_n hx hb dL_parted_40 rfl (lv_at hl 3 rfl) ?_
    refine lv_bipush (v := 8) hx hb dL_parted_41 (by decide) ?_
    obtain ⟨r22, h23, hf⟩ := bnd_el hf
    refine rdV (As := [.int 8]) (rest := []) ⟨hx, hb, hml, hown, hts⟩ (c_X5_count l g aF aN aA aW aP aQ aO aH aB _ _ _ _ _ _ _ _ _ _ h23) (cwV 1 hts gL_parted_X5_count rfl rfl rfl (by decide +kernel) ⟨Nat.le_of_ble_eq_true rfl, Nat.le_of_ble_eq_true rfl⟩) hKW hP [0, 1, 2, 3, 4, 5, 6, 7, 8, 9, 10, 11, 12, 13, 14, 15, 16, 17, 18, 19, 20, 21, 22, 23, 24, 25, 26, 27, 28, 29, 30, 31, 32, 33, 34, 35, 36, 37, 38, 39, 40, 41, 42, 43, 44, 45, 46, 47, 48, 49, 50, 51, 52, 53, 54, 55] rfl (va_recv hK hP (ci := 5) (q0 := 0) rfl rfl) rfl hl.1 rfl (lv_room (Nat.le_of_ble_eq_true rfl)) dL_parted_43 ⟨Nat.zero_le _, Nat.zero_le _⟩ (fun r24 q25 => ?_)
    obtain ⟨q25, nb26⟩ := q25
    refine lv_as q25.symm ?_
    refine lv_istore (lv' := [(6, .int r22), (5, .int r17), (4, .int r12), (3, .int v9), (0, .ref (aF 0)), (1, .int p1), (2, .int p2)]) hx hb dL_parted_46 hl (by decide) rfl (fun ls hl => ?_)
    refine lv_aload_n hx hb dL_parted_48 rfl (lv_at hl 4 rfl) ?_
    refine lv_bipush (v := 9) hx hb dL_parted_49 (by decide) ?_
    obtain ⟨r27, h28, hf⟩ := bnd_el hf
    refine rdV (As := [.int 9]) (rest := []) ⟨hx, hb, hml, hown, hts⟩ (c_X5_count l g aF aN aA aW aP aQ aO aH aB _ _ _ _ _ _ _ _ _ _ h28) (cwV 1 hts gL_parted_X5_count rfl rfl rfl (by decide +kernel) ⟨Nat.le_of_ble_eq_true rfl, Nat.le_of_ble_eq_true rfl⟩) hKW hP [0, 1, 2, 3, 4, 5, 6, 7, 8, 9, 10, 11, 12, 13, 14, 15, 16, 17, 18, 19, 20, 21, 22, 23, 24, 25, 26, 27, 28, 29, 30, 31, 32, 33, 34, 35, 36, 37, 38, 39, 40, 41, 42, 43, 44, 45, 46, 47, 48, 49, 50, 51, 52, 53, 54, 55] rfl (va_recv hK hP (ci := 5) (q0 := 0) rfl rfl) rfl hl.1 rfl (lv_room (Nat.le_of_ble_eq_true rfl)) dL_parted_51 ⟨Nat.zero_le _, Nat.zero_le _⟩ (fun r29 q30 => ?_)
    obtain ⟨q30, nb31⟩ := q30
    refine lv_as q30.symm ?_
    refine lv_istore (lv' := [(7, .int r27), (6, .int r22), (5, .int r17), (4, .int r12), (3, .int v9), (0, .ref (aF 0)), (1, .int p1), (2, .int p2)]) hx hb dL_parted_54 hl (by decide) rfl (fun ls hl => ?_)
    refine lv_aload_n hx hb dL_parted_56 rfl (lv_at hl 5 rfl) ?_
    refine lv_bipush (v := 30) hx hb dL_parted_57 (by decide) ?_
    obtain ⟨r32, h33, hf⟩ := bnd_el hf
    refine rdV (As := [.int 30]) (rest := []) ⟨hx, hb, hml, hown, hts⟩ (c_X5_count l g aF aN aA aW aP aQ aO aH aB _ _ _ _ _ _ _ _ _ _ h33) (cwV 1 hts gL_parted_X5_count rfl rfl rfl (by decide +kernel) ⟨Nat.le_of_ble_eq_true rfl, Nat.le_of_ble_eq_true rfl⟩) hKW hP [0, 1, 2, 3, 4, 5, 6, 7, 8, 9, 10, 11, 12, 13, 14, 15, 16, 17, 18, 19, 20, 21, 22, 23, 24, 25, 26, 27, 28, 29, 30, 31, 32, 33, 34, 35, 36, 37, 38, 39, 40, 41, 42, 43, 44, 45, 46, 47, 48, 49, 50, 51, 52, 53, 54, 55] rfl (va_recv hK hP (ci := 5) (q0 := 0) rfl rfl) rfl hl.1 rfl (lv_room (Nat.le_of_ble_eq_true rfl)) dL_parted_59 ⟨Nat.zero_le _, Nat.zero_le _⟩ (fun r34 q35 => ?_)
    obtain ⟨q35, nb36⟩ := q35
    refine lv_as q35.symm ?_
    refine lv_istore (lv' := [(8, .int r32), (7, .int r27), (6, .int r22), (5, .int r17), (4, .int r12), (3, .int v9), (0, .ref (aF 0)), (1, .int p1), (2, .int p2)]) hx hb dL_parted_62 hl (by decide) rfl (fun ls hl => ?_)
    refine lv_aload_n hx hb dL_parted_64 rfl (lv_at hl 6 rfl) ?_
    refine lv_bipush (v := 31) hx hb dL_parted_65 (by decide) ?_
    obtain ⟨r37, h38, hf⟩ := bnd_el hf
    refine rdV (As := [.int 31]) (rest := []) ⟨hx, hb, hml, hown, hts⟩ (c_X5_count l g aF aN aA aW aP aQ aO aH aB _ _ _ _ _ _ _ _ _ _ h38) (cwV 1 hts gL_parted_X5_count rfl rfl rfl (by decide +kernel) ⟨Nat.le_of_ble_eq_true rfl, Nat.le_of_ble_eq_true rfl⟩) hKW hP [0, 1, 2, 3, 4, 5, 6, 7, 8, 9, 10, 11, 12, 13, 14, 15, 16, 17, 18, 19, 20, 21, 22, 23, 24, 25, 26, 27, 28, 29, 30, 31, 32, 33, 34, 35, 36, 37, 38, 39, 40, 41, 42, 43, 44, 45, 46, 47, 48, 49, 50, 51, 52, 53, 54, 55] rfl (va_recv hK hP (ci := 5) (q0 := 0) rfl rfl) rfl hl.1 rfl (lv_room (Nat.le_of_ble_eq_true rfl)) dL_parted_67 ⟨Nat.zero_le _, Nat.zero_le _⟩ (fun r39 q40 => ?_)
    obtain ⟨q40, nb41⟩ := q40
    refine lv_as q40.symm ?_
    refine lv_istore (lv' := [(9, .int r37), (8, .int r32), (7, .int r27), (6, .int r22), (5, .int r17), (4, .int r12), (3, .int v9), (0, .ref (aF 0)), (1, .int p1), (2, .int p2)]) hx hb dL_parted_70 hl (by decide) rfl (fun ls hl => ?_)
    refine lv_aload_n hx hb dL_parted_72 rfl (lv_at hl 7 rfl) ?_
    obtain ⟨r42, h43, hf⟩ := bnd_el hf
    refine rdS (As := [.ref (aF 0)]) (rest := []) ⟨hx, hb, hml, hown, hts⟩ (c_L_holds l g aF aN aA aW aP aQ aO aH aB _ _ _ _ _ _ _ _ _ h43) (va_cwS 1 hts gL_parted_L_holds rfl rfl rfl (by decide +kernel) ⟨Nat.le_of_ble_eq_true rfl, Nat.le_of_ble_eq_true rfl⟩) hKW hP [0, 1, 2, 3, 4, 5, 6, 7, 8, 9, 10, 11, 12, 13, 14, 15, 16, 17, 18, 19, 20, 21, 22, 23, 24, 25, 26, 27, 28, 29, 30, 31, 32, 33, 34, 35, 36, 37, 38, 39, 40, 41, 42, 43, 44, 45, 46, 47, 48, 49, 50, 51, 52, 53, 54, 55] rfl rfl hl.1 rfl (lv_room (Nat.le_of_ble_eq_true rfl)) dL_parted_73 ⟨Nat.zero_le _, Nat.zero_le _⟩ (fun r44 q45 => ?_)
    obtain ⟨q45, nb46⟩ := q45
    refine lv_as q45.symm ?_
    rw [q45] at nb46
    obtain ⟨j91, ej91, hf⟩ := sl_el hf
    have J_91 : ∀ (x1 x2 x3 x4 x5 x6 x7 x8 x9 k0 : Int32) (XN : DM) (XW : DM) (XP : DM) (XQ : DM) (XH : HD) (H : Heap) (locs : List Loc) (ls : Array Slot), va_P g.1 vwCl (pF g aF (aW 0) (aN 0) (aA 0) (aH 0) (aO 0) XF ++ (pS g aN (aW 0) XN ++ (pW g aW (aP 0) (aQ 0) XW ++ (pP g aP XP ++ (pP g aQ XQ ++ (pO g aO XO ++ (pH g aH aB (aW 0) XH))))))) H → va_D A (pF g aF (aW 0) (aN 0) (aA 0) (aH 0) (aO 0) XF ++ (pS g aN (aW 0) XN ++ (pW g aW (aP 0) (aQ 0) XW ++ (pP g aP XP ++ (pP g aQ XQ ++ (pO g aO XO ++ (pH g aH aB (aW 0) XH))))))) → va_S A s.heap H locs → lv_has ls 13 [(0, .ref (aF 0)), (1, .int x1), (2, .int x2), (3, .int x3), (4, .int x4), (5, .int x5), (6, .int x6), (7, .int x7), (8, .int x8), (9, .int x9)] → j91 x1 x2 x3 x4 x5 x6 x7 x8 x9 k0 XN XW XP XQ XH = some (r, XNz, XWz, XPz, XQz, XHz) → W p l e (headSpec wsL_parted rmL_parted).room s m args below meth c H locs 0 0 Q0 (F0 m 91 ls [.int k0]) := by
      intro x1 x2 x3 x4 x5 x6 x7 x8 x9 k0 XN XW XP XQ XH H locs ls hP hD hS hl hf
      rw [ej91] at hf
      refine lv_istore (lv' := [(10, .int k0), (0, .ref (aF 0)), (1, .int x1), (2, .int x2), (3, .int x3), (4, .int x4), (5, .int x5), (6, .int x6), (7, .int x7), (8, .int x8), (9, .int x9)]) hx hb dL_parted_91 hl (by decide) rfl (fun ls hl => ?_)
      refine lv_aload_n hx hb dL_parted_93 rfl (lv_at hl 1 rfl) ?_
      refine lv_iload_n hx hb dL_parted_94 rfl (lv_at hl 3 rfl) ?_
      obtain ⟨u51, h50, hf⟩ := bnd_el hf
      refine wr_i (rest := []) (wc := (pF g aF (aW 0) (aN 0) (aA 0) (aH 0) (aO 0) XF ++ (pS g aN (aW 0) XN ++ (pW g aW (aP 0) (aQ 0) XW ++ (pP g aP XP ++ (pH g aH aB (aW 0) XH)))))) (wc' := (pF g aF (aW 0) (aN 0) (aA 0) (aH 0) (aO 0) XF ++ (pS g aN (aW 0) u51.2.1 ++ (pW g aW (aP 0) (aQ 0) XW ++ (pP g aP XP ++ (pH g aH aB (aW 0) u51.2.2)))))) (ws2 := (pF g aF (aW 0) (aN 0) (aA 0) (aH 0) (aO 0) XF ++ (pS g aN (aW 0) u51.2.1 ++ (pW g aW (aP 0) (aQ 0) XW ++ (pP g aP XP ++ (pP g aQ XQ ++ (pO g aO XO ++ (pH g aH aB (aW 0) u51.2.2)))))))) hP hD hS hA [0, 1, 2, 3, 4, 5, 6, 7, 8, 9, 10, 11, 12, 13, 14, 15, 16, 17, 18, 19, 26, 27, 28, 29, 30, 31, 32, 33, 34, 35, 36, 37, 38, 39, 40, 41, 42, 43, 44, 45, 46, 47, 48, 49, 50, 51, 52, 53, 54, 55] rfl rfl (by rfl) (rnV (As := [.int x2]) ⟨hx, hb, hml, hown, hts⟩ (c_X5_run l g aF aN aA aW aP aQ aO aH aB _ _ _ _ _ _ _ _ _ _ _ h50) (cwV 1 hts gL_parted_X5_run rfl rfl rfl (by decide +kernel) ⟨Nat.le_of_ble_eq_true rfl, Nat.le_of_ble_eq_true rfl⟩) hKW hP hD [0, 1, 2, 3, 4, 5, 6, 7, 8, 9, 10, 11, 12, 13, 14, 15, 16, 17, 18, 19, 26, 27, 28, 29, 30, 31, 32, 33, 34, 35, 36, 37, 38, 39, 40, 41, 42, 43, 44, 45, 46, 47, 48, 49, 50, 51, 52, 53, 54, 55] (by decide) rfl (va_recv hK hP (ci := 5) (q0 := 0) rfl rfl) rfl hl.1 rfl (lv_room (Nat.le_of_ble_eq_true rfl)) dL_parted_95 ⟨Nat.zero_le _, Nat.zero_le _⟩) (fun r52 H locs q53 hP hD hS => ?_)
      obtain ⟨q53, nb54⟩ := q53
      refine lv_as q53.symm ?_
      obtain ⟨v55, e56, hf⟩ := sl_el hf
      refine lv_as e56 ?_
      refine lv_istore (lv' := [(11, .int v55), (10, .int k0), (0, .ref (aF 0)), (1, .int x1), (2, .int x2), (3, .int x3), (4, .int x4), (5, .int x5), (6, .int x6), (7, .int x7), (8, .int x8), (9, .int x9)]) hx hb dL_parted_98 hl (by decide) rfl (fun ls hl => ?_)
      refine lv_aload_n hx hb dL_parted_100 rfl (lv_at hl 2 rfl) ?_
      refine lv_iconst (v := 4) hx hb dL_parted_101 (by decide) ?_
      obtain ⟨r57, h58, hf⟩ := bnd_el hf
      refine rdV (As := [.int 4]) (rest := []) ⟨hx, hb, hml, hown, hts⟩ (c_X5_count l g aF aN aA aW aP aQ aO aH aB _ _ _ _ _ _ _ _ _ _ h58) (cwV 1 hts gL_parted_X5_count rfl rfl rfl (by decide +kernel) ⟨Nat.le_of_ble_eq_true rfl, Nat.le_of_ble_eq_true rfl⟩) hKW hP [0, 1, 2, 3, 4, 5, 6, 7, 8, 9, 10, 11, 12, 13, 14, 15, 16, 17, 18, 19, 20, 21, 22, 23, 24, 25, 26, 27, 28, 29, 30, 31, 32, 33, 34, 35, 36, 37, 38, 39, 40, 41, 42, 43, 44, 45, 46, 47, 48, 49, 50, 51, 52, 53, 54, 55] rfl (va_recv hK hP (ci := 5) (q0 := 0) rfl rfl) rfl hl.1 rfl (lv_room (Nat.le_of_ble_eq_true rfl)) dL_parted_102 ⟨Nat.zero_le _, Nat.zero_le _⟩ (fun r59 q60 => ?_)
      obtain ⟨q60, nb61⟩ := q60
      refine lv_as q60.symm ?_
      obtain ⟨j119, ej119, hf⟩ := sl_el hf
      have J_119 : ∀ (x3 x4 x5 x6 x7 x8 x9 x10 x11 k0 : Int32) (XN : DM) (XW : DM) (XP : DM) (XQ : DM) (XH : HD) (H : Heap) (locs : List Loc) (ls : Array Slot), va_P g.1 vwCl (pF g aF (aW 0) (aN 0) (aA 0) (aH 0) (aO 0) XF ++ (pS g aN (aW 0) XN ++ (pW g aW (aP 0) (aQ 0) XW ++ (pP g aP XP ++ (pP g aQ XQ ++ (pO g aO XO ++ (pH g aH aB (aW 0) XH))))))) H → va_D A (pF g aF (aW 0) (aN 0) (aA 0) (aH 0) (aO 0) XF ++ (pS g aN (aW 0) XN ++ (pW g aW (aP 0) (aQ 0) XW ++ (pP g aP XP ++ (pP g aQ XQ ++ (pO g aO XO ++ (pH g aH aB (aW 0) XH))))))) → va_S A s.heap H locs → lv_has ls 13 [(0, .ref (aF 0)), (3, .int x3), (4, .int x4), (5, .int x5), (6, .int x6), (7, .int x7), (8, .int x8), (9, .int x9), (10, .int x10), (11, .int x11)] → j119 x3 x4 x5 x6 x7 x8 x9 x10 x11 k0 XN XW XP XQ XH = some (r, XNz, XWz, XPz, XQz, XHz) → W p l e (headSpec wsL_parted rmL_parted).room s m args below meth c H locs 0 0 Q0 (F0 m 119 ls [.int k0]) := by
        intro x3 x4 x5 x6 x7 x8 x9 x10 x11 k0 XN XW XP XQ XH H locs ls hP hD hS hl hf
        rw [ej119] at hf
        refine lv_istore (lv' := [(12, .int k0), (0, .ref (aF 0)), (3, .int x3), (4, .int x4), (5, .int x5), (6, .int x6), (7, .int x7), (8, .int x8), (9, .int x9), (10, .int x10), (11, .int x11)]) hx hb dL_parted_119 hl (by decide) rfl (fun ls hl => ?_)
        refine lv_iload hx hb dL_parted_121 (lv_at hl 9 rfl) ?_
        refine lv_if_eq (tgt := 203) hx hb dL_parted_123 (by decide) (fun c62 => ?_) (fun c62 => ?_)
        · have hf := ite_t hf c62
          refine lv_iconst (v := 0) hx hb dL_parted_203 (by decide) ?_
          have er0 := Option.some.inj hf
          obtain ⟨er0, er1⟩ := Prod.mk.inj er0
          obtain ⟨er1, er2⟩ := Prod.mk.inj er1
          obtain ⟨er2, er3⟩ := Prod.mk.inj er2
          obtain ⟨er3, er4⟩ := Prod.mk.inj er3
          obtain ⟨er4, er5⟩ := Prod.mk.inj er4
          rw [← hQ0]; exact W.zret (v := 0) hx hb hr rfl (fun t ht hW => ⟨⟨0, (), rfl, ⟨er0, rfl⟩, by dsimp only; rw [ht, ← er1, ← er2, ← er3, ← er4, ← er5]; exact hP⟩, hS.F ht⟩) hS.2.2 dL_parted_204
        · have hf := ite_f hf c62
          refine lv_iload hx hb dL_parted_126 (lv_at hl 10 rfl) ?_
          refine lv_iload hx hb dL_parted_128 (lv_at hl 0 rfl) ?_
          refine lv_iadd hx hb dL_parted_130 ?_
          refine lv_iload_n hx hb dL_parted_131 rfl (lv_at hl 2 rfl) ?_
          refine lv_icmp_ne (tgt := 203) hx hb dL_parted_132 (by decide) (fun c63 => ?_) (fun c63 => ?_)
          · have hf := ite_f hf c63
            refine lv_iconst (v := 0) hx hb dL_parted_203 (by decide) ?_
            have er0 := Option.some.inj hf
            obtain ⟨er0, er1⟩ := Prod.mk.inj er0
            obtain ⟨er1, er2⟩ := Prod.mk.inj er1
            obtain ⟨er2, er3⟩ := Prod.mk.inj er2
            obtain ⟨er3, er4⟩ := Prod.mk.inj er3
            obtain ⟨er4, er5⟩ := Prod.mk.inj er4
            rw [← hQ0]; exact W.zret (v := 0) hx hb hr rfl (fun t ht hW => ⟨⟨0, (), rfl, ⟨er0, rfl⟩, by dsimp only; rw [ht, ← er1, ← er2, ← er3, ← er4, ← er5]; exact hP⟩, hS.F ht⟩) hS.2.2 dL_parted_204
          · have hf := ite_t hf c63
            refine lv_aload_n hx hb dL_parted_135 rfl (lv_at hl 1 rfl) ?_
            refine lv_iconst (v := 4) hx hb dL_parted_136 (by decide) ?_
            obtain ⟨r64, h65, hf⟩ := bnd_el hf
            refine rdV (As := [.int 4]) (rest := []) ⟨hx, hb, hml, hown, hts⟩ (c_X5_count l g aF aN aA aW aP aQ aO aH aB _ _ _ _ _ _ _ _ _ _ h65) (cwV 1 hts gL_parted_X5_count rfl rfl rfl (by decide +kernel) ⟨Nat.le_of_ble_eq_true rfl, Nat.le_of_ble_eq_true rfl⟩) hKW hP [0, 1, 2, 3, 4, 5, 6, 7, 8, 9, 10, 11, 12, 13, 14, 15, 16, 17, 18, 19, 20, 21, 22, 23, 24, 25, 26, 27, 28, 29, 30, 31, 32, 33, 34, 35, 36, 37, 38, 39, 40, 41, 42, 43, 44, 45, 46, 47, 48, 49, 50, 51, 52, 53, 54, 55] rfl (va_recv hK hP (ci := 5) (q0 := 0) rfl rfl) rfl hl.1 rfl (lv_room (Nat.le_of_ble_eq_true rfl)) dL_parted_137 ⟨Nat.zero_le _, Nat.zero_le _⟩ (fun r66 q67 => ?_)
            obtain ⟨q67, nb68⟩ := q67
            refine lv_as q67.symm ?_
            refine lv_iload hx hb dL_parted_140 (lv_at hl 3 rfl) ?_
            refine lv_icmp_ne (tgt := 203) hx hb dL_parted_142 (by decide) (fun c69 => ?_) (fun c69 => ?_)
            · have hf := ite_f hf c69
              refine lv_iconst (v := 0) hx hb dL_parted_203 (by decide) ?_
              have er0 := Option.some.inj hf
              obtain ⟨er0, er1⟩ := Prod.mk.inj er0
              obtain ⟨er1, er2⟩ := Prod.mk.inj er1
              obtain ⟨er2, er3⟩ := Prod.mk.inj er2
              obtain ⟨er3, er4⟩ := Prod.mk.inj er3
              obtain ⟨er4, er5⟩ := Prod.mk.inj er4
              rw [← hQ0]; exact W.zret (v := 0) hx hb hr rfl (fun t ht hW => ⟨⟨0, (), rfl, ⟨er0, rfl⟩, by dsimp only; rw [ht, ← er1, ← er2, ← er3, ← er4, ← er5]; exact hP⟩, hS.F ht⟩) hS.2.2 dL_parted_204
            · have hf := ite_t hf c69
              refine lv_aload_n hx hb dL_parted_145 rfl (lv_at hl 1 rfl) ?_
              refine lv_iconst (v := 5) hx hb dL_parted_146 (by decide) ?_
              obtain ⟨r70, h71, hf⟩ := bnd_el hf
              refine rdV (As := [.int 5]) (rest := []) ⟨hx, hb, hml, hown, hts⟩ (c_X5_count l g aF aN aA aW aP aQ aO aH aB _ _ _ _ _ _ _ _ _ _ h71) (cwV 1 hts gL_parted_X5_count rfl rfl rfl (by decide +kernel) ⟨Nat.le_of_ble_eq_true rfl, Nat.le_of_ble_eq_true rfl⟩) hKW hP [0, 1, 2, 3, 4, 5, 6, 7, 8, 9, 10, 11, 12, 13, 14, 15, 16, 17, 18, 19, 20, 21, 22, 23, 24, 25, 26, 27, 28, 29, 30, 31, 32, 33, 34, 35, 36, 37, 38, 39, 40, 41, 42, 43, 44, 45, 46, 47, 48, 49, 50, 51, 52, 53, 54, 55] rfl (va_recv hK hP (ci := 5) (q0 := 0) rfl rfl) rfl hl.1 rfl (lv_room (Nat.le_of_ble_eq_true rfl)) dL_parted_147 ⟨Nat.zero_le _, Nat.zero_le _⟩ (fun r72 q73 => ?_)
              obtain ⟨q73, nb74⟩ := q73
              refine lv_as q73.symm ?_
              refine lv_iload hx hb dL_parted_150 (lv_at hl 4 rfl) ?_
              refine lv_icmp_ne (tgt := 203) hx hb dL_parted_152 (by decide) (fun c75 => ?_) (fun c75 => ?_)
              · have hf := ite_f hf c75
                refine lv_iconst (v := 0) hx hb dL_parted_203 (by decide) ?_
                have er0 := Option.some.inj hf
                obtain ⟨er0, er1⟩ := Prod.mk.inj er0
                obtain ⟨er1, er2⟩ := Prod.mk.inj er1
                obtain ⟨er2, er3⟩ := Prod.mk.inj er2
                obtain ⟨er3, er4⟩ := Prod.mk.inj er3
                obtain ⟨er4, er5⟩ := Prod.mk.inj er4
                rw [← hQ0]; exact W.zret (v := 0) hx hb hr rfl (fun t ht hW => ⟨⟨0, (), rfl, ⟨er0, rfl⟩, by dsimp only; rw [ht, ← er1, ← er2, ← er3, ← er4, ← er5]; exact hP⟩, hS.F ht⟩) hS.2.2 dL_parted_204
              · have hf := ite_t hf c75
                refine lv_aload_n hx hb dL_parted_155 rfl (lv_at hl 1 rfl) ?_
                refine lv_bipush (v := 8) hx hb dL_parted_156 (by decide) ?_
                obtain ⟨r76, h77, hf⟩ := bnd_el hf
                refine rdV (As := [.int 8]) (rest := []) ⟨hx, hb, hml, hown, hts⟩ (c_X5_count l g aF aN aA aW aP aQ aO aH aB _ _ _ _ _ _ _ _ _ _ h77) (cwV 1 hts gL_parted_X5_count rfl rfl rfl (by decide +kernel) ⟨Nat.le_of_ble_eq_true rfl, Nat.le_of_ble_eq_true rfl⟩) hKW hP [0, 1, 2, 3, 4, 5, 6, 7, 8, 9, 10, 11, 12, 13, 14, 15, 16, 17, 18, 19, 20, 21, 22, 23, 24, 25, 26, 27, 28, 29, 30, 31, 32, 33, 34, 35, 36, 37, 38, 39, 40, 41, 42, 43, 44, 45, 46, 47, 48, 49, 50, 51, 52, 53, 54, 55] rfl (va_recv hK hP (ci := 5) (q0 := 0) rfl rfl) rfl hl.1 rfl (lv_room (Nat.le_of_ble_eq_true rfl)) dL_parted_158 ⟨Nat.zero_le _, Nat.zero_le _⟩ (fun r78 q79 => ?_)
                obtain ⟨q79, nb80⟩ := q79
                refine lv_as q79.symm ?_
                refine lv_iload hx hb dL_parted_161 (lv_at hl 5 rfl) ?_
                refine lv_icmp_ne (tgt := 203) hx hb dL_parted_163 (by decide) (fun c81 => ?_) (fun c81 => ?_)
                · have hf := ite_f hf c81
                  refine lv_iconst (v := 0) hx hb dL_parted_203 (by decide) ?_
                  have er0 := Option.some.inj hf
                  obtain ⟨er0, er1⟩ := Prod.mk.inj er0
                  obtain ⟨er1, er2⟩ := Prod.mk.inj er1
                  obtain ⟨er2, er3⟩ := Prod.mk.inj er2
                  obtain ⟨er3, er4⟩ := Prod.mk.inj er3
                  obtain ⟨er4, er5⟩ := Prod.mk.inj er4
                  rw [← hQ0]; exact W.zret (v := 0) hx hb hr rfl (fun t ht hW => ⟨⟨0, (), rfl, ⟨er0, rfl⟩, by dsimp only; rw [ht, ← er1, ← er2, ← er3, ← er4, ← er5]; exact hP⟩, hS.F ht⟩) hS.2.2 dL_parted_204
                · have hf := ite_t hf c81
                  refine lv_aload_n hx hb dL_parted_166 rfl (lv_at hl 1 rfl) ?_
                  refine lv_bipush (v := 9) hx hb dL_parted_167 (by decide) ?_
                  obtain ⟨r82, h83, hf⟩ := bnd_el hf
                  refine rdV (As := [.int 9]) (rest := []) ⟨hx, hb, hml, hown, hts⟩ (c_X5_count l g aF aN aA aW aP aQ aO aH aB _ _ _ _ _ _ _ _ _ _ h83) (cwV 1 hts gL_parted_X5_count rfl rfl rfl (by decide +kernel) ⟨Nat.le_of_ble_eq_true rfl, Nat.le_of_ble_eq_true rfl⟩) hKW hP [0, 1, 2, 3, 4, 5, 6, 7, 8, 9, 10, 11, 12, 13, 14, 15, 16, 17, 18, 19, 20, 21, 22, 23, 24, 25, 26, 27, 28, 29, 30, 31, 32, 33, 34, 35, 36, 37, 38, 39, 40, 41, 42, 43, 44, 45, 46, 47, 48, 49, 50, 51, 52, 53, 54, 55] rfl (va_recv hK hP (ci := 5) (q0 := 0) rfl rfl) rfl hl.1 rfl (lv_room (Nat.le_of_ble_eq_true rfl)) dL_parted_169 ⟨Nat.zero_le _, Nat.zero_le _⟩ (fun r84 q85 => ?_)
                  obtain ⟨q85, nb86⟩ := q85
                  refine lv_as q85.symm ?_
                  refine lv_iload hx hb dL_parted_172 (lv_at hl 6 rfl) ?_
                  refine lv_icmp_ne (tgt := 203) hx hb dL_parted_174 (by decide) (fun c87 => ?_) (fun c87 => ?_)
                  · have hf := ite_f hf c87
                    refine lv_iconst (v := 0) hx hb dL_parted_203 (by decide) ?_
                    have er0 := Option.some.inj hf
                    obtain ⟨er0, er1⟩ := Prod.mk.inj er0
                    obtain ⟨er1, er2⟩ := Prod.mk.inj er1
                    obtain ⟨er2, er3⟩ := Prod.mk.inj er2
                    obtain ⟨er3, er4⟩ := Prod.mk.inj er3
                    obtain ⟨er4, er5⟩ := Prod.mk.inj er4
                    rw [← hQ0]; exact W.zret (v := 0) hx hb hr rfl (fun t ht hW => ⟨⟨0, (), rfl, ⟨er0, rfl⟩, by dsimp only; rw [ht, ← er1, ← er2, ← er3, ← er4, ← er5]; exact hP⟩, hS.F ht⟩) hS.2.2 dL_parted_204
                  · have hf := ite_t hf c87
                    refine lv_aload_n hx hb dL_parted_177 rfl (lv_at hl 1 rfl) ?_
                    refine lv_bipush (v := 30) hx hb dL_parted_178 (by decide) ?_
                    obtain ⟨r88, h89, hf⟩ := bnd_el hf
                    refine rdV (As := [.int 30]) (rest := []) ⟨hx, hb, hml, hown, hts⟩ (c_X5_count l g aF aN aA aW aP aQ aO aH aB _ _ _ _ _ _ _ _ _ _ h89) (cwV 1 hts gL_parted_X5_count rfl rfl rfl (by decide +kernel) ⟨Nat.le_of_ble_eq_true rfl, Nat.le_of_ble_eq_true rfl⟩) hKW hP [0, 1, 2, 3, 4, 5, 6, 7, 8, 9, 10, 11, 12, 13, 14, 15, 16, 17, 18, 19, 20, 21, 22, 23, 24, 25, 26, 27, 28, 29, 30, 31, 32, 33, 34, 35, 36, 37, 38, 39, 40, 41, 42, 43, 44, 45, 46, 47, 48, 49, 50, 51, 52, 53, 54, 55] rfl (va_recv hK hP (ci := 5) (q0 := 0) rfl rfl) rfl hl.1 rfl (lv_room (Nat.le_of_ble_eq_true rfl)) dL_parted_180 ⟨Nat.zero_le _, Nat.zero_le _⟩ (fun r90 q91 => ?_)
                    obtain ⟨q91, nb92⟩ := q91
                    refine lv_as q91.symm ?_
                    refine lv_iload hx hb dL_parted_183 (lv_at hl 7 rfl) ?_
                    refine lv_icmp_ne (tgt := 203) hx hb dL_parted_185 (by decide) (fun c93 => ?_) (fun c93 => ?_)
                    · have hf := ite_f hf c93
                      refine lv_iconst (v := 0) hx hb dL_parted_203 (by decide) ?_
                      have er0 := Option.some.inj hf
                      obtain ⟨er0, er1⟩ := Prod.mk.inj er0
                      obtain ⟨er1, er2⟩ := Prod.mk.inj er1
                      obtain ⟨er2, er3⟩ := Prod.mk.inj er2
                      obtain ⟨er3, er4⟩ := Prod.mk.inj er3
                      obtain ⟨er4, er5⟩ := Prod.mk.inj er4
                      rw [← hQ0]; exact W.zret (v := 0) hx hb hr rfl (fun t ht hW => ⟨⟨0, (), rfl, ⟨er0, rfl⟩, by dsimp only; rw [ht, ← er1, ← er2, ← er3, ← er4, ← er5]; exact hP⟩, hS.F ht⟩) hS.2.2 dL_parted_204
                    · have hf := ite_t hf c93
                      refine lv_aload_n hx hb dL_parted_188 rfl (lv_at hl 1 rfl) ?_
                      refine lv_bipush (v := 31) hx hb dL_parted_189 (by decide) ?_
                      obtain ⟨r94, h95, hf⟩ := bnd_el hf
                      refine rdV (As := [.int 31]) (rest := []) ⟨hx, hb, hml, hown, hts⟩ (c_X5_count l g aF aN aA aW aP aQ aO aH aB _ _ _ _ _ _ _ _ _ _ h95) (cwV 1 hts gL_parted_X5_count rfl rfl rfl (by decide +kernel) ⟨Nat.le_of_ble_eq_true rfl, Nat.le_of_ble_eq_true rfl⟩) hKW hP [0, 1, 2, 3, 4, 5, 6, 7, 8, 9, 10, 11, 12, 13, 14, 15, 16, 17, 18, 19, 20, 21, 22, 23, 24, 25, 26, 27, 28, 29, 30, 31, 32, 33, 34, 35, 36, 37, 38, 39, 40, 41, 42, 43, 44, 45, 46, 47, 48, 49, 50, 51, 52, 53, 54, 55] rfl (va_recv hK hP (ci := 5) (q0 := 0) rfl rfl) rfl hl.1 rfl (lv_room (Nat.le_of_ble_eq_true rfl)) dL_parted_191 ⟨Nat.zero_le _, Nat.zero_le _⟩ (fun r96 q97 => ?_)
                      obtain ⟨q97, nb98⟩ := q97
                      refine lv_as q97.symm ?_
                      refine lv_iload hx hb dL_parted_194 (lv_at hl 8 rfl) ?_
                      refine lv_icmp_ne (tgt := 203) hx hb dL_parted_196 (by decide) (fun c99 => ?_) (fun c99 => ?_)
                      · have hf := ite_f hf c99
                        refine lv_iconst (v := 0) hx hb dL_parted_203 (by decide) ?_
                        have er0 := Option.some.inj hf
                        obtain ⟨er0, er1⟩ := Prod.mk.inj er0
                        obtain ⟨er1, er2⟩ := Prod.mk.inj er1
                        obtain ⟨er2, er3⟩ := Prod.mk.inj er2
                        obtain ⟨er3, er4⟩ := Prod.mk.inj er3
                        obtain ⟨er4, er5⟩ := Prod.mk.inj er4
                        rw [← hQ0]; exact W.zret (v := 0) hx hb hr rfl (fun t ht hW => ⟨⟨0, (), rfl, ⟨er0, rfl⟩, by dsimp only; rw [ht, ← er1, ← er2, ← er3, ← er4, ← er5]; exact hP⟩, hS.F ht⟩) hS.2.2 dL_parted_204
                      · have hf := ite_t hf c99
                        refine lv_iconst (v := 1) hx hb dL_parted_199 (by decide) ?_
                        refine lv_goto (tgt := 204) hx hb dL_parted_200 (by decide) ?_
                        have er0 := Option.some.inj hf
                        obtain ⟨er0, er1⟩ := Prod.mk.inj er0
                        obtain ⟨er1, er2⟩ := Prod.mk.inj er1
                        obtain ⟨er2, er3⟩ := Prod.mk.inj er2
                        obtain ⟨er3, er4⟩ := Prod.mk.inj er3
                        obtain ⟨er4, er5⟩ := Prod.mk.inj er4
                        rw [← hQ0]; exact W.zret (v := 1) hx hb hr rfl (fun t ht hW => ⟨⟨1, (), rfl, ⟨er0, rfl⟩, by dsimp only; rw [ht, ← er1, ← er2, ← er3, ← er4, ← er5]; exact hP⟩, hS.F ht⟩) hS.2.2 dL_parted_204
      refine lv_if_ge (tgt := 112) hx hb dL_parted_105 (by decide) (fun c100 => ?_) (fun c100 => ?_)
      · have hf := ite_t hf c100
        refine lv_aload_n hx hb dL_parted_112 rfl (lv_at hl 2 rfl) ?_
        refine lv_iload_n hx hb dL_parted_113 rfl (lv_at hl 3 rfl) ?_
        refine lv_iload_n hx hb dL_parted_114 rfl (lv_at hl 4 rfl) ?_
        refine lv_isub hx hb dL_parted_115 ?_
        obtain ⟨u105, h104, hf⟩ := bnd_el hf
        refine wr_i (rest := []) (wc := (pF g aF (aW 0) (aN 0) (aA 0) (aH 0) (aO 0) XF ++ (pS g aN (aW 0) u51.2.1 ++ (pW g aW (aP 0) (aQ 0) XW ++ (pP g aP XP ++ (pH g aH aB (aW 0) u51.2.2)))))) (wc' := (pF g aF (aW 0) (aN 0) (aA 0) (aH 0) (aO 0) XF ++ (pS g aN (aW 0) u105.2.1 ++ (pW g aW (aP 0) (aQ 0) XW ++ (pP g aP XP ++ (pH g aH aB (aW 0) u105.2.2)))))) (ws2 := (pF g aF (aW 0) (aN 0) (aA 0) (aH 0) (aO 0) XF ++ (pS g aN (aW 0) u105.2.1 ++ (pW g aW (aP 0) (aQ 0) XW ++ (pP g aP XP ++ (pP g aQ XQ ++ (pO g aO XO ++ (pH g aH aB (aW 0) u105.2.2)))))))) hP hD hS hA [0, 1, 2, 3, 4, 5, 6, 7, 8, 9, 10, 11, 12, 13, 14, 15, 16, 17, 18, 19, 26, 27, 28, 29, 30, 31, 32, 33, 34, 35, 36, 37, 38, 39, 40, 41, 42, 43, 44, 45, 46, 47, 48, 49, 50, 51, 52, 53, 54, 55] rfl rfl (by rfl) (rnV (As := [.int (x1 - x2)]) ⟨hx, hb, hml, hown, hts⟩ (c_X5_run l g aF aN aA aW aP aQ aO aH aB _ _ _ _ _ _ _ _ _ _ _ h104) (cwV 1 hts gL_parted_X5_run rfl rfl rfl (by decide +kernel) ⟨Nat.le_of_ble_eq_true rfl, Nat.le_of_ble_eq_true rfl⟩) hKW hP hD [0, 1, 2, 3, 4, 5, 6, 7, 8, 9, 10, 11, 12, 13, 14, 15, 16, 17, 18, 19, 26, 27, 28, 29, 30, 31, 32, 33, 34, 35, 36, 37, 38, 39, 40, 41, 42, 43, 44, 45, 46, 47, 48, 49, 50, 51, 52, 53, 54, 55] (by decide) rfl (va_recv hK hP (ci := 5) (q0 := 0) rfl rfl) rfl hl.1 rfl (lv_room (Nat.le_of_ble_eq_true rfl)) dL_parted_116 ⟨Nat.zero_le _, Nat.zero_le _⟩) (fun r106 H locs q107 hP hD hS => ?_)
        obtain ⟨q107, nb108⟩ := q107
        refine lv_as q107.symm ?_
        exact J_119 x3 x4 x5 x6 x7 x8 x9 k0 v55 u105.1 u105.2.1 XW XP XQ u105.2.2 _ _ ls hP hD hS (lv_sub hl [2, 5, 6, 7, 8, 9, 10, 11, 1, 0] rfl) hf
      · have hf := ite_f hf c100
        refine lv_iconst (v := 0) hx hb dL_parted_108 (by decide) ?_
        refine lv_goto (tgt := 119) hx hb dL_parted_109 (by decide) ?_
        exact J_119 x3 x4 x5 x6 x7 x8 x9 k0 v55 0 u51.2.1 XW XP XQ u51.2.2 _ _ ls hP hD hS (lv_sub hl [2, 5, 6, 7, 8, 9, 10, 11, 1, 0] rfl) hf
    obtain ⟨j90, ej90, hf⟩ := sl_el hf
    have J_90 : ∀ (x1 x2 x3 x4 x5 x6 x7 x8 x9 : Int32) (XN : DM) (XW : DM) (XP : DM) (XQ : DM) (XH : HD) (H : Heap) (locs : List Loc) (ls : Array Slot), va_P g.1 vwCl (pF g aF (aW 0) (aN 0) (aA 0) (aH 0) (aO 0) XF ++ (pS g aN (aW 0) XN ++ (pW g aW (aP 0) (aQ 0) XW ++ (pP g aP XP ++ (pP g aQ XQ ++ (pO g aO XO ++ (pH g aH aB (aW 0) XH))))))) H → va_D A (pF g aF (aW 0) (aN 0) (aA 0) (aH 0) (aO 0) XF ++ (pS g aN (aW 0) XN ++ (pW g aW (aP 0) (aQ 0) XW ++ (pP g aP XP ++ (pP g aQ XQ ++ (pO g aO XO ++ (pH g aH aB (aW 0) XH))))))) → va_S A s.heap H locs → lv_has ls 13 [(0, .ref (aF 0)), (1, .int x1), (2, .int x2), (3, .int x3), (4, .int x4), (5, .int x5), (6, .int x6), (7, .int x7), (8, .int x8), (9, .int x9)] → j90 x1 x2 x3 x4 x5 x6 x7 x8 x9 XN XW XP XQ XH = some (r, XNz, XWz, XPz, XQz, XHz) → W p l e (headSpec wsL_parted rmL_parted).room s m args below meth c H locs 0 0 Q0 (F0 m 90 ls []) := by
      intro x1 x2 x3 x4 x5 x6 x7 x8 x9 XN XW XP XQ XH H locs ls hP hD hS hl hf
      rw [ej90] at hf
      refine lv_iconst (v := 0) hx hb dL_parted_90 (by decide) ?_
      exact J_91 x1 x2 x3 x4 x5 x6 x7 x8 x9 0 XN XW XP XQ XH _ _ ls hP hD hS (lv_sub hl [0, 1, 2, 3, 4, 5, 6, 7, 8, 9] rfl) hf
    refine lv_if_eq (tgt := 90) hx hb dL_parted_76 (by decide) (fun c109 => ?_) (fun c109 => ?_)
    · have hf := ite_t hf c109
      exact J_90 p1 p2 v9 r12 r17 r22 r27 r32 r37 u5.2.1 XW XP XQ u5.2.2 _ _ ls hP hD hS (lv_sub hl [7, 8, 9, 6, 5, 4, 3, 2, 1, 0] rfl) hf
    · have hf := ite_f hf c109
      refine lv_aload_n hx hb dL_parted_79 rfl (lv_at hl 7 rfl) ?_
      obtain ⟨u117, h116, hf⟩ := bnd_el hf
      refine wr_i (rest := []) (wc := (pF g aF (aW 0) (aN 0) (aA 0) (aH 0) (aO 0) XF ++ (pS g aN (aW 0) u5.2.1 ++ (pW g aW (aP 0) (aQ 0) XW ++ (pP g aP XP ++ (pP g aQ XQ ++ (pH g aH aB (aW 0) u5.2.2))))))) (wc' := (pF g aF (aW 0) (aN 0) (aA 0) (aH 0) (aO 0) XF ++ (pS g aN (aW 0) u117.2.1 ++ (pW g aW (aP 0) (aQ 0) u117.2.2.1 ++ (pP g aP u117.2.2.2.1 ++ (pP g aQ u117.2.2.2.2.1 ++ (pH g aH aB (aW 0) u117.2.2.2.2.2))))))) (ws2 := (pF g aF (aW 0) (aN 0) (aA 0) (aH 0) (aO 0) XF ++ (pS g aN (aW 0) u117.2.1 ++ (pW g aW (aP 0) (aQ 0) u117.2.2.1 ++ (pP g aP u117.2.2.2.1 ++ (pP g aQ u117.2.2.2.2.1 ++ (pO g aO XO ++ (pH g aH aB (aW 0) u117.2.2.2.2.2)))))))) hP hD hS hA [0, 1, 2, 3, 4, 5, 6, 7, 8, 9, 10, 11, 12, 13, 14, 15, 16, 17, 18, 19, 20, 21, 22, 23, 26, 27, 28, 29, 30, 31, 32, 33, 34, 35, 36, 37, 38, 39, 40, 41, 42, 43, 44, 45, 46, 47, 48, 49, 50, 51, 52, 53, 54, 55] rfl rfl (by rfl) (rnV (As := []) ⟨hx, hb, hml, hown, hts⟩ (c_X5_undo l g aF aN aA aW aP aQ aO aH aB _ _ _ _ _ _ _ _ _ _ _ _ _ _ h116) (cwV 0 hts gL_parted_X5_undo rfl rfl rfl (by decide +kernel) ⟨Nat.le_of_ble_eq_true rfl, Nat.le_of_ble_eq_true rfl⟩) hKW hP hD [0, 1, 2, 3, 4, 5, 6, 7, 8, 9, 10, 11, 12, 13, 14, 15, 16, 17, 18, 19, 20, 21, 22, 23, 26, 27, 28, 29, 30, 31, 32, 33, 34, 35, 36, 37, 38, 39, 40, 41, 42, 43, 44, 45, 46, 47, 48, 49, 50, 51, 52, 53, 54, 55] (by decide) rfl (va_recv hK hP (ci := 5) (q0 := 0) rfl rfl) rfl hl.1 rfl (lv_room (Nat.le_of_ble_eq_true rfl)) dL_parted_80 ⟨Nat.zero_le _, Nat.zero_le _⟩) (fun r118 H locs q119 hP hD hS => ?_)
      obtain ⟨q119, nb120⟩ := q119
      refine lv_as q119.symm ?_
      refine lv_if_lt (tgt := 90) hx hb dL_parted_83 (by decide) (fun c121 => ?_) (fun c121 => ?_)
      · have hf := ite_t hf c121
        exact J_90 p1 p2 v9 r12 r17 r22 r27 r32 r37 u117.2.1 u117.2.2.1 u117.2.2.2.1 u117.2.2.2.2.1 u117.2.2.2.2.2 _ _ ls hP hD hS (lv_sub hl [7, 8, 9, 6, 5, 4, 3, 2, 1, 0] rfl) hf
      · have hf := ite_f hf c121
        refine lv_iconst (v := 1) hx hb dL_parted_86 (by decide) ?_
        refine lv_goto (tgt := 91) hx hb dL_parted_87 (by decide) ?_
        exact J_91 p1 p2 v9 r12 r17 r22 r27 r32 r37 1 u117.2.1 u117.2.2.1 u117.2.2.2.1 u117.2.2.2.2.1 u117.2.2.2.2.2 _ _ ls hP hD hS (lv_sub hl [7, 8, 9, 6, 5, 4, 3, 2, 1, 0] rfl) hf
  · have hf := ite_f hf c11
    refine lv_aload_n hx hb dL_parted_10 rfl (lv_at hl 1 rfl) ?_
    refine lv_iconst (v := 4) hx hb dL_parted_11 (by decide) ?_
    obtain ⟨r122, h123, hf⟩ := bnd_el hf
    refine rdV (As := [.int 4]) (rest := []) ⟨hx, hb, hml, hown, hts⟩ (c_X5_count l g aF aN aA aW aP aQ aO aH aB _ _ _ _ _ _ _ _ _ _ h123) (cwV 1 hts gL_parted_X5_count rfl rfl rfl (by decide +kernel) ⟨Nat.le_of_ble_eq_true rfl, Nat.le_of_ble_eq_true rfl⟩) hKW hP [0, 1, 2, 3, 4, 5, 6, 7, 8, 9, 10, 11, 12, 13, 14, 15, 16, 17, 18, 19, 20, 21, 22, 23, 24, 25, 26, 27, 28, 29, 30, 31, 32, 33, 34, 35, 36, 37, 38, 39, 40, 41, 42, 43, 44, 45, 46, 47, 48, 49, 50, 51, 52, 53, 54, 55] rfl (va_recv hK hP (ci := 5) (q0 := 0) rfl rfl) rfl hl.1 rfl (lv_room (Nat.le_of_ble_eq_true rfl)) dL_parted_12 ⟨Nat.zero_le _, Nat.zero_le _⟩ (fun r124 q125 => ?_)
    obtain ⟨q125, nb126⟩ := q125
    refine lv_as q125.symm ?_
    refine lv_bipush (v := (-4)) hx hb dL_parted_15 (by decide) ?_
    refine lv_icmp_ne (tgt := 24) hx hb dL_parted_17 (by decide) (fun c127 => ?_) (fun c127 => ?_)
    · have hf := ite_f hf c127
      refine lv_iconst (v := 0) hx hb dL_parted_24 (by decide) ?_
      have er0 := Option.some.inj hf
      obtain ⟨er0, er1⟩ := Prod.mk.inj er0
      obtain ⟨er1, er2⟩ := Prod.mk.inj er1
      obtain ⟨er2, er3⟩ := Prod.mk.inj er2
      obtain ⟨er3, er4⟩ := Prod.mk.inj er3
      obtain ⟨er4, er5⟩ := Prod.mk.inj er4
      rw [← hQ0]; exact W.zret (v := 0) hx hb hr rfl (fun t ht hW => ⟨⟨0, (), rfl, ⟨er0, rfl⟩, by dsimp only; rw [ht, ← er1, ← er2, ← er3, ← er4, ← er5]; exact hP⟩, hS.F ht⟩) hS.2.2 dL_parted_25
    · have hf := ite_t hf c127
      refine lv_iconst (v := 1) hx hb dL_parted_20 (by decide) ?_
      refine lv_goto (tgt := 25) hx hb dL_parted_21 (by decide) ?_
      have er0 := Option.some.inj hf
      obtain ⟨er0, er1⟩ := Prod.mk.inj er0
      obtain ⟨er1, er2⟩ := Prod.mk.inj er1
      obtain ⟨er2, er3⟩ := Prod.mk.inj er2
      obtain ⟨er3, er4⟩ := Prod.mk.inj er3
      obtain ⟨er4, er5⟩ := Prod.mk.inj er4
      rw [← hQ0]; exact W.zret (v := 1) hx hb hr rfl (fun t ht hW => ⟨⟨1, (), rfl, ⟨er0, rfl⟩, by dsimp only; rw [ht, ← er1, ← er2, ← er3, ← er4, ← er5]; exact hP⟩, hS.F ht⟩) hS.2.2 dL_parted_25
