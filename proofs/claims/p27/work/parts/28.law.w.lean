set_option maxHeartbeats 16000000 in
set_option maxRecDepth 100000 in
theorem law_walk {p : Program} {l : Launch} {e : Env} {s : State} {m : MethodId} {below : List Frame} {meth : Method} {c : Code} {g : GG} {b L : Nat} {xs : Nat → Int32} {A : Nat → Prop} (C0 : lw_At p s m meth c b L xs) (hKW : KW g s) (hA : ∀ q : Nat, s.heap.size ≤ q → A q) (hAf : ∀ q : Nat, A q → s.heap.size ≤ q) {tL tH : Nat} (hST : STA A tL tH s) (n : Nat) (aF aN aA aW aP aQ aO aH : Nat → Nat) (aB : Nat → Nat → Nat) (XF : DM) (XN : DM) (XW : DM) (XP : DM) (XQ : DM) (XO : DM) (XH : HD) (hf : fL_lawT n L xs XF XN XW XP XQ XO XH = some 1) (H : Heap) (locs : List Loc) (hP : va_P g.1 vwCl (pF g aF (aW 0) (aN 0) (aA 0) (aH 0) (aO 0) XF ++ (pS g aN (aW 0) XN ++ (pW g aW (aP 0) (aQ 0) XW ++ (pP g aP XP ++ (pP g aQ XQ ++ (pO g aO XO ++ (pH g aH aB (aW 0) XH))))))) H) (hD : va_D A (pF g aF (aW 0) (aN 0) (aA 0) (aH 0) (aO 0) XF ++ (pS g aN (aW 0) XN ++ (pW g aW (aP 0) (aQ 0) XW ++ (pP g aP XP ++ (pP g aQ XQ ++ (pO g aO XO ++ (pH g aH aB (aW 0) XH)))))))) (hS : va_S A s.heap H locs) (ls : Array Slot) (hl : lv_has ls 18 [(1, .ref (aF 0)), (0, .ref b)]) : W p l e room_1 s m #[Value.ref b] below meth c H locs 63 4939 (lw_Z below #[Value.ref b] s) (F0 m 8 ls []) := by
  obtain ⟨hx, hb, hr, hml, hown, hts0, hX, hbl, hlocks, hgv⟩ := C0
  have hts : ∀ w ∈ wsL_law, w.before #[Value.ref b] s = true := fun w h => hts0 w (wsL_law_in w h)
  have hK := hKW.1
  have hbA : ¬ A b := fun h => absurd (hAf b h) (Nat.not_le.mpr hbl)
  unfold fL_lawT at hf
  refine lv_aload_n hx hb dL_law_8 rfl (lv_at hl 0 rfl) ?_
  obtain ⟨r1, h2, hf⟩ := bnd_el hf
  refine rdS (As := [.ref (aF 0)]) (rest := []) ⟨hx, hb, hml, hown, hts⟩ (c_L_holds l g aF aN aA aW aP aQ aO aH aB _ _ _ _ _ _ _ _ _ h2) (va_cwS 1 hts gL_law_L_holds rfl rfl rfl (by decide +kernel) ⟨Nat.le_of_ble_eq_true rfl, Nat.le_of_ble_eq_true rfl⟩) hKW hP [0, 1, 2, 3, 4, 5, 6, 7, 8, 9, 10, 11, 12, 13, 14, 15, 16, 17, 18, 19, 20, 21, 22, 23, 24, 25, 26, 27, 28, 29, 30, 31, 32, 33, 34, 35, 36, 37, 38, 39, 40, 41, 42, 43, 44, 45, 46, 47, 48, 49, 50, 51, 52, 53, 54, 55] rfl rfl hl.1 rfl (lv_room (Nat.le_of_ble_eq_true rfl)) dL_law_9 ⟨Nat.le_of_ble_eq_true rfl, Nat.le_of_ble_eq_true rfl⟩ (fun r3 q4 => ?_)
  obtain ⟨q4, nb5⟩ := q4
  refine lv_as q4.symm ?_
  rw [q4] at nb5
  refine lv_istore_n (lv' := [(2, .int r1), (1, .ref (aF 0)), (0, .ref b)]) hx hb dL_law_12 rfl hl (by decide) rfl (fun ls hl => ?_)
  refine lv_bipush (v := 30) hx hb dL_law_13 (by decide) ?_
  refine lv_aload_n hx hb dL_law_15 rfl (lv_at hl 2 rfl) ?_
  refine lv_iconst (v := 0) hx hb dL_law_16 (by decide) ?_
  obtain ⟨r6, h7, hf⟩ := bnd_el hf
  refine rdSX (As := [.ref b, .int 0]) (rest := [.int 30]) ⟨hx, hb, hml, hown, hts⟩ (c_L_cell l g b L xs 0 _ h7) (va_cwS 2 hts gL_law_L_cell rfl rfl rfl (by decide +kernel) ⟨Nat.le_of_ble_eq_true rfl, Nat.le_of_ble_eq_true rfl⟩) hKW (hX.kept (hS.2.1 b hbl hbA)) rfl hl.1 rfl (lv_room (Nat.le_of_ble_eq_true rfl)) dL_law_17 ⟨Nat.le_of_ble_eq_true rfl, Nat.le_of_ble_eq_true rfl⟩ (fun _ => ?_)
  refine lv_bipush (v := 60) hx hb dL_law_20 (by decide) ?_
  obtain ⟨z10, v8, e9, hf⟩ := rmA_el hf
  refine lv_irem hx hb dL_law_22 z10 ?_
  refine lv_as e9 ?_
  refine lv_iadd hx hb dL_law_23 ?_
  obtain ⟨v11, e12, hf⟩ := sl_el hf
  refine lv_as e12 ?_
  refine lv_istore_n (lv' := [(3, .int v11), (2, .int r1), (1, .ref (aF 0)), (0, .ref b)]) hx hb dL_law_24 rfl hl (by decide) rfl (fun ls hl => ?_)
  refine lv_iconst (v := 0) hx hb dL_law_25 (by decide) ?_
  refine lv_istore (lv' := [(4, .int 0), (3, .int v11), (2, .int r1), (1, .ref (aF 0)), (0, .ref b)]) hx hb dL_law_26 hl (by decide) rfl (fun ls hl => ?_)
  obtain ⟨j73, ej73, hf⟩ := sl_el hf
  have J_73 : ∀ (x2 : Int32) (XF : DM) (XN : DM) (XW : DM) (XP : DM) (XQ : DM) (XH : HD) (H : Heap) (locs : List Loc) (ls : Array Slot), va_P g.1 vwCl (pF g aF (aW 0) (aN 0) (aA 0) (aH 0) (aO 0) XF ++ (pS g aN (aW 0) XN ++ (pW g aW (aP 0) (aQ 0) XW ++ (pP g aP XP ++ (pP g aQ XQ ++ (pO g aO XO ++ (pH g aH aB (aW 0) XH))))))) H → va_D A (pF g aF (aW 0) (aN 0) (aA 0) (aH 0) (aO 0) XF ++ (pS g aN (aW 0) XN ++ (pW g aW (aP 0) (aQ 0) XW ++ (pP g aP XP ++ (pP g aQ XQ ++ (pO g aO XO ++ (pH g aH aB (aW 0) XH))))))) → va_S A s.heap H locs → lv_has ls 18 [(0, .ref b), (1, .ref (aF 0)), (2, .int x2)] → j73 x2 XF XN XW XP XQ XH = some 1 → W p l e room_1 s m #[Value.ref b] below meth c H locs 63 4939 (lw_Z below #[Value.ref b] s) (F0 m 73 ls []) := by
    intro x2 XF XN XW XP XQ XH H locs ls hP hD hS hl hf
    rw [ej73] at hf
    refine lv_iload_n hx hb dL_law_73 rfl (lv_at hl 2 rfl) ?_
    obtain ⟨j108, ej108, hf⟩ := sl_el hf
    have J_108 : ∀ (k0 : Int32) (XF : DM) (XN : DM) (XW : DM) (XP : DM) (XQ : DM) (XH : HD) (H : Heap) (locs : List Loc) (ls : Array Slot), va_P g.1 vwCl (pF g aF (aW 0) (aN 0) (aA 0) (aH 0) (aO 0) XF ++ (pS g aN (aW 0) XN ++ (pW g aW (aP 0) (aQ 0) XW ++ (pP g aP XP ++ (pP g aQ XQ ++ (pO g aO XO ++ (pH g aH aB (aW 0) XH))))))) H → va_D A (pF g aF (aW 0) (aN 0) (aA 0) (aH 0) (aO 0) XF ++ (pS g aN (aW 0) XN ++ (pW g aW (aP 0) (aQ 0) XW ++ (pP g aP XP ++ (pP g aQ XQ ++ (pO g aO XO ++ (pH g aH aB (aW 0) XH))))))) → va_S A s.heap H locs → lv_has ls 18 [(0, .ref b), (1, .ref (aF 0))] → j108 k0 XF XN XW XP XQ XH = some 1 → W p l e room_1 s m #[Value.ref b] below meth c H locs 63 4939 (lw_Z below #[Value.ref b] s) (F0 m 108 ls [.int k0]) := by
      intro k0 XF XN XW XP XQ XH H locs ls hP hD hS hl hf
      rw [ej108] at hf
      refine lv_istore_n (lv' := [(2, .int k0), (0, .ref b), (1, .ref (aF 0))]) hx hb dL_law_108 rfl hl (by decide) rfl (fun ls hl => ?_)
      refine lv_iconst (v := 0) hx hb dL_law_109 (by decide) ?_
      refine lv_istore (lv' := [(4, .int 0), (2, .int k0), (0, .ref b), (1, .ref (aF 0))]) hx hb dL_law_110 hl (by decide) rfl (fun ls hl => ?_)
      obtain ⟨j587, ej587, hf⟩ := sl_el hf
      have J_587 : ∀ (x2 : Int32) (XF : DM) (XN : DM) (XW : DM) (XP : DM) (XQ : DM) (XH : HD) (H : Heap) (locs : List Loc) (ls : Array Slot), va_P g.1 vwCl (pF g aF (aW 0) (aN 0) (aA 0) (aH 0) (aO 0) XF ++ (pS g aN (aW 0) XN ++ (pW g aW (aP 0) (aQ 0) XW ++ (pP g aP XP ++ (pP g aQ XQ ++ (pO g aO XO ++ (pH g aH aB (aW 0) XH))))))) H → va_D A (pF g aF (aW 0) (aN 0) (aA 0) (aH 0) (aO 0) XF ++ (pS g aN (aW 0) XN ++ (pW g aW (aP 0) (aQ 0) XW ++ (pP g aP XP ++ (pP g aQ XQ ++ (pO g aO XO ++ (pH g aH aB (aW 0) XH))))))) → va_S A s.heap H locs → lv_has ls 18 [(1, .ref (aF 0)), (2, .int x2)] → j587 x2 XF XN XW XP XQ XH = some 1 → W p l e room_1 s m #[Value.ref b] below meth c H locs 63 4939 (lw_Z below #[Value.ref b] s) (F0 m 587 ls []) := by
        intro x2 XF XN XW XP XQ XH H locs ls hP hD hS hl hf
        rw [ej587] at hf
        refine lv_aload_n hx hb dL_law_587 rfl (lv_at hl 0 rfl) ?_
        refine lv_iconst (v := 0) hx hb dL_law_588 (by decide) ?_
        obtain ⟨r13, h14, hf⟩ := bnd_el hf
        refine rdV (As := [.int 0]) (rest := []) ⟨hx, hb, hml, hown, hts⟩ (c_X5_count l g aF aN aA aW aP aQ aO aH aB _ _ _ _ _ _ _ _ _ _ h14) (cwV 1 hts gL_law_X5_count rfl rfl rfl (by decide +kernel) ⟨Nat.le_of_ble_eq_true rfl, Nat.le_of_ble_eq_true rfl⟩) hKW hP [0, 1, 2, 3, 4, 5, 6, 7, 8, 9, 10, 11, 12, 13, 14, 15, 16, 17, 18, 19, 20, 21, 22, 23, 24, 25, 26, 27, 28, 29, 30, 31, 32, 33, 34, 35, 36, 37, 38, 39, 40, 41, 42, 43, 44, 45, 46, 47, 48, 49, 50, 51, 52, 53, 54, 55] rfl (va_recv hK hP (ci := 5) (q0 := 0) rfl rfl) rfl hl.1 rfl (lv_room (Nat.le_of_ble_eq_true rfl)) dL_law_589 ⟨Nat.le_of_ble_eq_true rfl, Nat.le_of_ble_eq_true rfl⟩ (fun r15 q16 => ?_)
        obtain ⟨q16, nb17⟩ := q16
        refine lv_as q16.symm ?_
        refine lv_istore (lv' := [(4, .int r13), (1, .ref (aF 0)), (2, .int x2)]) hx hb dL_law_592 hl (by decide) rfl (fun ls hl => ?_)
        refine lv_aload_n hx hb dL_law_594 rfl (lv_at hl 1 rfl) ?_
        refine lv_iconst (v := 1) hx hb dL_law_595 (by decide) ?_
        obtain ⟨r18, h19, hf⟩ := bnd_el hf
        refine rdV (As := [.int 1]) (rest := []) ⟨hx, hb, hml, hown, hts⟩ (c_X5_count l g aF aN aA aW aP aQ aO aH aB _ _ _ _ _ _ _ _ _ _ h19) (cwV 1 hts gL_law_X5_count rfl rfl rfl (by decide +kernel) ⟨Nat.le_of_ble_eq_true rfl, Nat.le_of_ble_eq_true rfl⟩) hKW hP [0, 1, 2, 3, 4, 5, 6, 7, 8, 9, 10, 11, 12, 13, 14, 15, 16, 17, 18, 19, 20, 21, 22, 23, 24, 25, 26, 27, 28, 29, 30, 31, 32, 33, 34, 35, 36, 37, 38, 39, 40, 41, 42, 43, 44, 45, 46, 47, 48, 49, 50, 51, 52, 53, 54, 55] rfl (va_recv hK hP (ci := 5) (q0 := 0) rfl rfl) rfl hl.1 rfl (lv_room (Nat.le_of_ble_eq_true rfl)) dL_law_596 ⟨Nat.le_of_ble_eq_true rfl, Nat.le_of_ble_eq_true rfl⟩ (fun r20 q21 => ?_)
        obtain ⟨q21, nb22⟩ := q21
        refine lv_as q21.symm ?_
        refine lv_istore (lv' := [(5, .int r18), (4, .int r13), (1, .ref (aF 0)), (2, .int x2)]) hx hb dL_law_599 hl (by decide) rfl (fun ls hl => ?_)
        refine lv_iload_n hx hb dL_law_601 rfl (lv_at hl 3 rfl) ?_
        obtain ⟨j669, ej669, hf⟩ := sl_el hf
        have J_669 : ∀ (k0 : Int32) (XF : DM) (XN : DM) (XW : DM) (XP : DM) (XQ : DM) (XH : HD) (H : Heap) (locs : List Loc) (ls : Array Slot), va_P g.1 vwCl (pF g aF (aW 0) (aN 0) (aA 0) (aH 0) (aO 0) XF ++ (pS g aN (aW 0) XN ++ (pW g aW (aP 0) (aQ 0) XW ++ (pP g aP XP ++ (pP g aQ XQ ++ (pO g aO XO ++ (pH g aH aB (aW 0) XH))))))) H → va_D A (pF g aF (aW 0) (aN 0) (aA 0) (aH 0) (aO 0) XF ++ (pS g aN (aW 0) XN ++ (pW g aW (aP 0) (aQ 0) XW ++ (pP g aP XP ++ (pP g aQ XQ ++ (pO g aO XO ++ (pH g aH aB (aW 0) XH))))))) → va_S A s.heap H locs → lv_has ls 18 [(1, .ref (aF 0))] → j669 k0 XF XN XW XP XQ XH = some 1 → W p l e room_1 s m #[Value.ref b] below meth c H locs 63 4939 (lw_Z below #[Value.ref b] s) (F0 m 669 ls [.int k0]) := by
          intro k0 XF XN XW XP XQ XH H locs ls hP hD hS hl hf
          rw [ej669] at hf
          refine lv_istore_n (lv' := [(2, .int k0), (1, .ref (aF 0))]) hx hb dL_law_669 rfl hl (by decide) rfl (fun ls hl => ?_)
          refine lv_iload_n hx hb dL_law_670 rfl (lv_at hl 0 rfl) ?_
          refine lv_if_eq (tgt := 716) hx hb dL_law_671 (by decide) (fun c23 => ?_) (fun c23 => ?_)
          · have hf := ite_t hf c23
            refine lv_iconst (v := 0) hx hb dL_law_716 (by decide) ?_
            have er0 := Option.some.inj hf
            refine lv_as er0.symm ?_
            refine va_forget (fun q hq => hAf _ (hS.2.2 q hq)) ?_
            refine W.widen (k := 600000) (n := 7302250) (Nat.le_of_ble_eq_true rfl) (Nat.le_of_ble_eq_true rfl) ?_
            exact lw_ret hx hb hr hlocks dL_law_717
          · have hf := ite_f hf c23
            refine lv_aload_n hx hb dL_law_674 rfl (lv_at hl 1 rfl) ?_
            obtain ⟨r24, h25, hf⟩ := bnd_el hf
            refine rdS (As := [.ref (aF 0)]) (rest := []) ⟨hx, hb, hml, hown, hts⟩ (c_L_holds l g aF aN aA aW aP aQ aO aH aB _ _ _ _ _ _ _ _ _ h25) (va_cwS 1 hts gL_law_L_holds rfl rfl rfl (by decide +kernel) ⟨Nat.le_of_ble_eq_true rfl, Nat.le_of_ble_eq_true rfl⟩) hKW hP [0, 1, 2, 3, 4, 5, 6, 7, 8, 9, 10, 11, 12, 13, 14, 15, 16, 17, 18, 19, 20, 21, 22, 23, 24, 25, 26, 27, 28, 29, 30, 31, 32, 33, 34, 35, 36, 37, 38, 39, 40, 41, 42, 43, 44, 45, 46, 47, 48, 49, 50, 51, 52, 53, 54, 55] rfl rfl hl.1 rfl (lv_room (Nat.le_of_ble_eq_true rfl)) dL_law_675 ⟨Nat.le_of_ble_eq_true rfl, Nat.le_of_ble_eq_true rfl⟩ (fun r26 q27 => ?_)
            obtain ⟨q27, nb28⟩ := q27
            refine lv_as q27.symm ?_
            rw [q27] at nb28
            refine lv_if_eq (tgt := 716) hx hb dL_law_678 (by decide) (fun c29 => ?_) (fun c29 => ?_)
            · have hf := ite_t hf c29
              refine lv_iconst (v := 0) hx hb dL_law_716 (by decide) ?_
              have er0 := Option.some.inj hf
              refine lv_as er0.symm ?_
              refine va_forget (fun q hq => hAf _ (hS.2.2 q hq)) ?_
              refine W.widen (k := 600000) (n := 7302250) (Nat.le_of_ble_eq_true rfl) (Nat.le_of_ble_eq_true rfl) ?_
              exact lw_ret hx hb hr hlocks dL_law_717
            · have hf := ite_f hf c29
              refine lv_aload_n hx hb dL_law_681 rfl (lv_at hl 1 rfl) ?_
              refine lv_iconst (v := 4) hx hb dL_law_682 (by decide) ?_
              obtain ⟨r30, h31, hf⟩ := bnd_el hf
              refine rdV (As := [.int 4]) (rest := []) ⟨hx, hb, hml, hown, hts⟩ (c_X5_count l g aF aN aA aW aP aQ aO aH aB _ _ _ _ _ _ _ _ _ _ h31) (cwV 1 hts gL_law_X5_count rfl rfl rfl (by decide +kernel) ⟨Nat.le_of_ble_eq_true rfl, Nat.le_of_ble_eq_true rfl⟩) hKW hP [0, 1, 2, 3, 4, 5, 6, 7, 8, 9, 10, 11, 12, 13, 14, 15, 16, 17, 18, 19, 20, 21, 22, 23, 24, 25, 26, 27, 28, 29, 30, 31, 32, 33, 34, 35, 36, 37, 38, 39, 40, 41, 42, 43, 44, 45, 46, 47, 48, 49, 50, 51, 52, 53, 54, 55] rfl (va_recv hK hP (ci := 5) (q0 := 0) rfl rfl) rfl hl.1 rfl (lv_room (Nat.le_of_ble_eq_true rfl)) dL_law_683 ⟨Nat.le_of_ble_eq_true rfl, Nat.le_of_ble_eq_true rfl⟩ (fun r32 q33 => ?_)
              obtain ⟨q33, nb34⟩ := q33
              refine lv_as q33.symm ?_
              obtain ⟨j694, ej694, hf⟩ := sl_el hf
              have J_694 : ∀ (k0 : Int32) (XF : DM) (XN : DM) (XW : DM) (XP : DM) (XQ : DM) (XH : HD) (H : Heap) (locs : List Loc) (ls : Array Slot), va_P g.1 vwCl (pF g aF (aW 0) (aN 0) (aA 0) (aH 0) (aO 0) XF ++ (pS g aN (aW 0) XN ++ (pW g aW (aP 0) (aQ 0) XW ++ (pP g aP XP ++ (pP g aQ XQ ++ (pO g aO XO ++ (pH g aH aB (aW 0) XH))))))) H → va_D A (pF g aF (aW 0) (aN 0) (aA 0) (aH 0) (aO 0) XF ++ (pS g aN (aW 0) XN ++ (pW g aW (aP 0) (aQ 0) XW ++ (pP g aP XP ++ (pP g aQ XQ ++ (pO g aO XO ++ (pH g aH aB (aW 0) XH))))))) → va_S A s.heap H locs → lv_has ls 18 [(1, .ref (aF 0))] → j694 k0 XF XN XW XP XQ XH = some 1 → W p l e room_1 s m #[Value.ref b] below meth c H locs 63 4939 (lw_Z below #[Value.ref b] s) (F0 m 694 ls [.int k0]) := by
                intro k0 XF XN XW XP XQ XH H locs ls hP hD hS hl hf
                rw [ej694] at hf
                refine lv_aload_n hx hb dL_law_694 rfl (lv_at hl 0 rfl) ?_
                refine lv_iconst (v := 0) hx hb dL_law_695 (by decide) ?_
                obtain ⟨u38, h37, hf⟩ := bnd_el hf
                refine wr_i (rest := [.int k0]) (wc := (pF g aF (aW 0) (aN 0) (aA 0) (aH 0) (aO 0) XF ++ (pS g aN (aW 0) XN ++ (pW g aW (aP 0) (aQ 0) XW)))) (wc' := (pF g aF (aW 0) (aN 0) (aA 0) (aH 0) (aO 0) u38.2 ++ (pS g aN (aW 0) XN ++ (pW g aW (aP 0) (aQ 0) XW)))) (ws2 := (pF g aF (aW 0) (aN 0) (aA 0) (aH 0) (aO 0) u38.2 ++ (pS g aN (aW 0) XN ++ (pW g aW (aP 0) (aQ 0) XW ++ (pP g aP XP ++ (pP g aQ XQ ++ (pO g aO XO ++ (pH g aH aB (aW 0) XH)))))))) hP hD hS hA [0, 1, 2, 3, 4, 5, 6, 7, 8, 9, 10, 11, 12, 13, 14, 15] rfl rfl (by rfl) (rnV (As := [.int 0]) ⟨hx, hb, hml, hown, hts⟩ (c_X5_longest l g aF aN aA aW aP aQ aO aH aB _ _ _ _ _ _ _ _ h37) (cwV 1 hts gL_law_X5_longest rfl rfl rfl (by decide +kernel) ⟨Nat.le_of_ble_eq_true rfl, Nat.le_of_ble_eq_true rfl⟩) hKW hP hD [0, 1, 2, 3, 4, 5, 6, 7, 8, 9, 10, 11, 12, 13, 14, 15] (by decide) rfl (va_recv hK hP (ci := 5) (q0 := 0) rfl rfl) rfl hl.1 rfl (lv_room (Nat.le_of_ble_eq_true rfl)) dL_law_696 ⟨Nat.le_of_ble_eq_true rfl, Nat.le_of_ble_eq_true rfl⟩) (fun r39 H locs q40 hP hD hS => ?_)
                obtain ⟨q40, nb41⟩ := q40
                refine lv_as q40.symm ?_
                refine lv_bipush (v := (-4)) hx hb dL_law_699 (by decide) ?_
                obtain ⟨j709, ej709, hf⟩ := sl_el hf
                have J_709 : ∀ (k0 k1 : Int32) (XF : DM) (XN : DM) (XW : DM) (XP : DM) (XQ : DM) (XH : HD) (H : Heap) (locs : List Loc) (ls : Array Slot), va_P g.1 vwCl (pF g aF (aW 0) (aN 0) (aA 0) (aH 0) (aO 0) XF ++ (pS g aN (aW 0) XN ++ (pW g aW (aP 0) (aQ 0) XW ++ (pP g aP XP ++ (pP g aQ XQ ++ (pO g aO XO ++ (pH g aH aB (aW 0) XH))))))) H → va_D A (pF g aF (aW 0) (aN 0) (aA 0) (aH 0) (aO 0) XF ++ (pS g aN (aW 0) XN ++ (pW g aW (aP 0) (aQ 0) XW ++ (pP g aP XP ++ (pP g aQ XQ ++ (pO g aO XO ++ (pH g aH aB (aW 0) XH))))))) → va_S A s.heap H locs → lv_has ls 18 [] → j709 k0 k1 XF XN XW XP XQ XH = some 1 → W p l e room_1 s m #[Value.ref b] below meth c H locs 63 4939 (lw_Z below #[Value.ref b] s) (F0 m 709 ls [.int k1, .int k0]) := by
                  intro k0 k1 XF XN XW XP XQ XH H locs ls hP hD hS hl hf
                  rw [ej709] at hf
                  refine lv_icmp_ne (tgt := 716) hx hb dL_law_709 (by decide) (fun c42 => ?_) (fun c42 => ?_)
                  · have hf := ite_f hf c42
                    refine lv_iconst (v := 0) hx hb dL_law_716 (by decide) ?_
                    have er0 := Option.some.inj hf
                    refine lv_as er0.symm ?_
                    refine va_forget (fun q hq => hAf _ (hS.2.2 q hq)) ?_
                    refine W.widen (k := 600000) (n := 7302250) (Nat.le_of_ble_eq_true rfl) (Nat.le_of_ble_eq_true rfl) ?_
                    exact lw_ret hx hb hr hlocks dL_law_717
                  · have hf := ite_t hf c42
                    refine lv_iconst (v := 1) hx hb dL_law_712 (by decide) ?_
                    refine lv_goto (tgt := 717) hx hb dL_law_713 (by decide) ?_
                    have er0 := Option.some.inj hf
                    refine lv_as er0.symm ?_
                    refine va_forget (fun q hq => hAf _ (hS.2.2 q hq)) ?_
                    refine W.widen (k := 600000) (n := 7302250) (Nat.le_of_ble_eq_true rfl) (Nat.le_of_ble_eq_true rfl) ?_
                    exact lw_ret hx hb hr hlocks dL_law_717
                refine lv_icmp_ne (tgt := 708) hx hb dL_law_701 (by decide) (fun c43 => ?_) (fun c43 => ?_)
                · have hf := ite_f hf c43
                  refine lv_iconst (v := 0) hx hb dL_law_708 (by decide) ?_
                  exact J_709 k0 0 u38.2 XN XW XP XQ XH _ _ ls hP hD hS (lv_sub hl [] rfl) hf
                · have hf := ite_t hf c43
                  refine lv_iconst (v := 1) hx hb dL_law_704 (by decide) ?_
                  refine lv_goto (tgt := 709) hx hb dL_law_705 (by decide) ?_
                  exact J_709 k0 1 u38.2 XN XW XP XQ XH _ _ ls hP hD hS (lv_sub hl [] rfl) hf
              refine lv_if_ge (tgt := 693) hx hb dL_law_686 (by decide) (fun c44 => ?_) (fun c44 => ?_)
              · have hf := ite_t hf c44
                refine lv_iconst (v := 0) hx hb dL_law_693 (by decide) ?_
                exact J_694 0 XF XN XW XP XQ XH _ _ ls hP hD hS (lv_sub hl [1] rfl) hf
              · have hf := ite_f hf c44
                refine lv_iconst (v := 1) hx hb dL_law_689 (by decide) ?_
                refine lv_goto (tgt := 694) hx hb dL_law_690 (by decide) ?_
                exact J_694 1 XF XN XW XP XQ XH _ _ ls hP hD hS (lv_sub hl [1] rfl) hf
        obtain ⟨j668, ej668, hf⟩ := sl_el hf
        have J_668 : ∀ (XF : DM) (XN : DM) (XW : DM) (XP : DM) (XQ : DM) (XH : HD) (H : Heap) (locs : List Loc) (ls : Array Slot), va_P g.1 vwCl (pF g aF (aW 0) (aN 0) (aA 0) (aH 0) (aO 0) XF ++ (pS g aN (aW 0) XN ++ (pW g aW (aP 0) (aQ 0) XW ++ (pP g aP XP ++ (pP g aQ XQ ++ (pO g aO XO ++ (pH g aH aB (aW 0) XH))))))) H → va_D A (pF g aF (aW 0) (aN 0) (aA 0) (aH 0) (aO 0) XF ++ (pS g aN (aW 0) XN ++ (pW g aW (aP 0) (aQ 0) XW ++ (pP g aP XP ++ (pP g aQ XQ ++ (pO g aO XO ++ (pH g aH aB (aW 0) XH))))))) → va_S A s.heap H locs → lv_has ls 18 [(1, .ref (aF 0))] → j668 XF XN XW XP XQ XH = some 1 → W p l e room_1 s m #[Value.ref b] below meth c H locs 63 4939 (lw_Z below #[Value.ref b] s) (F0 m 668 ls []) := by
          intro XF XN XW XP XQ XH H locs ls hP hD hS hl hf
          rw [ej668] at hf
          refine lv_iconst (v := 0) hx hb dL_law_668 (by decide) ?_
          exact J_669 0 XF XN XW XP XQ XH _ _ ls hP hD hS (lv_sub hl [0] rfl) hf
        refine lv_if_eq (tgt := 668) hx hb dL_law_602 (by decide) (fun c45 => ?_) (fun c45 => ?_)
        · have hf := ite_t hf c45
          exact J_668 XF XN XW XP XQ XH _ _ ls hP hD hS (lv_sub hl [2] rfl) hf
        · have hf := ite_f hf c45
          refine lv_aload_n hx hb dL_law_605 rfl (lv_at hl 2 rfl) ?_
          refine lv_bipush (v := 32) hx hb dL_law_606 (by decide) ?_
          obtain ⟨u53, h52, hf⟩ := bnd_el hf
          refine wr_i (rest := []) (wc := (pF g aF (aW 0) (aN 0) (aA 0) (aH 0) (aO 0) XF ++ (pS g aN (aW 0) XN ++ (pW g aW (aP 0) (aQ 0) XW ++ (pP g aP XP ++ (pP g aQ XQ ++ (pH g aH aB (aW 0) XH))))))) (wc' := (pF g aF (aW 0) (aN 0) (aA 0) (aH 0) (aO 0) XF ++ (pS g aN (aW 0) u53.2.1 ++ (pW g aW (aP 0) (aQ 0) u53.2.2.1 ++ (pP g aP u53.2.2.2.1 ++ (pP g aQ u53.2.2.2.2.1 ++ (pH g aH aB (aW 0) u53.2.2.2.2.2))))))) (ws2 := (pF g aF (aW 0) (aN 0) (aA 0) (aH 0) (aO 0) XF ++ (pS g aN (aW 0) u53.2.1 ++ (pW g aW (aP 0) (aQ 0) u53.2.2.1 ++ (pP g aP u53.2.2.2.1 ++ (pP g aQ u53.2.2.2.2.1 ++ (pO g aO XO ++ (pH g aH aB (aW 0) u53.2.2.2.2.2)))))))) hP hD hS hA [0, 1, 2, 3, 4, 5, 6, 7, 8, 9, 10, 11, 12, 13, 14, 15, 16, 17, 18, 19, 20, 21, 22, 23, 26, 27, 28, 29, 30, 31, 32, 33, 34, 35, 36, 37, 38, 39, 40, 41, 42, 43, 44, 45, 46, 47, 48, 49, 50, 51, 52, 53, 54, 55] rfl rfl (by rfl) (rnV (As := [.int 32]) ⟨hx, hb, hml, hown, hts⟩ (c_X5_append l g aF aN aA aW aP aQ aO aH aB _ _ _ _ _ _ _ _ _ _ _ _ _ _ _ h52) (cwV 1 hts gL_law_X5_append rfl rfl rfl (by decide +kernel) ⟨Nat.le_of_ble_eq_true rfl, Nat.le_of_ble_eq_true rfl⟩) hKW hP hD [0, 1, 2, 3, 4, 5, 6, 7, 8, 9, 10, 11, 12, 13, 14, 15, 16, 17, 18, 19, 20, 21, 22, 23, 26, 27, 28, 29, 30, 31, 32, 33, 34, 35, 36, 37, 38, 39, 40, 41, 42, 43, 44, 45, 46, 47, 48, 49, 50, 51, 52, 53, 54, 55] (by decide) rfl (va_recv hK hP (ci := 5) (q0 := 0) rfl rfl) rfl hl.1 rfl (lv_room (Nat.le_of_ble_eq_true rfl)) dL_law_608 ⟨Nat.le_of_ble_eq_true rfl, Nat.le_of_ble_eq_true rfl⟩) (fun r54 H locs q55 hP hD hS => ?_)
          obtain ⟨q55, nb56⟩ := q55
          refine lv_as q55.symm ?_
          refine lv_iload hx hb dL_law_611 (lv_at hl 0 rfl) ?_
          refine lv_icmp_ne (tgt := 668) hx hb dL_law_613 (by decide) (fun c57 => ?_) (fun c57 => ?_)
          · have hf := ite_f hf c57
            exact J_668 XF u53.2.1 u53.2.2.1 u53.2.2.2.1 u53.2.2.2.2.1 u53.2.2.2.2.2 _ _ ls hP hD hS (lv_sub hl [2] rfl) hf
          · have hf := ite_t hf c57
            refine lv_aload_n hx hb dL_law_616 rfl (lv_at hl 2 rfl) ?_
            refine lv_bipush (v := 6) hx hb dL_law_617 (by decide) ?_
            obtain ⟨r58, h59, hf⟩ := bnd_el hf
            refine rdV (As := [.int 6]) (rest := []) ⟨hx, hb, hml, hown, hts⟩ (c_X5_count l g aF aN aA aW aP aQ aO aH aB _ _ _ _ _ _ _ _ _ _ h59) (cwV 1 hts gL_law_X5_count rfl rfl rfl (by decide +kernel) ⟨Nat.le_of_ble_eq_true rfl, Nat.le_of_ble_eq_true rfl⟩) hKW hP [0, 1, 2, 3, 4, 5, 6, 7, 8, 9, 10, 11, 12, 13, 14, 15, 16, 17, 18, 19, 20, 21, 22, 23, 24, 25, 26, 27, 28, 29, 30, 31, 32, 33, 34, 35, 36, 37, 38, 39, 40, 41, 42, 43, 44, 45, 46, 47, 48, 49, 50, 51, 52, 53, 54, 55] rfl (va_recv hK hP (ci := 5) (q0 := 0) rfl rfl) rfl hl.1 rfl (lv_room (Nat.le_of_ble_eq_true rfl)) dL_law_619 ⟨Nat.le_of_ble_eq_true rfl, Nat.le_of_ble_eq_true rfl⟩ (fun r60 q61 => ?_)
            obtain ⟨q61, nb62⟩ := q61
            refine lv_as q61.symm ?_
            refine lv_if_ne (tgt := 668) hx hb dL_law_622 (by decide) (fun c63 => ?_) (fun c63 => ?_)
            · have hf := ite_f hf c63
              exact J_668 XF u53.2.1 u53.2.2.1 u53.2.2.2.1 u53.2.2.2.2.1 u53.2.2.2.2.2 _ _ ls hP hD hS (lv_sub hl [2] rfl) hf
            · have hf := ite_t hf c63
              refine lv_aload_n hx hb dL_law_625 rfl (lv_at hl 2 rfl) ?_
              refine lv_iconst (v := 1) hx hb dL_law_626 (by decide) ?_
              obtain ⟨u71, h70, hf⟩ := bnd_el hf
              refine wr_i (rest := []) (wc := (pF g aF (aW 0) (aN 0) (aA 0) (aH 0) (aO 0) XF ++ (pS g aN (aW 0) u53.2.1 ++ (pW g aW (aP 0) (aQ 0) u53.2.2.1 ++ (pP g aP u53.2.2.2.1 ++ (pP g aQ u53.2.2.2.2.1 ++ (pH g aH aB (aW 0) u53.2.2.2.2.2))))))) (wc' := (pF g aF (aW 0) (aN 0) (aA 0) (aH 0) (aO 0) XF ++ (pS g aN (aW 0) u71.2.1 ++ (pW g aW (aP 0) (aQ 0) u71.2.2.1 ++ (pP g aP u71.2.2.2.1 ++ (pP g aQ u71.2.2.2.2.1 ++ (pH g aH aB (aW 0) u71.2.2.2.2.2))))))) (ws2 := (pF g aF (aW 0) (aN 0) (aA 0) (aH 0) (aO 0) XF ++ (pS g aN (aW 0) u71.2.1 ++ (pW g aW (aP 0) (aQ 0) u71.2.2.1 ++ (pP g aP u71.2.2.2.1 ++ (pP g aQ u71.2.2.2.2.1 ++ (pO g aO XO ++ (pH g aH aB (aW 0) u71.2.2.2.2.2)))))))) hP hD hS hA [0, 1, 2, 3, 4, 5, 6, 7, 8, 9, 10, 11, 12, 13, 14, 15, 16, 17, 18, 19, 20, 21, 22, 23, 26, 27, 28, 29, 30, 31, 32, 33, 34, 35, 36, 37, 38, 39, 40, 41, 42, 43, 44, 45, 46, 47, 48, 49, 50, 51, 52, 53, 54, 55] rfl rfl (by rfl) (rnV (As := [.int 1]) ⟨hx, hb, hml, hown, hts⟩ (c_X5_cut l g aF aN aA aW aP aQ aO aH aB _ _ _ _ _ _ _ _ _ _ _ _ _ _ _ h70) (cwV 1 hts gL_law_X5_cut rfl rfl rfl (by decide +kernel) ⟨Nat.le_of_ble_eq_true rfl, Nat.le_of_ble_eq_true rfl⟩) hKW hP hD [0, 1, 2, 3, 4, 5, 6, 7, 8, 9, 10, 11, 12, 13, 14, 15, 16, 17, 18, 19, 20, 21, 22, 23, 26, 27, 28, 29, 30, 31, 32, 33, 34, 35, 36, 37, 38, 39, 40, 41, 42, 43, 44, 45, 46, 47, 48, 49, 50, 51, 52, 53, 54, 55] (by decide) rfl (va_recv hK hP (ci := 5) (q0 := 0) rfl rfl) rfl hl.1 rfl (lv_room (Nat.le_of_ble_eq_true rfl)) dL_law_627 ⟨Nat.le_of_ble_eq_true rfl, Nat.le_of_ble_eq_true rfl⟩) (fun r72 H locs q73 hP hD hS => ?_)
              obtain ⟨q73, nb74⟩ := q73
              refine lv_as q73.symm ?_
              refine lv_iload hx hb dL_law_630 (lv_at hl 1 rfl) ?_
              refine lv_icmp_ne (tgt := 668) hx hb dL_law_632 (by decide) (fun c75 => ?_) (fun c75 => ?_)
              · have hf := ite_f hf c75
                exact J_668 XF u71.2.1 u71.2.2.1 u71.2.2.2.1 u71.2.2.2.2.1 u71.2.2.2.2.2 _ _ ls hP hD hS (lv_sub hl [2] rfl) hf
              · have hf := ite_t hf c75
                refine lv_aload_n hx hb dL_law_635 rfl (lv_at hl 2 rfl) ?_
                refine lv_iconst (v := 1) hx hb dL_law_636 (by decide) ?_
                obtain ⟨r76, h77, hf⟩ := bnd_el hf
                refine rdV (As := [.int 1]) (rest := []) ⟨hx, hb, hml, hown, hts⟩ (c_X5_count l g aF aN aA aW aP aQ aO aH aB _ _ _ _ _ _ _ _ _ _ h77) (cwV 1 hts gL_law_X5_count rfl rfl rfl (by decide +kernel) ⟨Nat.le_of_ble_eq_true rfl, Nat.le_of_ble_eq_true rfl⟩) hKW hP [0, 1, 2, 3, 4, 5, 6, 7, 8, 9, 10, 11, 12, 13, 14, 15, 16, 17, 18, 19, 20, 21, 22, 23, 24, 25, 26, 27, 28, 29, 30, 31, 32, 33, 34, 35, 36, 37, 38, 39, 40, 41, 42, 43, 44, 45, 46, 47, 48, 49, 50, 51, 52, 53, 54, 55] rfl (va_recv hK hP (ci := 5) (q0 := 0) rfl rfl) rfl hl.1 rfl (lv_room (Nat.le_of_ble_eq_true rfl)) dL_law_637 ⟨Nat.le_of_ble_eq_true rfl, Nat.le_of_ble_eq_true rfl⟩ (fun r78 q79 => ?_)
                obtain ⟨q79, nb80⟩ := q79
                refine lv_as q79.symm ?_
                refine lv_iload hx hb dL_law_640 (lv_at hl 0 rfl) ?_
                refine lv_icmp_ne (tgt := 668) hx hb dL_law_642 (by decide) (fun c81 => ?_) (fun c81 => ?_)
                · have hf := ite_f hf c81
                  exact J_668 XF u71.2.1 u71.2.2.1 u71.2.2.2.1 u71.2.2.2.2.1 u71.2.2.2.2.2 _ _ ls hP hD hS (lv_sub hl [2] rfl) hf
                · have hf := ite_t hf c81
                  refine lv_aload_n hx hb dL_law_645 rfl (lv_at hl 2 rfl) ?_
                  obtain ⟨u89, h88, hf⟩ := bnd_el hf
                  refine wr_i (rest := []) (wc := (pF g aF (aW 0) (aN 0) (aA 0) (aH 0) (aO 0) XF ++ (pS g aN (aW 0) u71.2.1 ++ (pW g aW (aP 0) (aQ 0) u71.2.2.1 ++ (pP g aP u71.2.2.2.1 ++ (pP g aQ u71.2.2.2.2.1 ++ (pH g aH aB (aW 0) u71.2.2.2.2.2))))))) (wc' := (pF g aF (aW 0) (aN 0) (aA 0) (aH 0) (aO 0) XF ++ (pS g aN (aW 0) u89.2.1 ++ (pW g aW (aP 0) (aQ 0) u89.2.2.1 ++ (pP g aP u89.2.2.2.1 ++ (pP g aQ u89.2.2.2.2.1 ++ (pH g aH aB (aW 0) u89.2.2.2.2.2))))))) (ws2 := (pF g aF (aW 0) (aN 0) (aA 0) (aH 0) (aO 0) XF ++ (pS g aN (aW 0) u89.2.1 ++ (pW g aW (aP 0) (aQ 0) u89.2.2.1 ++ (pP g aP u89.2.2.2.1 ++ (pP g aQ u89.2.2.2.2.1 ++ (pO g aO XO ++ (pH g aH aB (aW 0) u89.2.2.2.2.2)))))))) hP hD hS hA [0, 1, 2, 3, 4, 5, 6, 7, 8, 9, 10, 11, 12, 13, 14, 15, 16, 17, 18, 19, 20, 21, 22, 23, 26, 27, 28, 29, 30, 31, 32, 33, 34, 35, 36, 37, 38, 39, 40, 41, 42, 43, 44, 45, 46, 47, 48, 49, 50, 51, 52, 53, 54, 55] rfl rfl (by rfl) (rnV (As := []) ⟨hx, hb, hml, hown, hts⟩ (c_X5_undo l g aF aN aA aW aP aQ aO aH aB _ _ _ _ _ _ _ _ _ _ _ _ _ _ h88) (cwV 0 hts gL_law_X5_undo rfl rfl rfl (by decide +kernel) ⟨Nat.le_of_ble_eq_true rfl, Nat.le_of_ble_eq_true rfl⟩) hKW hP hD [0, 1, 2, 3, 4, 5, 6, 7, 8, 9, 10, 11, 12, 13, 14, 15, 16, 17, 18, 19, 20, 21, 22, 23, 26, 27, 28, 29, 30, 31, 32, 33, 34, 35, 36, 37, 38, 39, 40, 41, 42, 43, 44, 45, 46, 47, 48, 49, 50, 51, 52, 53, 54, 55] (by decide) rfl (va_recv hK hP (ci := 5) (q0 := 0) rfl rfl) rfl hl.1 rfl (lv_room (Nat.le_of_ble_eq_true rfl)) dL_law_646 ⟨Nat.le_of_ble_eq_true rfl, Nat.le_of_ble_eq_true rfl⟩) (fun r90 H locs q91 hP hD hS => ?_)
                  obtain ⟨q91, nb92⟩ := q91
                  refine lv_as q91.symm ?_
                  refine lv_if_lt (tgt := 668) hx hb dL_law_649 (by decide) (fun c93 => ?_) (fun c93 => ?_)
                  · have hf := ite_t hf c93
                    exact J_668 XF u89.2.1 u89.2.2.1 u89.2.2.2.1 u89.2.2.2.2.1 u89.2.2.2.2.2 _ _ ls hP hD hS (lv_sub hl [2] rfl) hf
                  · have hf := ite_f hf c93
                    refine lv_aload_n hx hb dL_law_652 rfl (lv_at hl 2 rfl) ?_
                    refine lv_iconst (v := 0) hx hb dL_law_653 (by decide) ?_
                    obtain ⟨r94, h95, hf⟩ := bnd_el hf
                    refine rdV (As := [.int 0]) (rest := []) ⟨hx, hb, hml, hown, hts⟩ (c_X5_count l g aF aN aA aW aP aQ aO aH aB _ _ _ _ _ _ _ _ _ _ h95) (cwV 1 hts gL_law_X5_count rfl rfl rfl (by decide +kernel) ⟨Nat.le_of_ble_eq_true rfl, Nat.le_of_ble_eq_true rfl⟩) hKW hP [0, 1, 2, 3, 4, 5, 6, 7, 8, 9, 10, 11, 12, 13, 14, 15, 16, 17, 18, 19, 20, 21, 22, 23, 24, 25, 26, 27, 28, 29, 30, 31, 32, 33, 34, 35, 36, 37, 38, 39, 40, 41, 42, 43, 44, 45, 46, 47, 48, 49, 50, 51, 52, 53, 54, 55] rfl (va_recv hK hP (ci := 5) (q0 := 0) rfl rfl) rfl hl.1 rfl (lv_room (Nat.le_of_ble_eq_true rfl)) dL_law_654 ⟨Nat.le_of_ble_eq_true rfl, Nat.le_of_ble_eq_true rfl⟩ (fun r96 q97 => ?_)
                    obtain ⟨q97, nb98⟩ := q97
                    refine lv_as q97.symm ?_
                    refine lv_iload hx hb dL_law_657 (lv_at hl 1 rfl) ?_
                    refine lv_iconst (v := 1) hx hb dL_law_659 (by decide) ?_
                    refine lv_iadd hx hb dL_law_660 ?_
                    refine lv_icmp_ne (tgt := 668) hx hb dL_law_661 (by decide) (fun c99 => ?_) (fun c99 => ?_)
                    · have hf := ite_f hf c99
                      exact J_668 XF u89.2.1 u89.2.2.1 u89.2.2.2.1 u89.2.2.2.2.1 u89.2.2.2.2.2 _ _ ls hP hD hS (lv_sub hl [2] rfl) hf
                    · have hf := ite_t hf c99
                      refine lv_iconst (v := 1) hx hb dL_law_664 (by decide) ?_
                      refine lv_goto (tgt := 669) hx hb dL_law_665 (by decide) ?_
                      exact J_669 1 XF u89.2.1 u89.2.2.1 u89.2.2.2.1 u89.2.2.2.2.1 u89.2.2.2.2.2 _ _ ls hP hD hS (lv_sub hl [2] rfl) hf
      have L_112 : ∀ fu : Nat, ∀ (x2 x4 : Int32) (XF : DM) (XN : DM) (XW : DM) (XP : DM) (XQ : DM) (XH : HD) (H : Heap) (locs : List Loc) (ls : Array Slot), va_P g.1 vwCl (pF g aF (aW 0) (aN 0) (aA 0) (aH 0) (aO 0) XF ++ (pS g aN (aW 0) XN ++ (pW g aW (aP 0) (aQ 0) XW ++ (pP g aP XP ++ (pP g aQ XQ ++ (pO g aO XO ++ (pH g aH aB (aW 0) XH))))))) H → va_D A (pF g aF (aW 0) (aN 0) (aA 0) (aH 0) (aO 0) XF ++ (pS g aN (aW 0) XN ++ (pW g aW (aP 0) (aQ 0) XW ++ (pP g aP XP ++ (pP g aQ XQ ++ (pO g aO XO ++ (pH g aH aB (aW 0) XH))))))) → va_S A s.heap H locs → lv_has ls 18 [(0, .ref b), (1, .ref (aF 0)), (2, .int x2), (4, .int x4)] → fL_law_L112 n L xs XO j587 fu x2 x4 XF XN XW XP XQ XH = some 1 → W p l e room_1 s m #[Value.ref b] below meth c H locs 63 4939 (lw_Z below #[Value.ref b] s) (F0 m 112 ls []) := by
        intro fu
        induction fu with
        | zero => intros; rename_i hf; rw [fL_law_L112] at hf; cases hf
        | succ fu ih =>
          intro x2 x4 XF XN XW XP XQ XH H locs ls hP hD hS hl hf
          rw [fL_law_L112] at hf
          refine lv_iload hx hb dL_law_112 (lv_at hl 3 rfl) ?_
          refine lv_bipush (v := 24) hx hb dL_law_114 (by decide) ?_
          refine lv_icmp_ge (tgt := 587) hx hb dL_law_116 (by decide) (fun c100 => ?_) (fun c100 => ?_)
          · have hf := ite_t hf c100
            exact J_587 x2 XF XN XW XP XQ XH _ _ ls hP hD hS (lv_sub hl [1, 2] rfl) hf
          · have hf := ite_f hf c100
            refine lv_iload_n hx hb dL_law_119 rfl (lv_at hl 2 rfl) ?_
            refine lv_if_eq (tgt := 587) hx hb dL_law_120 (by decide) (fun c101 => ?_) (fun c101 => ?_)
            · have hf := ite_t hf c101
              exact J_587 x2 XF XN XW XP XQ XH _ _ ls hP hD hS (lv_sub hl [1, 2] rfl) hf
            · have hf := ite_f hf c101
              refine lv_aload_n hx hb dL_law_123 rfl (lv_at hl 0 rfl) ?_
              refine lv_bipush (v := 92) hx hb dL_law_124 (by decide) ?_
              refine lv_iload hx hb dL_law_126 (lv_at hl 3 rfl) ?_
              refine lv_iadd hx hb dL_law_128 ?_
              obtain ⟨r102, h103, hf⟩ := bnd_el hf
              refine rdSX (As := [.ref b, .int (92 + x4)]) (rest := []) ⟨hx, hb, hml, hown, hts⟩ (c_L_cell l g b L xs (92 + x4) _ h103) (va_cwS 2 hts gL_law_L_cell rfl rfl rfl (by decide +kernel) ⟨Nat.le_of_ble_eq_true rfl, Nat.le_of_ble_eq_true rfl⟩) hKW (hX.kept (hS.2.1 b hbl hbA)) rfl hl.1 rfl (lv_room (Nat.le_of_ble_eq_true rfl)) dL_law_129 ⟨Nat.le_of_ble_eq_true rfl, Nat.le_of_ble_eq_true rfl⟩ (fun _ => ?_)
              refine lv_istore (lv' := [(5, .int r102), (0, .ref b), (1, .ref (aF 0)), (2, .int x2), (4, .int x4)]) hx hb dL_law_132 hl (by decide) rfl (fun ls hl => ?_)
              refine lv_aload_n hx hb dL_law_134 rfl (lv_at hl 2 rfl) ?_
              refine lv_iconst (v := 4) hx hb dL_law_135 (by decide) ?_
              obtain ⟨r104, h105, hf⟩ := bnd_el hf
              refine rdV (As := [.int 4]) (rest := []) ⟨hx, hb, hml, hown, hts⟩ (c_X5_count l g aF aN aA aW aP aQ aO aH aB _ _ _ _ _ _ _ _ _ _ h105) (cwV 1 hts gL_law_X5_count rfl rfl rfl (by decide +kernel) ⟨Nat.le_of_ble_eq_true rfl, Nat.le_of_ble_eq_true rfl⟩) hKW hP [0, 1, 2, 3, 4, 5, 6, 7, 8, 9, 10, 11, 12, 13, 14, 15, 16, 17, 18, 19, 20, 21, 22, 23, 24, 25, 26, 27, 28, 29, 30, 31, 32, 33, 34, 35, 36, 37, 38, 39, 40, 41, 42, 43, 44, 45, 46, 47, 48, 49, 50, 51, 52, 53, 54, 55] rfl (va_recv hK hP (ci := 5) (q0 := 0) rfl rfl) rfl hl.1 rfl (lv_room (Nat.le_of_ble_eq_true rfl)) dL_law_136 ⟨Nat.le_of_ble_eq_true rfl, Nat.le_of_ble_eq_true rfl⟩ (fun r106 q107 => ?_)
              obtain ⟨q107, nb108⟩ := q107
              refine lv_as q107.symm ?_
              refine lv_istore (lv' := [(6, .int r104), (5, .int r102), (0, .ref b), (1, .ref (aF 0)), (2, .int x2), (4, .int x4)]) hx hb dL_law_139 hl (by decide) rfl (fun ls hl => ?_)
              refine lv_iload hx hb dL_law_141 (lv_at hl 1 rfl) ?_
              refine lv_bipush (v := 6) hx hb dL_law_143 (by decide) ?_
              obtain ⟨z111, v109, e110, hf⟩ := rmA_el hf
              refine lv_irem hx hb dL_law_145 z111 ?_
              refine lv_as e110 ?_
              obtain ⟨j564, ej564, hf⟩ := sl_el hf
              have J_564 : ∀ (x2 x4 : Int32) (XF : DM) (XN : DM) (XW : DM) (XP : DM) (XQ : DM) (XH : HD) (H : Heap) (locs : List Loc) (ls : Array Slot), va_P g.1 vwCl (pF g aF (aW 0) (aN 0) (aA 0) (aH 0) (aO 0) XF ++ (pS g aN (aW 0) XN ++ (pW g aW (aP 0) (aQ 0) XW ++ (pP g aP XP ++ (pP g aQ XQ ++ (pO g aO XO ++ (pH g aH aB (aW 0) XH))))))) H → va_D A (pF g aF (aW 0) (aN 0) (aA 0) (aH 0) (aO 0) XF ++ (pS g aN (aW 0) XN ++ (pW g aW (aP 0) (aQ 0) XW ++ (pP g aP XP ++ (pP g aQ XQ ++ (pO g aO XO ++ (pH g aH aB (aW 0) XH))))))) → va_S A s.heap H locs → lv_has ls 18 [(0, .ref b), (1, .ref (aF 0)), (2, .int x2), (4, .int x4)] → j564 x2 x4 XF XN XW XP XQ XH = some 1 → W p l e room_1 s m #[Value.ref b] below meth c H locs 63 4939 (lw_Z below #[Value.ref b] s) (F0 m 564 ls []) := by
                intro x2 x4 XF XN XW XP XQ XH H locs ls hP hD hS hl hf
                rw [ej564] at hf
                refine lv_iload_n hx hb dL_law_564 rfl (lv_at hl 2 rfl) ?_
                obtain ⟨j580, ej580, hf⟩ := sl_el hf
                have J_580 : ∀ (x4 k0 : Int32) (XF : DM) (XN : DM) (XW : DM) (XP : DM) (XQ : DM) (XH : HD) (H : Heap) (locs : List Loc) (ls : Array Slot), va_P g.1 vwCl (pF g aF (aW 0) (aN 0) (aA 0) (aH 0) (aO 0) XF ++ (pS g aN (aW 0) XN ++ (pW g aW (aP 0) (aQ 0) XW ++ (pP g aP XP ++ (pP g aQ XQ ++ (pO g aO XO ++ (pH g aH aB (aW 0) XH))))))) H → va_D A (pF g aF (aW 0) (aN 0) (aA 0) (aH 0) (aO 0) XF ++ (pS g aN (aW 0) XN ++ (pW g aW (aP 0) (aQ 0) XW ++ (pP g aP XP ++ (pP g aQ XQ ++ (pO g aO XO ++ (pH g aH aB (aW 0) XH))))))) → va_S A s.heap H locs → lv_has ls 18 [(0, .ref b), (1, .ref (aF 0)), (4, .int x4)] → j580 x4 k0 XF XN XW XP XQ XH = some 1 → W p l e room_1 s m #[Value.ref b] below meth c H locs 63 4939 (lw_Z below #[Value.ref b] s) (F0 m 580 ls [.int k0]) := by
                  intro x4 k0 XF XN XW XP XQ XH H locs ls hP hD hS hl hf
                  rw [ej580] at hf
                  refine lv_istore_n (lv' := [(2, .int k0), (0, .ref b), (1, .ref (aF 0)), (4, .int x4)]) hx hb dL_law_580 rfl hl (by decide) rfl (fun ls hl => ?_)
                  obtain ⟨v112, e113, hf⟩ := sl_el hf
                  refine lv_iinc (v := v112) (lv' := [(4, .int v112), (2, .int k0), (0, .ref b), (1, .ref (aF 0))]) hx hb dL_law_581 hl (k := 3) rfl (by rw [e113]; rfl) (by decide) rfl (fun ls hl => ?_)
                  refine lv_goto (tgt := 112) hx hb dL_law_584 (by decide) ?_
                  exact ih k0 v112 XF XN XW XP XQ XH _ _ ls hP hD hS (lv_sub hl [2, 3, 1, 0] rfl) hf
                obtain ⟨j579, ej579, hf⟩ := sl_el hf
                have J_579 : ∀ (x4 : Int32) (XF : DM) (XN : DM) (XW : DM) (XP : DM) (XQ : DM) (XH : HD) (H : Heap) (locs : List Loc) (ls : Array Slot), va_P g.1 vwCl (pF g aF (aW 0) (aN 0) (aA 0) (aH 0) (aO 0) XF ++ (pS g aN (aW 0) XN ++ (pW g aW (aP 0) (aQ 0) XW ++ (pP g aP XP ++ (pP g aQ XQ ++ (pO g aO XO ++ (pH g aH aB (aW 0) XH))))))) H → va_D A (pF g aF (aW 0) (aN 0) (aA 0) (aH 0) (aO 0) XF ++ (pS g aN (aW 0) XN ++ (pW g aW (aP 0) (aQ 0) XW ++ (pP g aP XP ++ (pP g aQ XQ ++ (pO g aO XO ++ (pH g aH aB (aW 0) XH))))))) → va_S A s.heap H locs → lv_has ls 18 [(0, .ref b), (1, .ref (aF 0)), (4, .int x4)] → j579 x4 XF XN XW XP XQ XH = some 1 → W p l e room_1 s m #[Value.ref b] below meth c H locs 63 4939 (lw_Z below #[Value.ref b] s) (F0 m 579 ls []) := by
                  intro x4 XF XN XW XP XQ XH H locs ls hP hD hS hl hf
                  rw [ej579] at hf
                  refine lv_iconst (v := 0) hx hb dL_law_579 (by decide) ?_
                  exact J_580 x4 0 XF XN XW XP XQ XH _ _ ls hP hD hS (lv_sub hl [0, 1, 2] rfl) hf
                refine lv_if_eq (tgt := 579) hx hb dL_law_565 (by decide) (fun c114 => ?_) (fun c114 => ?_)
                · have hf := ite_t hf c114
                  exact J_579 x4 XF XN XW XP XQ XH _ _ ls hP hD hS (lv_sub hl [0, 1, 3] rfl) hf
                · have hf := ite_f hf c114
                  refine lv_aload_n hx hb dL_law_568 rfl (lv_at hl 1 rfl) ?_
                  obtain ⟨r115, h116, hf⟩ := bnd_el hf
                  refine rdS (As := [.ref (aF 0)]) (rest := []) ⟨hx, hb, hml, hown, hts⟩ (c_L_holds l g aF aN aA aW aP aQ aO aH aB _ _ _ _ _ _ _ _ _ h116) (va_cwS 1 hts gL_law_L_holds rfl rfl rfl (by decide +kernel) ⟨Nat.le_of_ble_eq_true rfl, Nat.le_of_ble_eq_true rfl⟩) hKW hP [0, 1, 2, 3, 4, 5, 6, 7, 8, 9, 10, 11, 12, 13, 14, 15, 16, 17, 18, 19, 20, 21, 22, 23, 24, 25, 26, 27, 28, 29, 30, 31, 32, 33, 34, 35, 36, 37, 38, 39, 40, 41, 42, 43, 44, 45, 46, 47, 48, 49, 50, 51, 52, 53, 54, 55] rfl rfl hl.1 rfl (lv_room (Nat.le_of_ble_eq_true rfl)) dL_law_569 ⟨Nat.le_of_ble_eq_true rfl, Nat.le_of_ble_eq_true rfl⟩ (fun r117 q118 => ?_)
                  obtain ⟨q118, nb119⟩ := q118
                  refine lv_as q118.symm ?_
                  rw [q118] at nb119
                  refine lv_if_eq (tgt := 579) hx hb dL_law_572 (by decide) (fun c120 => ?_) (fun c120 => ?_)
                  · have hf := ite_t hf c120
                    exact J_579 x4 XF XN XW XP XQ XH _ _ ls hP hD hS (lv_sub hl [0, 1, 3] rfl) hf
                  · have hf := ite_f hf c120
                    refine lv_iconst (v := 1) hx hb dL_law_575 (by decide) ?_
                    refine lv_goto (tgt := 580) hx hb dL_law_576 (by decide) ?_
                    exact J_580 x4 1 XF XN XW XP XQ XH _ _ ls hP hD hS (lv_sub hl [0, 1, 3] rfl) hf
              by_cases c121 : v109 = 0
              · have hf := ite_t hf c121
                refine lv_tableIn (tgt := 172) (off := 26) hx hb dL_law_146 (by rw [c121]; decide) (by rw [c121]; decide) (by rw [c121]; rfl) (by decide) ?_
                refine lv_aload_n hx hb dL_law_172 rfl (lv_at hl 3 rfl) ?_
                refine lv_bipush (v := 30) hx hb dL_law_173 (by decide) ?_
                obtain ⟨r122, h123, hf⟩ := bnd_el hf
                refine rdV (As := [.int 30]) (rest := []) ⟨hx, hb, hml, hown, hts⟩ (c_X5_count l g aF aN aA aW aP aQ aO aH aB _ _ _ _ _ _ _ _ _ _ h123) (cwV 1 hts gL_law_X5_count rfl rfl rfl (by decide +kernel) ⟨Nat.le_of_ble_eq_true rfl, Nat.le_of_ble_eq_true rfl⟩) hKW hP [0, 1, 2, 3, 4, 5, 6, 7, 8, 9, 10, 11, 12, 13, 14, 15, 16, 17, 18, 19, 20, 21, 22, 23, 24, 25, 26, 27, 28, 29, 30, 31, 32, 33, 34, 35, 36, 37, 38, 39, 40, 41, 42, 43, 44, 45, 46, 47, 48, 49, 50, 51, 52, 53, 54, 55] rfl (va_recv hK hP (ci := 5) (q0 := 0) rfl rfl) rfl hl.1 rfl (lv_room (Nat.le_of_ble_eq_true rfl)) dL_law_175 ⟨Nat.le_of_ble_eq_true rfl, Nat.le_of_ble_eq_true rfl⟩ (fun r124 q125 => ?_)
                obtain ⟨q125, nb126⟩ := q125
                refine lv_as q125.symm ?_
                refine lv_istore (lv' := [(7, .int r122), (6, .int r104), (5, .int r102), (0, .ref b), (1, .ref (aF 0)), (2, .int x2), (4, .int x4)]) hx hb dL_law_178 hl (by decide) rfl (fun ls hl => ?_)
                refine lv_aload_n hx hb dL_law_180 rfl (lv_at hl 4 rfl) ?_
                refine lv_bipush (v := 31) hx hb dL_law_181 (by decide) ?_
                obtain ⟨r127, h128, hf⟩ := bnd_el hf
                refine rdV (As := [.int 31]) (rest := []) ⟨hx, hb, hml, hown, hts⟩ (c_X5_count l g aF aN aA aW aP aQ aO aH aB _ _ _ _ _ _ _ _ _ _ h128) (cwV 1 hts gL_law_X5_count rfl rfl rfl (by decide +kernel) ⟨Nat.le_of_ble_eq_true rfl, Nat.le_of_ble_eq_true rfl⟩) hKW hP [0, 1, 2, 3, 4, 5, 6, 7, 8, 9, 10, 11, 12, 13, 14, 15, 16, 17, 18, 19, 20, 21, 22, 23, 24, 25, 26, 27, 28, 29, 30, 31, 32, 33, 34, 35, 36, 37, 38, 39, 40, 41, 42, 43, 44, 45, 46, 47, 48, 49, 50, 51, 52, 53, 54, 55] rfl (va_recv hK hP (ci := 5) (q0 := 0) rfl rfl) rfl hl.1 rfl (lv_room (Nat.le_of_ble_eq_true rfl)) dL_law_183 ⟨Nat.le_of_ble_eq_true rfl, Nat.le_of_ble_eq_true rfl⟩ (fun r129 q130 => ?_)
                obtain ⟨q130, nb131⟩ := q130
                refine lv_as q130.symm ?_
                refine lv_istore (lv' := [(8, .int r127), (7, .int r122), (6, .int r104), (5, .int r102), (0, .ref b), (1, .ref (aF 0)), (2, .int x2), (4, .int x4)]) hx hb dL_law_186 hl (by decide) rfl (fun ls hl => ?_)
                refine lv_aload_n hx hb dL_law_188 rfl (lv_at hl 5 rfl) ?_
                refine lv_bipush (v := 32) hx hb dL_law_189 (by decide) ?_
                obtain ⟨r132, h133, hf⟩ := bnd_el hf
                refine rdV (As := [.int 32]) (rest := []) ⟨hx, hb, hml, hown, hts⟩ (c_X5_count l g aF aN aA aW aP aQ aO aH aB _ _ _ _ _ _ _ _ _ _ h133) (cwV 1 hts gL_law_X5_count rfl rfl rfl (by decide +kernel) ⟨Nat.le_of_ble_eq_true rfl, Nat.le_of_ble_eq_true rfl⟩) hKW hP [0, 1, 2, 3, 4, 5, 6, 7, 8, 9, 10, 11, 12, 13, 14, 15, 16, 17, 18, 19, 20, 21, 22, 23, 24, 25, 26, 27, 28, 29, 30, 31, 32, 33, 34, 35, 36, 37, 38, 39, 40, 41, 42, 43, 44, 45, 46, 47, 48, 49, 50, 51, 52, 53, 54, 55] rfl (va_recv hK hP (ci := 5) (q0 := 0) rfl rfl) rfl hl.1 rfl (lv_room (Nat.le_of_ble_eq_true rfl)) dL_law_191 ⟨Nat.le_of_ble_eq_true rfl, Nat.le_of_ble_eq_true rfl⟩ (fun r134 q135 => ?_)
                obtain ⟨q135, nb136⟩ := q135
                refine lv_as q135.symm ?_
                refine lv_istore (lv' := [(9, .int r132), (8, .int r127), (7, .int r122), (6, .int r104), (5, .int r102), (0, .ref b), (1, .ref (aF 0)), (2, .int x2), (4, .int x4)]) hx hb dL_law_194 hl (by decide) rfl (fun ls hl => ?_)
                refine lv_aload_n hx hb dL_law_196 rfl (lv_at hl 6 rfl) ?_
                refine lv_bipush (v := 10) hx hb dL_law_197 (by decide) ?_
                obtain ⟨r137, h138, hf⟩ := bnd_el hf
                refine rdV (As := [.int 10]) (rest := []) ⟨hx, hb, hml, hown, hts⟩ (c_X5_count l g aF aN aA aW aP aQ aO aH aB _ _ _ _ _ _ _ _ _ _ h138) (cwV 1 hts gL_law_X5_count rfl rfl rfl (by decide +kernel) ⟨Nat.le_of_ble_eq_true rfl, Nat.le_of_ble_eq_true rfl⟩) hKW hP [0, 1, 2, 3, 4, 5, 6, 7, 8, 9, 10, 11, 12, 13, 14, 15, 16, 17, 18, 19, 20, 21, 22, 23, 24, 25, 26, 27, 28, 29, 30, 31, 32, 33, 34, 35, 36, 37, 38, 39, 40, 41, 42, 43, 44, 45, 46, 47, 48, 49, 50, 51, 52, 53, 54, 55] rfl (va_recv hK hP (ci := 5) (q0 := 0) rfl rfl) rfl hl.1 rfl (lv_room (Nat.le_of_ble_eq_true rfl)) dL_law_199 ⟨Nat.le_of_ble_eq_true rfl, Nat.le_of_ble_eq_true rfl⟩ (fun r139 q140 => ?_)
                obtain ⟨q140, nb141⟩ := q140
                refine lv_as q140.symm ?_
                refine lv_istore (lv' := [(10, .int r137), (9, .int r132), (8, .int r127), (7, .int r122), (6, .int r104), (5, .int r102), (0, .ref b), (1, .ref (aF 0)), (2, .int x2), (4, .int x4)]) hx hb dL_law_202 hl (by decide) rfl (fun ls hl => ?_)
                refine lv_aload_n hx hb dL_law_204 rfl (lv_at hl 7 rfl) ?_
                obtain ⟨u146, h145, hf⟩ := bnd_el hf
                refine wr_i (rest := []) (wc := (pF g aF (aW 0) (aN 0) (aA 0) (aH 0) (aO 0) XF ++ (pS g aN (aW 0) XN ++ (pW g aW (aP 0) (aQ 0) XW ++ (pP g aP XP ++ (pH g aH aB (aW 0) XH)))))) (wc' := (pF g aF (aW 0) (aN 0) (aA 0) (aH 0) (aO 0) XF ++ (pS g aN (aW 0) u146.2.1 ++ (pW g aW (aP 0) (aQ 0) XW ++ (pP g aP XP ++ (pH g aH aB (aW 0) u146.2.2)))))) (ws2 := (pF g aF (aW 0) (aN 0) (aA 0) (aH 0) (aO 0) XF ++ (pS g aN (aW 0) u146.2.1 ++ (pW g aW (aP 0) (aQ 0) XW ++ (pP g aP XP ++ (pP g aQ XQ ++ (pO g aO XO ++ (pH g aH aB (aW 0) u146.2.2)))))))) hP hD hS hA [0, 1, 2, 3, 4, 5, 6, 7, 8, 9, 10, 11, 12, 13, 14, 15, 16, 17, 18, 19, 26, 27, 28, 29, 30, 31, 32, 33, 34, 35, 36, 37, 38, 39, 40, 41, 42, 43, 44, 45, 46, 47, 48, 49, 50, 51, 52, 53, 54, 55] rfl rfl (by rfl) (rnV (As := []) ⟨hx, hb, hml, hown, hts⟩ (c_X5_back l g aF aN aA aW aP aQ aO aH aB _ _ _ _ _ _ _ _ _ _ h145) (cwV 0 hts gL_law_X5_back rfl rfl rfl (by decide +kernel) ⟨Nat.le_of_ble_eq_true rfl, Nat.le_of_ble_eq_true rfl⟩) hKW hP hD [0, 1, 2, 3, 4, 5, 6, 7, 8, 9, 10, 11, 12, 13, 14, 15, 16, 17, 18, 19, 26, 27, 28, 29, 30, 31, 32, 33, 34, 35, 36, 37, 38, 39, 40, 41, 42, 43, 44, 45, 46, 47, 48, 49, 50, 51, 52, 53, 54, 55] (by decide) rfl (va_recv hK hP (ci := 5) (q0 := 0) rfl rfl) rfl hl.1 rfl (lv_room (Nat.le_of_ble_eq_true rfl)) dL_law_205 ⟨Nat.le_of_ble_eq_true rfl, Nat.le_of_ble_eq_true rfl⟩) (fun r147 H locs q148 hP hD hS => ?_)
                obtain ⟨q148, nb149⟩ := q148
                refine lv_as q148.symm ?_
                obtain ⟨v150, e151, hf⟩ := sl_el hf
                refine lv_as e151 ?_
                refine lv_istore (lv' := [(11, .int v150), (10, .int r137), (9, .int r132), (8, .int r127), (7, .int r122), (6, .int r104), (5, .int r102), (0, .ref b), (1, .ref (aF 0)), (2, .int x2), (4, .int x4)]) hx hb dL_law_208 hl (by decide) rfl (fun ls hl => ?_)
                refine lv_iload hx hb dL_law_210 (lv_at hl 0 rfl) ?_
                refine lv_bipush (v := (-2)) hx hb dL_law_212 (by decide) ?_
                obtain ⟨j329, ej329, hf⟩ := sl_el hf
                have J_329 : ∀ (x4 k0 : Int32) (XF : DM) (XN : DM) (XW : DM) (XP : DM) (XQ : DM) (XH : HD) (H : Heap) (locs : List Loc) (ls : Array Slot), va_P g.1 vwCl (pF g aF (aW 0) (aN 0) (aA 0) (aH 0) (aO 0) XF ++ (pS g aN (aW 0) XN ++ (pW g aW (aP 0) (aQ 0) XW ++ (pP g aP XP ++ (pP g aQ XQ ++ (pO g aO XO ++ (pH g aH aB (aW 0) XH))))))) H → va_D A (pF g aF (aW 0) (aN 0) (aA 0) (aH 0) (aO 0) XF ++ (pS g aN (aW 0) XN ++ (pW g aW (aP 0) (aQ 0) XW ++ (pP g aP XP ++ (pP g aQ XQ ++ (pO g aO XO ++ (pH g aH aB (aW 0) XH))))))) → va_S A s.heap H locs → lv_has ls 18 [(0, .ref b), (1, .ref (aF 0)), (4, .int x4)] → j329 x4 k0 XF XN XW XP XQ XH = some 1 → W p l e room_1 s m #[Value.ref b] below meth c H locs 63 4939 (lw_Z below #[Value.ref b] s) (F0 m 329 ls [.int k0]) := by
                  intro x4 k0 XF XN XW XP XQ XH H locs ls hP hD hS hl hf
                  rw [ej329] at hf
                  refine lv_istore_n (lv' := [(2, .int k0), (0, .ref b), (1, .ref (aF 0)), (4, .int x4)]) hx hb dL_law_329 rfl hl (by decide) rfl (fun ls hl => ?_)
                  refine lv_goto (tgt := 564) hx hb dL_law_330 (by decide) ?_
                  exact J_564 k0 x4 XF XN XW XP XQ XH _ _ ls hP hD hS (lv_sub hl [1, 2, 0, 3] rfl) hf
                refine lv_icmp_ne (tgt := 235) hx hb dL_law_214 (by decide) (fun c152 => ?_) (fun c152 => ?_)
                · have hf := ite_f hf c152
                  refine lv_aload_n hx hb dL_law_235 rfl (lv_at hl 8 rfl) ?_
                  refine lv_bipush (v := 10) hx hb dL_law_236 (by decide) ?_
                  obtain ⟨r153, h154, hf⟩ := bnd_el hf
                  refine rdV (As := [.int 10]) (rest := []) ⟨hx, hb, hml, hown, hts⟩ (c_X5_count l g aF aN aA aW aP aQ aO aH aB _ _ _ _ _ _ _ _ _ _ h154) (cwV 1 hts gL_law_X5_count rfl rfl rfl (by decide +kernel) ⟨Nat.le_of_ble_eq_true rfl, Nat.le_of_ble_eq_true rfl⟩) hKW hP [0, 1, 2, 3, 4, 5, 6, 7, 8, 9, 10, 11, 12, 13, 14, 15, 16, 17, 18, 19, 20, 21, 22, 23, 24, 25, 26, 27, 28, 29, 30, 31, 32, 33, 34, 35, 36, 37, 38, 39, 40, 41, 42, 43, 44, 45, 46, 47, 48, 49, 50, 51, 52, 53, 54, 55] rfl (va_recv hK hP (ci := 5) (q0 := 0) rfl rfl) rfl hl.1 rfl (lv_room (Nat.le_of_ble_eq_true rfl)) dL_law_238 ⟨Nat.le_of_ble_eq_true rfl, Nat.le_of_ble_eq_true rfl⟩ (fun r155 q156 => ?_)
                  obtain ⟨q156, nb157⟩ := q156
                  refine lv_as q156.symm ?_
                  refine lv_iload hx hb dL_law_241 (lv_at hl 1 rfl) ?_
                  refine lv_iconst (v := 1) hx hb dL_law_243 (by decide) ?_
                  refine lv_iadd hx hb dL_law_244 ?_
                  obtain ⟨j328, ej328, hf⟩ := sl_el hf
                  have J_328 : ∀ (x4 : Int32) (XF : DM) (XN : DM) (XW : DM) (XP : DM) (XQ : DM) (XH : HD) (H : Heap) (locs : List Loc) (ls : Array Slot), va_P g.1 vwCl (pF g aF (aW 0) (aN 0) (aA 0) (aH 0) (aO 0) XF ++ (pS g aN (aW 0) XN ++ (pW g aW (aP 0) (aQ 0) XW ++ (pP g aP XP ++ (pP g aQ XQ ++ (pO g aO XO ++ (pH g aH aB (aW 0) XH))))))) H → va_D A (pF g aF (aW 0) (aN 0) (aA 0) (aH 0) (aO 0) XF ++ (pS g aN (aW 0) XN ++ (pW g aW (aP 0) (aQ 0) XW ++ (pP g aP XP ++ (pP g aQ XQ ++ (pO g aO XO ++ (pH g aH aB (aW 0) XH))))))) → va_S A s.heap H locs → lv_has ls 18 [(0, .ref b), (1, .ref (aF 0)), (4, .int x4)] → j328 x4 XF XN XW XP XQ XH = some 1 → W p l e room_1 s m #[Value.ref b] below meth c H locs 63 4939 (lw_Z below #[Value.ref b] s) (F0 m 328 ls []) := by
                    intro x4 XF XN XW XP XQ XH H locs ls hP hD hS hl hf
                    rw [ej328] at hf
                    refine lv_iconst (v := 0) hx hb dL_law_328 (by decide) ?_
                    exact J_329 x4 0 XF XN XW XP XQ XH _ _ ls hP hD hS (lv_sub hl [0, 1, 2] rfl) hf
                  refine lv_icmp_ne (tgt := 328) hx hb dL_law_245 (by decide) (fun c158 => ?_) (fun c158 => ?_)
                  · have hf := ite_f hf c158
                    exact J_328 x4 XF u146.2.1 XW XP XQ u146.2.2 _ _ ls hP hD hS (lv_sub hl [7, 8, 10] rfl) hf
                  · have hf := ite_t hf c158
                    refine lv_iload hx hb dL_law_248 (lv_at hl 5 rfl) ?_
                    obtain ⟨j260, ej260, hf⟩ := sl_el hf
                    have J_260 : ∀ (x4 x7 x8 x9 x11 : Int32) (XF : DM) (XN : DM) (XW : DM) (XP : DM) (XQ : DM) (XH : HD) (H : Heap) (locs : List Loc) (ls : Array Slot), va_P g.1 vwCl (pF g aF (aW 0) (aN 0) (aA 0) (aH 0) (aO 0) XF ++ (pS g aN (aW 0) XN ++ (pW g aW (aP 0) (aQ 0) XW ++ (pP g aP XP ++ (pP g aQ XQ ++ (pO g aO XO ++ (pH g aH aB (aW 0) XH))))))) H → va_D A (pF g aF (aW 0) (aN 0) (aA 0) (aH 0) (aO 0) XF ++ (pS g aN (aW 0) XN ++ (pW g aW (aP 0) (aQ 0) XW ++ (pP g aP XP ++ (pP g aQ XQ ++ (pO g aO XO ++ (pH g aH aB (aW 0) XH))))))) → va_S A s.heap H locs → lv_has ls 18 [(0, .ref b), (1, .ref (aF 0)), (4, .int x4), (7, .int x7), (8, .int x8), (9, .int x9), (11, .int x11)] → j260 x4 x7 x8 x9 x11 XF XN XW XP XQ XH = some 1 → W p l e room_1 s m #[Value.ref b] below meth c H locs 63 4939 (lw_Z below #[Value.ref b] s) (F0 m 260 ls []) := by
                      intro x4 x7 x8 x9 x11 XF XN XW XP XQ XH H locs ls hP hD hS hl hf
                      rw [ej260] at hf
                      refine lv_aload_n hx hb dL_law_260 rfl (lv_at hl 1 rfl) ?_
                      refine lv_iconst (v := 5) hx hb dL_law_261 (by decide) ?_
                      obtain ⟨r159, h160, hf⟩ := bnd_el hf
                      refine rdV (As := [.int 5]) (rest := []) ⟨hx, hb, hml, hown, hts⟩ (c_X5_count l g aF aN aA aW aP aQ aO aH aB _ _ _ _ _ _ _ _ _ _ h160) (cwV 1 hts gL_law_X5_count rfl rfl rfl (by decide +kernel) ⟨Nat.le_of_ble_eq_true rfl, Nat.le_of_ble_eq_true rfl⟩) hKW hP [0, 1, 2, 3, 4, 5, 6, 7, 8, 9, 10, 11, 12, 13, 14, 15, 16, 17, 18, 19, 20, 21, 22, 23, 24, 25, 26, 27, 28, 29, 30, 31, 32, 33, 34, 35, 36, 37, 38, 39, 40, 41, 42, 43, 44, 45, 46, 47, 48, 49, 50, 51, 52, 53, 54, 55] rfl (va_recv hK hP (ci := 5) (q0 := 0) rfl rfl) rfl hl.1 rfl (lv_room (Nat.le_of_ble_eq_true rfl)) dL_law_262 ⟨Nat.le_of_ble_eq_true rfl, Nat.le_of_ble_eq_true rfl⟩ (fun r161 q162 => ?_)
                      obtain ⟨q162, nb163⟩ := q162
                      refine lv_as q162.symm ?_
                      refine lv_aload_n hx hb dL_law_265 rfl (lv_at hl 1 rfl) ?_
                      refine lv_iload hx hb dL_law_266 (lv_at hl 6 rfl) ?_
                      refine lv_bipush (v := 8) hx hb dL_law_268 (by decide) ?_
                      obtain ⟨r164, h165, hf⟩ := bnd_el hf
                      refine rdV (As := [.int x11, .int 8]) (rest := [.int r159]) ⟨hx, hb, hml, hown, hts⟩ (c_X5_word l g aF aN aA aW aP aQ aO aH aB _ _ _ _ _ _ _ _ h165) (cwV 2 hts gL_law_X5_word rfl rfl rfl (by decide +kernel) ⟨Nat.le_of_ble_eq_true rfl, Nat.le_of_ble_eq_true rfl⟩) hKW hP [0, 1, 2, 3, 4, 5, 6, 7, 8, 9, 10, 11, 12, 13, 14, 15, 16, 17, 18, 19, 20, 21, 22, 23] rfl (va_recv hK hP (ci := 5) (q0 := 0) rfl rfl) rfl hl.1 rfl (lv_room (Nat.le_of_ble_eq_true rfl)) dL_law_270 ⟨Nat.le_of_ble_eq_true rfl, Nat.le_of_ble_eq_true rfl⟩ (fun r166 q167 => ?_)
                      obtain ⟨q167, nb168⟩ := q167
                      refine lv_as q167.symm ?_
                      refine lv_icmp_ne (tgt := 328) hx hb dL_law_273 (by decide) (fun c169 => ?_) (fun c169 => ?_)
                      · have hf := ite_f hf c169
                        exact J_328 x4 XF XN XW XP XQ XH _ _ ls hP hD hS (lv_sub hl [0, 1, 2] rfl) hf
                      · have hf := ite_t hf c169
                        refine lv_aload_n hx hb dL_law_276 rfl (lv_at hl 1 rfl) ?_
                        refine lv_bipush (v := 30) hx hb dL_law_277 (by decide) ?_
                        obtain ⟨r170, h171, hf⟩ := bnd_el hf
                        refine rdV (As := [.int 30]) (rest := []) ⟨hx, hb, hml, hown, hts⟩ (c_X5_count l g aF aN aA aW aP aQ aO aH aB _ _ _ _ _ _ _ _ _ _ h171) (cwV 1 hts gL_law_X5_count rfl rfl rfl (by decide +kernel) ⟨Nat.le_of_ble_eq_true rfl, Nat.le_of_ble_eq_true rfl⟩) hKW hP [0, 1, 2, 3, 4, 5, 6, 7, 8, 9, 10, 11, 12, 13, 14, 15, 16, 17, 18, 19, 20, 21, 22, 23, 24, 25, 26, 27, 28, 29, 30, 31, 32, 33, 34, 35, 36, 37, 38, 39, 40, 41, 42, 43, 44, 45, 46, 47, 48, 49, 50, 51, 52, 53, 54, 55] rfl (va_recv hK hP (ci := 5) (q0 := 0) rfl rfl) rfl hl.1 rfl (lv_room (Nat.le_of_ble_eq_true rfl)) dL_law_279 ⟨Nat.le_of_ble_eq_true rfl, Nat.le_of_ble_eq_true rfl⟩ (fun r172 q173 => ?_)
                        obtain ⟨q173, nb174⟩ := q173
                        refine lv_as q173.symm ?_
                        refine lv_iload hx hb dL_law_282 (lv_at hl 3 rfl) ?_
                        refine lv_icmp_gt (tgt := 328) hx hb dL_law_284 (by decide) (fun c175 => ?_) (fun c175 => ?_)
                        · have hf := ite_t hf c175
                          exact J_328 x4 XF XN XW XP XQ XH _ _ ls hP hD hS (lv_sub hl [0, 1, 2] rfl) hf
                        · have hf := ite_f hf c175
                          refine lv_aload_n hx hb dL_law_287 rfl (lv_at hl 1 rfl) ?_
                          refine lv_bipush (v := 31) hx hb dL_law_288 (by decide) ?_
                          obtain ⟨r176, h177, hf⟩ := bnd_el hf
                          refine rdV (As := [.int 31]) (rest := []) ⟨hx, hb, hml, hown, hts⟩ (c_X5_count l g aF aN aA aW aP aQ aO aH aB _ _ _ _ _ _ _ _ _ _ h177) (cwV 1 hts gL_law_X5_count rfl rfl rfl (by decide +kernel) ⟨Nat.le_of_ble_eq_true rfl, Nat.le_of_ble_eq_true rfl⟩) hKW hP [0, 1, 2, 3, 4, 5, 6, 7, 8, 9, 10, 11, 12, 13, 14, 15, 16, 17, 18, 19, 20, 21, 22, 23, 24, 25, 26, 27, 28, 29, 30, 31, 32, 33, 34, 35, 36, 37, 38, 39, 40, 41, 42, 43, 44, 45, 46, 47, 48, 49, 50, 51, 52, 53, 54, 55] rfl (va_recv hK hP (ci := 5) (q0 := 0) rfl rfl) rfl hl.1 rfl (lv_room (Nat.le_of_ble_eq_true rfl)) dL_law_290 ⟨Nat.le_of_ble_eq_true rfl, Nat.le_of_ble_eq_true rfl⟩ (fun r178 q179 => ?_)
                          obtain ⟨q179, nb180⟩ := q179
                          refine lv_as q179.symm ?_
                          refine lv_iload hx hb dL_law_293 (lv_at hl 4 rfl) ?_
                          refine lv_icmp_gt (tgt := 328) hx hb dL_law_295 (by decide) (fun c181 => ?_) (fun c181 => ?_)
                          · have hf := ite_t hf c181
                            exact J_328 x4 XF XN XW XP XQ XH _ _ ls hP hD hS (lv_sub hl [0, 1, 2] rfl) hf
                          · have hf := ite_f hf c181
                            refine lv_aload_n hx hb dL_law_298 rfl (lv_at hl 1 rfl) ?_
                            refine lv_bipush (v := 32) hx hb dL_law_299 (by decide) ?_
                            obtain ⟨r182, h183, hf⟩ := bnd_el hf
                            refine rdV (As := [.int 32]) (rest := []) ⟨hx, hb, hml, hown, hts⟩ (c_X5_count l g aF aN aA aW aP aQ aO aH aB _ _ _ _ _ _ _ _ _ _ h183) (cwV 1 hts gL_law_X5_count rfl rfl rfl (by decide +kernel) ⟨Nat.le_of_ble_eq_true rfl, Nat.le_of_ble_eq_true rfl⟩) hKW hP [0, 1, 2, 3, 4, 5, 6, 7, 8, 9, 10, 11, 12, 13, 14, 15, 16, 17, 18, 19, 20, 21, 22, 23, 24, 25, 26, 27, 28, 29, 30, 31, 32, 33, 34, 35, 36, 37, 38, 39, 40, 41, 42, 43, 44, 45, 46, 47, 48, 49, 50, 51, 52, 53, 54, 55] rfl (va_recv hK hP (ci := 5) (q0 := 0) rfl rfl) rfl hl.1 rfl (lv_room (Nat.le_of_ble_eq_true rfl)) dL_law_301 ⟨Nat.le_of_ble_eq_true rfl, Nat.le_of_ble_eq_true rfl⟩ (fun r184 q185 => ?_)
                            obtain ⟨q185, nb186⟩ := q185
                            refine lv_as q185.symm ?_
                            refine lv_iload hx hb dL_law_304 (lv_at hl 5 rfl) ?_
                            refine lv_icmp_gt (tgt := 328) hx hb dL_law_306 (by decide) (fun c187 => ?_) (fun c187 => ?_)
                            · have hf := ite_t hf c187
                              exact J_328 x4 XF XN XW XP XQ XH _ _ ls hP hD hS (lv_sub hl [0, 1, 2] rfl) hf
                            · have hf := ite_f hf c187
                              refine lv_aload_n hx hb dL_law_309 rfl (lv_at hl 1 rfl) ?_
                              refine lv_aload_n hx hb dL_law_310 rfl (lv_at hl 1 rfl) ?_
                              refine lv_iload hx hb dL_law_311 (lv_at hl 6 rfl) ?_
                              refine lv_iconst (v := 5) hx hb dL_law_313 (by decide) ?_
                              obtain ⟨r188, h189, hf⟩ := bnd_el hf
                              refine rdV (As := [.int x11, .int 5]) (rest := [.ref (aF 0)]) ⟨hx, hb, hml, hown, hts⟩ (c_X5_word l g aF aN aA aW aP aQ aO aH aB _ _ _ _ _ _ _ _ h189) (cwV 2 hts gL_law_X5_word rfl rfl rfl (by decide +kernel) ⟨Nat.le_of_ble_eq_true rfl, Nat.le_of_ble_eq_true rfl⟩) hKW hP [0, 1, 2, 3, 4, 5, 6, 7, 8, 9, 10, 11, 12, 13, 14, 15, 16, 17, 18, 19, 20, 21, 22, 23] rfl (va_recv hK hP (ci := 5) (q0 := 0) rfl rfl) rfl hl.1 rfl (lv_room (Nat.le_of_ble_eq_true rfl)) dL_law_314 ⟨Nat.le_of_ble_eq_true rfl, Nat.le_of_ble_eq_true rfl⟩ (fun r190 q191 => ?_)
                              obtain ⟨q191, nb192⟩ := q191
                              refine lv_as q191.symm ?_
                              refine lv_iconst (v := 3) hx hb dL_law_317 (by decide) ?_
                              obtain ⟨r193, h194, hf⟩ := bnd_el hf
                              refine rdV (As := [.int r188, .int 3]) (rest := []) ⟨hx, hb, hml, hown, hts⟩ (c_X5_sentence l g aF aN aA aW aP aQ aO aH aB _ _ _ _ _ _ _ _ h194) (cwV 2 hts gL_law_X5_sentence rfl rfl rfl (by decide +kernel) ⟨Nat.le_of_ble_eq_true rfl, Nat.le_of_ble_eq_true rfl⟩) hKW hP [0, 1, 2, 3, 4, 5, 6, 7, 8, 9, 10, 11, 12, 13, 14, 15, 16, 17, 18, 19] rfl (va_recv hK hP (ci := 5) (q0 := 0) rfl rfl) rfl hl.1 rfl (lv_room (Nat.le_of_ble_eq_true rfl)) dL_law_318 ⟨Nat.le_of_ble_eq_true rfl, Nat.le_of_ble_eq_true rfl⟩ (fun r195 q196 => ?_)
                              obtain ⟨q196, nb197⟩ := q196
                              refine lv_as q196.symm ?_
                              refine lv_if_le (tgt := 328) hx hb dL_law_321 (by decide) (fun c198 => ?_) (fun c198 => ?_)
                              · have hf := ite_t hf c198
                                exact J_328 x4 XF XN XW XP XQ XH _ _ ls hP hD hS (lv_sub hl [0, 1, 2] rfl) hf
                              · have hf := ite_f hf c198
                                refine lv_iconst (v := 1) hx hb dL_law_324 (by decide) ?_
                                refine lv_goto (tgt := 329) hx hb dL_law_325 (by decide) ?_
                                exact J_329 x4 1 XF XN XW XP XQ XH _ _ ls hP hD hS (lv_sub hl [0, 1, 2] rfl) hf
                    refine lv_if_lt (tgt := 260) hx hb dL_law_250 (by decide) (fun c199 => ?_) (fun c199 => ?_)
                    · have hf := ite_t hf c199
                      exact J_260 x4 r122 r127 r132 v150 XF u146.2.1 XW XP XQ u146.2.2 _ _ ls hP hD hS (lv_sub hl [7, 8, 10, 4, 3, 2, 0] rfl) hf
                    · have hf := ite_f hf c199
                      refine lv_iload hx hb dL_law_253 (lv_at hl 0 rfl) ?_
                      refine lv_iload hx hb dL_law_255 (lv_at hl 5 rfl) ?_
                      refine lv_icmp_gt (tgt := 328) hx hb dL_law_257 (by decide) (fun c200 => ?_) (fun c200 => ?_)
                      · have hf := ite_t hf c200
                        exact J_328 x4 XF u146.2.1 XW XP XQ u146.2.2 _ _ ls hP hD hS (lv_sub hl [7, 8, 10] rfl) hf
                      · have hf := ite_f hf c200
                        exact J_260 x4 r122 r127 r132 v150 XF u146.2.1 XW XP XQ u146.2.2 _ _ ls hP hD hS (lv_sub hl [7, 8, 10, 4, 3, 2, 0] rfl) hf
                · have hf := ite_t hf c152
                  refine lv_aload_n hx hb dL_law_217 rfl (lv_at hl 8 rfl) ?_
                  refine lv_iconst (v := 0) hx hb dL_law_218 (by decide) ?_
                  obtain ⟨u204, h203, hf⟩ := bnd_el hf
                  refine wr_i (rest := []) (wc := (pF g aF (aW 0) (aN 0) (aA 0) (aH 0) (aO 0) XF ++ (pS g aN (aW 0) u146.2.1 ++ (pW g aW (aP 0) (aQ 0) XW)))) (wc' := (pF g aF (aW 0) (aN 0) (aA 0) (aH 0) (aO 0) u204.2 ++ (pS g aN (aW 0) u146.2.1 ++ (pW g aW (aP 0) (aQ 0) XW)))) (ws2 := (pF g aF (aW 0) (aN 0) (aA 0) (aH 0) (aO 0) u204.2 ++ (pS g aN (aW 0) u146.2.1 ++ (pW g aW (aP 0) (aQ 0) XW ++ (pP g aP XP ++ (pP g aQ XQ ++ (pO g aO XO ++ (pH g aH aB (aW 0) u146.2.2)))))))) hP hD hS hA [0, 1, 2, 3, 4, 5, 6, 7, 8, 9, 10, 11, 12, 13, 14, 15] rfl rfl (by rfl) (rnV (As := [.int 0]) ⟨hx, hb, hml, hown, hts⟩ (c_X5_longest l g aF aN aA aW aP aQ aO aH aB _ _ _ _ _ _ _ _ h203) (cwV 1 hts gL_law_X5_longest rfl rfl rfl (by decide +kernel) ⟨Nat.le_of_ble_eq_true rfl, Nat.le_of_ble_eq_true rfl⟩) hKW hP hD [0, 1, 2, 3, 4, 5, 6, 7, 8, 9, 10, 11, 12, 13, 14, 15] (by decide) rfl (va_recv hK hP (ci := 5) (q0 := 0) rfl rfl) rfl hl.1 rfl (lv_room (Nat.le_of_ble_eq_true rfl)) dL_law_219 ⟨Nat.le_of_ble_eq_true rfl, Nat.le_of_ble_eq_true rfl⟩) (fun r205 H locs q206 hP hD hS => ?_)
                  obtain ⟨q206, nb207⟩ := q206
                  refine lv_as q206.symm ?_
                  refine lv_bipush (v := (-4)) hx hb dL_law_222 (by decide) ?_
                  refine lv_icmp_ne (tgt := 231) hx hb dL_law_224 (by decide) (fun c208 => ?_) (fun c208 => ?_)
                  · have hf := ite_f hf c208
                    refine lv_iconst (v := 0) hx hb dL_law_231 (by decide) ?_
                    refine lv_goto (tgt := 329) hx hb dL_law_232 (by decide) ?_
                    exact J_329 x4 0 u204.2 u146.2.1 XW XP XQ u146.2.2 _ _ ls hP hD hS (lv_sub hl [7, 8, 10] rfl) hf
                  · have hf := ite_t hf c208
                    refine lv_iconst (v := 1) hx hb dL_law_227 (by decide) ?_
                    refine lv_goto (tgt := 329) hx hb dL_law_228 (by decide) ?_
                    exact J_329 x4 1 u204.2 u146.2.1 XW XP XQ u146.2.2 _ _ ls hP hD hS (lv_sub hl [7, 8, 10] rfl) hf
              have hf := ite_f hf c121
              have q209 := i32_nk (z := 0) (by decide) c121
              by_cases c210 : v109 = 1
              · have hf := ite_t hf c210
                refine lv_tableIn (tgt := 333) (off := 187) hx hb dL_law_146 (by rw [c210]; decide) (by rw [c210]; decide) (by rw [c210]; rfl) (by decide) ?_
                refine lv_aload_n hx hb dL_law_333 rfl (lv_at hl 3 rfl) ?_
                refine lv_bipush (v := 6) hx hb dL_law_334 (by decide) ?_
                obtain ⟨r211, h212, hf⟩ := bnd_el hf
                refine rdV (As := [.int 6]) (rest := []) ⟨hx, hb, hml, hown, hts⟩ (c_X5_count l g aF aN aA aW aP aQ aO aH aB _ _ _ _ _ _ _ _ _ _ h212) (cwV 1 hts gL_law_X5_count rfl rfl rfl (by decide +kernel) ⟨Nat.le_of_ble_eq_true rfl, Nat.le_of_ble_eq_true rfl⟩) hKW hP [0, 1, 2, 3, 4, 5, 6, 7, 8, 9, 10, 11, 12, 13, 14, 15, 16, 17, 18, 19, 20, 21, 22, 23, 24, 25, 26, 27, 28, 29, 30, 31, 32, 33, 34, 35, 36, 37, 38, 39, 40, 41, 42, 43, 44, 45, 46, 47, 48, 49, 50, 51, 52, 53, 54, 55] rfl (va_recv hK hP (ci := 5) (q0 := 0) rfl rfl) rfl hl.1 rfl (lv_room (Nat.le_of_ble_eq_true rfl)) dL_law_336 ⟨Nat.le_of_ble_eq_true rfl, Nat.le_of_ble_eq_true rfl⟩ (fun r213 q214 => ?_)
                obtain ⟨q214, nb215⟩ := q214
                refine lv_as q214.symm ?_
                refine lv_istore (lv' := [(12, .int r211), (6, .int r104), (5, .int r102), (0, .ref b), (1, .ref (aF 0)), (2, .int x2), (4, .int x4)]) hx hb dL_law_339 hl (by decide) rfl (fun ls hl => ?_)
                refine lv_aload_n hx hb dL_law_341 rfl (lv_at hl 4 rfl) ?_
                refine lv_iconst (v := 2) hx hb dL_law_342 (by decide) ?_
                obtain ⟨r216, h217, hf⟩ := bnd_el hf
                refine rdV (As := [.int 2]) (rest := []) ⟨hx, hb, hml, hown, hts⟩ (c_X5_count l g aF aN aA aW aP aQ aO aH aB _ _ _ _ _ _ _ _ _ _ h217) (cwV 1 hts gL_law_X5_count rfl rfl rfl (by decide +kernel) ⟨Nat.le_of_ble_eq_true rfl, Nat.le_of_ble_eq_true rfl⟩) hKW hP [0, 1, 2, 3, 4, 5, 6, 7, 8, 9, 10, 11, 12, 13, 14, 15, 16, 17, 18, 19, 20, 21, 22, 23, 24, 25, 26, 27, 28, 29, 30, 31, 32, 33, 34, 35, 36, 37, 38, 39, 40, 41, 42, 43, 44, 45, 46, 47, 48, 49, 50, 51, 52, 53, 54, 55] rfl (va_recv hK hP (ci := 5) (q0 := 0) rfl rfl) rfl hl.1 rfl (lv_room (Nat.le_of_ble_eq_true rfl)) dL_law_343 ⟨Nat.le_of_ble_eq_true rfl, Nat.le_of_ble_eq_true rfl⟩ (fun r218 q219 => ?_)
                obtain ⟨q219, nb220⟩ := q219
                refine lv_as q219.symm ?_
                obtain ⟨j364, ej364, hf⟩ := sl_el hf
                have J_364 : ∀ (x4 x5 x6 x12 k0 : Int32) (XF : DM) (XN : DM) (XW : DM) (XP : DM) (XQ : DM) (XH : HD) (H : Heap) (locs : List Loc) (ls : Array Slot), va_P g.1 vwCl (pF g aF (aW 0) (aN 0) (aA 0) (aH 0) (aO 0) XF ++ (pS g aN (aW 0) XN ++ (pW g aW (aP 0) (aQ 0) XW ++ (pP g aP XP ++ (pP g aQ XQ ++ (pO g aO XO ++ (pH g aH aB (aW 0) XH))))))) H → va_D A (pF g aF (aW 0) (aN 0) (aA 0) (aH 0) (aO 0) XF ++ (pS g aN (aW 0) XN ++ (pW g aW (aP 0) (aQ 0) XW ++ (pP g aP XP ++ (pP g aQ XQ ++ (pO g aO XO ++ (pH g aH aB (aW 0) XH))))))) → va_S A s.heap H locs → lv_has ls 18 [(0, .ref b), (1, .ref (aF 0)), (4, .int x4), (5, .int x5), (6, .int x6), (12, .int x12)] → j364 x4 x5 x6 x12 k0 XF XN XW XP XQ XH = some 1 → W p l e room_1 s m #[Value.ref b] below meth c H locs 63 4939 (lw_Z below #[Value.ref b] s) (F0 m 364 ls [.int k0]) := by
                  intro x4 x5 x6 x12 k0 XF XN XW XP XQ XH H locs ls hP hD hS hl hf
                  rw [ej364] at hf
                  refine lv_istore (lv' := [(13, .int k0), (0, .ref b), (1, .ref (aF 0)), (4, .int x4), (5, .int x5), (6, .int x6), (12, .int x12)]) hx hb dL_law_364 hl (by decide) rfl (fun ls hl => ?_)
                  refine lv_aload_n hx hb dL_law_366 rfl (lv_at hl 2 rfl) ?_
                  refine lv_iload hx hb dL_law_367 (lv_at hl 0 rfl) ?_
                  obtain ⟨u225, h224, hf⟩ := bnd_el hf
                  refine wr_i (rest := []) (wc := (pF g aF (aW 0) (aN 0) (aA 0) (aH 0) (aO 0) XF ++ (pS g aN (aW 0) XN ++ (pW g aW (aP 0) (aQ 0) XW ++ (pP g aP XP ++ (pH g aH aB (aW 0) XH)))))) (wc' := (pF g aF (aW 0) (aN 0) (aA 0) (aH 0) (aO 0) XF ++ (pS g aN (aW 0) u225.2.1 ++ (pW g aW (aP 0) (aQ 0) XW ++ (pP g aP XP ++ (pH g aH aB (aW 0) u225.2.2)))))) (ws2 := (pF g aF (aW 0) (aN 0) (aA 0) (aH 0) (aO 0) XF ++ (pS g aN (aW 0) u225.2.1 ++ (pW g aW (aP 0) (aQ 0) XW ++ (pP g aP XP ++ (pP g aQ XQ ++ (pO g aO XO ++ (pH g aH aB (aW 0) u225.2.2)))))))) hP hD hS hA [0, 1, 2, 3, 4, 5, 6, 7, 8, 9, 10, 11, 12, 13, 14, 15, 16, 17, 18, 19, 26, 27, 28, 29, 30, 31, 32, 33, 34, 35, 36, 37, 38, 39, 40, 41, 42, 43, 44, 45, 46, 47, 48, 49, 50, 51, 52, 53, 54, 55] rfl rfl (by rfl) (rnV (As := [.int k0]) ⟨hx, hb, hml, hown, hts⟩ (c_X5_jump l g aF aN aA aW aP aQ aO aH aB _ _ _ _ _ _ _ _ _ _ _ h224) (cwV 1 hts gL_law_X5_jump rfl rfl rfl (by decide +kernel) ⟨Nat.le_of_ble_eq_true rfl, Nat.le_of_ble_eq_true rfl⟩) hKW hP hD [0, 1, 2, 3, 4, 5, 6, 7, 8, 9, 10, 11, 12, 13, 14, 15, 16, 17, 18, 19, 26, 27, 28, 29, 30, 31, 32, 33, 34, 35, 36, 37, 38, 39, 40, 41, 42, 43, 44, 45, 46, 47, 48, 49, 50, 51, 52, 53, 54, 55] (by decide) rfl (va_recv hK hP (ci := 5) (q0 := 0) rfl rfl) rfl hl.1 rfl (lv_room (Nat.le_of_ble_eq_true rfl)) dL_law_369 ⟨Nat.le_of_ble_eq_true rfl, Nat.le_of_ble_eq_true rfl⟩) (fun r226 H locs q227 hP hD hS => ?_)
                  obtain ⟨q227, nb228⟩ := q227
                  refine lv_as q227.symm ?_
                  obtain ⟨v229, e230, hf⟩ := sl_el hf
                  refine lv_as e230 ?_
                  refine lv_istore (lv' := [(14, .int v229), (13, .int k0), (0, .ref b), (1, .ref (aF 0)), (4, .int x4), (5, .int x5), (6, .int x6), (12, .int x12)]) hx hb dL_law_372 hl (by decide) rfl (fun ls hl => ?_)
                  refine lv_iload hx hb dL_law_374 (lv_at hl 0 rfl) ?_
                  obtain ⟨j475, ej475, hf⟩ := sl_el hf
                  have J_475 : ∀ (x4 k0 : Int32) (XF : DM) (XN : DM) (XW : DM) (XP : DM) (XQ : DM) (XH : HD) (H : Heap) (locs : List Loc) (ls : Array Slot), va_P g.1 vwCl (pF g aF (aW 0) (aN 0) (aA 0) (aH 0) (aO 0) XF ++ (pS g aN (aW 0) XN ++ (pW g aW (aP 0) (aQ 0) XW ++ (pP g aP XP ++ (pP g aQ XQ ++ (pO g aO XO ++ (pH g aH aB (aW 0) XH))))))) H → va_D A (pF g aF (aW 0) (aN 0) (aA 0) (aH 0) (aO 0) XF ++ (pS g aN (aW 0) XN ++ (pW g aW (aP 0) (aQ 0) XW ++ (pP g aP XP ++ (pP g aQ XQ ++ (pO g aO XO ++ (pH g aH aB (aW 0) XH))))))) → va_S A s.heap H locs → lv_has ls 18 [(0, .ref b), (1, .ref (aF 0)), (4, .int x4)] → j475 x4 k0 XF XN XW XP XQ XH = some 1 → W p l e room_1 s m #[Value.ref b] below meth c H locs 63 4939 (lw_Z below #[Value.ref b] s) (F0 m 475 ls [.int k0]) := by
                    intro x4 k0 XF XN XW XP XQ XH H locs ls hP hD hS hl hf
                    rw [ej475] at hf
                    refine lv_istore_n (lv' := [(2, .int k0), (0, .ref b), (1, .ref (aF 0)), (4, .int x4)]) hx hb dL_law_475 rfl hl (by decide) rfl (fun ls hl => ?_)
                    refine lv_goto (tgt := 564) hx hb dL_law_476 (by decide) ?_
                    exact J_564 k0 x4 XF XN XW XP XQ XH _ _ ls hP hD hS (lv_sub hl [1, 2, 0, 3] rfl) hf
                  refine lv_if_ge (tgt := 398) hx hb dL_law_376 (by decide) (fun c231 => ?_) (fun c231 => ?_)
                  · have hf := ite_t hf c231
                    refine lv_aload_n hx hb dL_law_398 rfl (lv_at hl 3 rfl) ?_
                    refine lv_iload hx hb dL_law_399 (lv_at hl 0 rfl) ?_
                    refine lv_iconst (v := 5) hx hb dL_law_401 (by decide) ?_
                    obtain ⟨r232, h233, hf⟩ := bnd_el hf
                    refine rdV (As := [.int v229, .int 5]) (rest := []) ⟨hx, hb, hml, hown, hts⟩ (c_X5_word l g aF aN aA aW aP aQ aO aH aB _ _ _ _ _ _ _ _ h233) (cwV 2 hts gL_law_X5_word rfl rfl rfl (by decide +kernel) ⟨Nat.le_of_ble_eq_true rfl, Nat.le_of_ble_eq_true rfl⟩) hKW hP [0, 1, 2, 3, 4, 5, 6, 7, 8, 9, 10, 11, 12, 13, 14, 15, 16, 17, 18, 19, 20, 21, 22, 23] rfl (va_recv hK hP (ci := 5) (q0 := 0) rfl rfl) rfl hl.1 rfl (lv_room (Nat.le_of_ble_eq_true rfl)) dL_law_402 ⟨Nat.le_of_ble_eq_true rfl, Nat.le_of_ble_eq_true rfl⟩ (fun r234 q235 => ?_)
                    obtain ⟨q235, nb236⟩ := q235
                    refine lv_as q235.symm ?_
                    refine lv_iload hx hb dL_law_405 (lv_at hl 1 rfl) ?_
                    obtain ⟨j474, ej474, hf⟩ := sl_el hf
                    have J_474 : ∀ (x4 : Int32) (XF : DM) (XN : DM) (XW : DM) (XP : DM) (XQ : DM) (XH : HD) (H : Heap) (locs : List Loc) (ls : Array Slot), va_P g.1 vwCl (pF g aF (aW 0) (aN 0) (aA 0) (aH 0) (aO 0) XF ++ (pS g aN (aW 0) XN ++ (pW g aW (aP 0) (aQ 0) XW ++ (pP g aP XP ++ (pP g aQ XQ ++ (pO g aO XO ++ (pH g aH aB (aW 0) XH))))))) H → va_D A (pF g aF (aW 0) (aN 0) (aA 0) (aH 0) (aO 0) XF ++ (pS g aN (aW 0) XN ++ (pW g aW (aP 0) (aQ 0) XW ++ (pP g aP XP ++ (pP g aQ XQ ++ (pO g aO XO ++ (pH g aH aB (aW 0) XH))))))) → va_S A s.heap H locs → lv_has ls 18 [(0, .ref b), (1, .ref (aF 0)), (4, .int x4)] → j474 x4 XF XN XW XP XQ XH = some 1 → W p l e room_1 s m #[Value.ref b] below meth c H locs 63 4939 (lw_Z below #[Value.ref b] s) (F0 m 474 ls []) := by
                      intro x4 XF XN XW XP XQ XH H locs ls hP hD hS hl hf
                      rw [ej474] at hf
                      refine lv_iconst (v := 0) hx hb dL_law_474 (by decide) ?_
                      exact J_475 x4 0 XF XN XW XP XQ XH _ _ ls hP hD hS (lv_sub hl [0, 1, 2] rfl) hf
                    refine lv_icmp_ne (tgt := 474) hx hb dL_law_407 (by decide) (fun c237 => ?_) (fun c237 => ?_)
                    · have hf := ite_f hf c237
                      exact J_474 x4 XF u225.2.1 XW XP XQ u225.2.2 _ _ ls hP hD hS (lv_sub hl [2, 3, 4] rfl) hf
                    · have hf := ite_t hf c237
                      refine lv_aload_n hx hb dL_law_410 rfl (lv_at hl 3 rfl) ?_
                      refine lv_bipush (v := 6) hx hb dL_law_411 (by decide) ?_
                      obtain ⟨r238, h239, hf⟩ := bnd_el hf
                      refine rdV (As := [.int 6]) (rest := []) ⟨hx, hb, hml, hown, hts⟩ (c_X5_count l g aF aN aA aW aP aQ aO aH aB _ _ _ _ _ _ _ _ _ _ h239) (cwV 1 hts gL_law_X5_count rfl rfl rfl (by decide +kernel) ⟨Nat.le_of_ble_eq_true rfl, Nat.le_of_ble_eq_true rfl⟩) hKW hP [0, 1, 2, 3, 4, 5, 6, 7, 8, 9, 10, 11, 12, 13, 14, 15, 16, 17, 18, 19, 20, 21, 22, 23, 24, 25, 26, 27, 28, 29, 30, 31, 32, 33, 34, 35, 36, 37, 38, 39, 40, 41, 42, 43, 44, 45, 46, 47, 48, 49, 50, 51, 52, 53, 54, 55] rfl (va_recv hK hP (ci := 5) (q0 := 0) rfl rfl) rfl hl.1 rfl (lv_room (Nat.le_of_ble_eq_true rfl)) dL_law_413 ⟨Nat.le_of_ble_eq_true rfl, Nat.le_of_ble_eq_true rfl⟩ (fun r240 q241 => ?_)
                      obtain ⟨q241, nb242⟩ := q241
                      refine lv_as q241.symm ?_
                      refine lv_iload hx hb dL_law_416 (lv_at hl 7 rfl) ?_
                      refine lv_iconst (v := 5) hx hb dL_law_418 (by decide) ?_
                      obtain ⟨j430, ej430, hf⟩ := sl_el hf
                      have J_430 : ∀ (x4 x5 x6 x12 k0 k1 : Int32) (XF : DM) (XN : DM) (XW : DM) (XP : DM) (XQ : DM) (XH : HD) (H : Heap) (locs : List Loc) (ls : Array Slot), va_P g.1 vwCl (pF g aF (aW 0) (aN 0) (aA 0) (aH 0) (aO 0) XF ++ (pS g aN (aW 0) XN ++ (pW g aW (aP 0) (aQ 0) XW ++ (pP g aP XP ++ (pP g aQ XQ ++ (pO g aO XO ++ (pH g aH aB (aW 0) XH))))))) H → va_D A (pF g aF (aW 0) (aN 0) (aA 0) (aH 0) (aO 0) XF ++ (pS g aN (aW 0) XN ++ (pW g aW (aP 0) (aQ 0) XW ++ (pP g aP XP ++ (pP g aQ XQ ++ (pO g aO XO ++ (pH g aH aB (aW 0) XH))))))) → va_S A s.heap H locs → lv_has ls 18 [(0, .ref b), (1, .ref (aF 0)), (4, .int x4), (5, .int x5), (6, .int x6), (12, .int x12)] → j430 x4 x5 x6 x12 k0 k1 XF XN XW XP XQ XH = some 1 → W p l e room_1 s m #[Value.ref b] below meth c H locs 63 4939 (lw_Z below #[Value.ref b] s) (F0 m 430 ls [.int k1, .int k0]) := by
                        intro x4 x5 x6 x12 k0 k1 XF XN XW XP XQ XH H locs ls hP hD hS hl hf
                        rw [ej430] at hf
                        refine lv_icmp_ne (tgt := 474) hx hb dL_law_430 (by decide) (fun c243 => ?_) (fun c243 => ?_)
                        · have hf := ite_f hf c243
                          exact J_474 x4 XF XN XW XP XQ XH _ _ ls hP hD hS (lv_sub hl [0, 1, 2] rfl) hf
                        · have hf := ite_t hf c243
                          refine lv_iload hx hb dL_law_433 (lv_at hl 3 rfl) ?_
                          refine lv_iconst (v := 4) hx hb dL_law_435 (by decide) ?_
                          obtain ⟨z246, v244, e245, hf⟩ := rmA_el hf
                          refine lv_irem hx hb dL_law_436 z246 ?_
                          refine lv_as e245 ?_
                          obtain ⟨j470, ej470, hf⟩ := sl_el hf
                          have J_470 : ∀ (x4 : Int32) (XF : DM) (XN : DM) (XW : DM) (XP : DM) (XQ : DM) (XH : HD) (H : Heap) (locs : List Loc) (ls : Array Slot), va_P g.1 vwCl (pF g aF (aW 0) (aN 0) (aA 0) (aH 0) (aO 0) XF ++ (pS g aN (aW 0) XN ++ (pW g aW (aP 0) (aQ 0) XW ++ (pP g aP XP ++ (pP g aQ XQ ++ (pO g aO XO ++ (pH g aH aB (aW 0) XH))))))) H → va_D A (pF g aF (aW 0) (aN 0) (aA 0) (aH 0) (aO 0) XF ++ (pS g aN (aW 0) XN ++ (pW g aW (aP 0) (aQ 0) XW ++ (pP g aP XP ++ (pP g aQ XQ ++ (pO g aO XO ++ (pH g aH aB (aW 0) XH))))))) → va_S A s.heap H locs → lv_has ls 18 [(0, .ref b), (1, .ref (aF 0)), (4, .int x4)] → j470 x4 XF XN XW XP XQ XH = some 1 → W p l e room_1 s m #[Value.ref b] below meth c H locs 63 4939 (lw_Z below #[Value.ref b] s) (F0 m 470 ls []) := by
                            intro x4 XF XN XW XP XQ XH H locs ls hP hD hS hl hf
                            rw [ej470] at hf
                            refine lv_iconst (v := 1) hx hb dL_law_470 (by decide) ?_
                            refine lv_goto (tgt := 475) hx hb dL_law_471 (by decide) ?_
                            exact J_475 x4 1 XF XN XW XP XQ XH _ _ ls hP hD hS (lv_sub hl [0, 1, 2] rfl) hf
                          refine lv_if_gt (tgt := 470) hx hb dL_law_437 (by decide) (fun c247 => ?_) (fun c247 => ?_)
                          · have hf := ite_t hf c247
                            exact J_470 x4 XF XN XW XP XQ XH _ _ ls hP hD hS (lv_sub hl [0, 1, 2] rfl) hf
                          · have hf := ite_f hf c247
                            refine lv_aload_n hx hb dL_law_440 rfl (lv_at hl 1 rfl) ?_
                            obtain ⟨u252, h251, hf⟩ := bnd_el hf
                            refine wr_i (rest := []) (wc := (pF g aF (aW 0) (aN 0) (aA 0) (aH 0) (aO 0) XF ++ (pS g aN (aW 0) XN ++ (pW g aW (aP 0) (aQ 0) XW ++ (pH g aH aB (aW 0) XH))))) (wc' := (pF g aF (aW 0) (aN 0) (aA 0) (aH 0) (aO 0) XF ++ (pS g aN (aW 0) u252.2.1 ++ (pW g aW (aP 0) (aQ 0) XW ++ (pH g aH aB (aW 0) u252.2.2))))) (ws2 := (pF g aF (aW 0) (aN 0) (aA 0) (aH 0) (aO 0) XF ++ (pS g aN (aW 0) u252.2.1 ++ (pW g aW (aP 0) (aQ 0) XW ++ (pP g aP XP ++ (pP g aQ XQ ++ (pO g aO XO ++ (pH g aH aB (aW 0) u252.2.2)))))))) hP hD hS hA [0, 1, 2, 3, 4, 5, 6, 7, 8, 9, 10, 11, 12, 13, 14, 15, 26, 27, 28, 29, 30, 31, 32, 33, 34, 35, 36, 37, 38, 39, 40, 41, 42, 43, 44, 45, 46, 47, 48, 49, 50, 51, 52, 53, 54, 55] rfl rfl (by rfl) (rnV (As := []) ⟨hx, hb, hml, hown, hts⟩ (c_X5_goBack l g aF aN aA aW aP aQ aO aH aB _ _ _ _ _ _ _ _ _ h251) (cwV 0 hts gL_law_X5_goBack rfl rfl rfl (by decide +kernel) ⟨Nat.le_of_ble_eq_true rfl, Nat.le_of_ble_eq_true rfl⟩) hKW hP hD [0, 1, 2, 3, 4, 5, 6, 7, 8, 9, 10, 11, 12, 13, 14, 15, 26, 27, 28, 29, 30, 31, 32, 33, 34, 35, 36, 37, 38, 39, 40, 41, 42, 43, 44, 45, 46, 47, 48, 49, 50, 51, 52, 53, 54, 55] (by decide) rfl (va_recv hK hP (ci := 5) (q0 := 0) rfl rfl) rfl hl.1 rfl (lv_room (Nat.le_of_ble_eq_true rfl)) dL_law_441 ⟨Nat.le_of_ble_eq_true rfl, Nat.le_of_ble_eq_true rfl⟩) (fun r253 H locs q254 hP hD hS => ?_)
                            obtain ⟨q254, nb255⟩ := q254
                            refine lv_as q254.symm ?_
                            refine lv_iload hx hb dL_law_444 (lv_at hl 4 rfl) ?_
                            refine lv_icmp_ne (tgt := 474) hx hb dL_law_446 (by decide) (fun c256 => ?_) (fun c256 => ?_)
                            · have hf := ite_f hf c256
                              exact J_474 x4 XF u252.2.1 XW XP XQ u252.2.2 _ _ ls hP hD hS (lv_sub hl [0, 1, 2] rfl) hf
                            · have hf := ite_t hf c256
                              refine lv_aload_n hx hb dL_law_449 rfl (lv_at hl 1 rfl) ?_
                              refine lv_bipush (v := 6) hx hb dL_law_450 (by decide) ?_
                              obtain ⟨r257, h258, hf⟩ := bnd_el hf
                              refine rdV (As := [.int 6]) (rest := []) ⟨hx, hb, hml, hown, hts⟩ (c_X5_count l g aF aN aA aW aP aQ aO aH aB _ _ _ _ _ _ _ _ _ _ h258) (cwV 1 hts gL_law_X5_count rfl rfl rfl (by decide +kernel) ⟨Nat.le_of_ble_eq_true rfl, Nat.le_of_ble_eq_true rfl⟩) hKW hP [0, 1, 2, 3, 4, 5, 6, 7, 8, 9, 10, 11, 12, 13, 14, 15, 16, 17, 18, 19, 20, 21, 22, 23, 24, 25, 26, 27, 28, 29, 30, 31, 32, 33, 34, 35, 36, 37, 38, 39, 40, 41, 42, 43, 44, 45, 46, 47, 48, 49, 50, 51, 52, 53, 54, 55] rfl (va_recv hK hP (ci := 5) (q0 := 0) rfl rfl) rfl hl.1 rfl (lv_room (Nat.le_of_ble_eq_true rfl)) dL_law_452 ⟨Nat.le_of_ble_eq_true rfl, Nat.le_of_ble_eq_true rfl⟩ (fun r259 q260 => ?_)
                              obtain ⟨q260, nb261⟩ := q260
                              refine lv_as q260.symm ?_
                              refine lv_iload hx hb dL_law_455 (lv_at hl 5 rfl) ?_
                              refine lv_iconst (v := 5) hx hb dL_law_457 (by decide) ?_
                              obtain ⟨j467, ej467, hf⟩ := sl_el hf
                              have J_467 : ∀ (x4 k0 k1 : Int32) (XF : DM) (XN : DM) (XW : DM) (XP : DM) (XQ : DM) (XH : HD) (H : Heap) (locs : List Loc) (ls : Array Slot), va_P g.1 vwCl (pF g aF (aW 0) (aN 0) (aA 0) (aH 0) (aO 0) XF ++ (pS g aN (aW 0) XN ++ (pW g aW (aP 0) (aQ 0) XW ++ (pP g aP XP ++ (pP g aQ XQ ++ (pO g aO XO ++ (pH g aH aB (aW 0) XH))))))) H → va_D A (pF g aF (aW 0) (aN 0) (aA 0) (aH 0) (aO 0) XF ++ (pS g aN (aW 0) XN ++ (pW g aW (aP 0) (aQ 0) XW ++ (pP g aP XP ++ (pP g aQ XQ ++ (pO g aO XO ++ (pH g aH aB (aW 0) XH))))))) → va_S A s.heap H locs → lv_has ls 18 [(0, .ref b), (1, .ref (aF 0)), (4, .int x4)] → j467 x4 k0 k1 XF XN XW XP XQ XH = some 1 → W p l e room_1 s m #[Value.ref b] below meth c H locs 63 4939 (lw_Z below #[Value.ref b] s) (F0 m 467 ls [.int k1, .int k0]) := by
                                intro x4 k0 k1 XF XN XW XP XQ XH H locs ls hP hD hS hl hf
                                rw [ej467] at hf
                                refine lv_icmp_ne (tgt := 474) hx hb dL_law_467 (by decide) (fun c262 => ?_) (fun c262 => ?_)
                                · have hf := ite_f hf c262
                                  exact J_474 x4 XF XN XW XP XQ XH _ _ ls hP hD hS (lv_sub hl [0, 1, 2] rfl) hf
                                · have hf := ite_t hf c262
                                  exact J_470 x4 XF XN XW XP XQ XH _ _ ls hP hD hS (lv_sub hl [0, 1, 2] rfl) hf
                              refine lv_icmp_ge (tgt := 466) hx hb dL_law_458 (by decide) (fun c263 => ?_) (fun c263 => ?_)
                              · have hf := ite_t hf c263
                                refine lv_iconst (v := 4) hx hb dL_law_466 (by decide) ?_
                                exact J_467 x4 r257 4 XF u252.2.1 XW XP XQ u252.2.2 _ _ ls hP hD hS (lv_sub hl [0, 1, 2] rfl) hf
                              · have hf := ite_f hf c263
                                refine lv_iload hx hb dL_law_461 (lv_at hl 5 rfl) ?_
                                refine lv_goto (tgt := 467) hx hb dL_law_463 (by decide) ?_
                                exact J_467 x4 r257 x12 XF u252.2.1 XW XP XQ u252.2.2 _ _ ls hP hD hS (lv_sub hl [0, 1, 2] rfl) hf
                      refine lv_icmp_ge (tgt := 429) hx hb dL_law_419 (by decide) (fun c264 => ?_) (fun c264 => ?_)
                      · have hf := ite_t hf c264
                        refine lv_iconst (v := 5) hx hb dL_law_429 (by decide) ?_
                        exact J_430 x4 x5 x6 x12 r238 5 XF u225.2.1 XW XP XQ u225.2.2 _ _ ls hP hD hS (lv_sub hl [2, 3, 4, 5, 6, 7] rfl) hf
                      · have hf := ite_f hf c264
                        refine lv_iload hx hb dL_law_422 (lv_at hl 7 rfl) ?_
                        refine lv_iconst (v := 1) hx hb dL_law_424 (by decide) ?_
                        refine lv_iadd hx hb dL_law_425 ?_
                        refine lv_goto (tgt := 430) hx hb dL_law_426 (by decide) ?_
                        exact J_430 x4 x5 x6 x12 r238 (x12 + 1) XF u225.2.1 XW XP XQ u225.2.2 _ _ ls hP hD hS (lv_sub hl [2, 3, 4, 5, 6, 7] rfl) hf
                  · have hf := ite_f hf c231
                    refine lv_aload_n hx hb dL_law_379 rfl (lv_at hl 3 rfl) ?_
                    refine lv_bipush (v := 6) hx hb dL_law_380 (by decide) ?_
                    obtain ⟨r265, h266, hf⟩ := bnd_el hf
                    refine rdV (As := [.int 6]) (rest := []) ⟨hx, hb, hml, hown, hts⟩ (c_X5_count l g aF aN aA aW aP aQ aO aH aB _ _ _ _ _ _ _ _ _ _ h266) (cwV 1 hts gL_law_X5_count rfl rfl rfl (by decide +kernel) ⟨Nat.le_of_ble_eq_true rfl, Nat.le_of_ble_eq_true rfl⟩) hKW hP [0, 1, 2, 3, 4, 5, 6, 7, 8, 9, 10, 11, 12, 13, 14, 15, 16, 17, 18, 19, 20, 21, 22, 23, 24, 25, 26, 27, 28, 29, 30, 31, 32, 33, 34, 35, 36, 37, 38, 39, 40, 41, 42, 43, 44, 45, 46, 47, 48, 49, 50, 51, 52, 53, 54, 55] rfl (va_recv hK hP (ci := 5) (q0 := 0) rfl rfl) rfl hl.1 rfl (lv_room (Nat.le_of_ble_eq_true rfl)) dL_law_382 ⟨Nat.le_of_ble_eq_true rfl, Nat.le_of_ble_eq_true rfl⟩ (fun r267 q268 => ?_)
                    obtain ⟨q268, nb269⟩ := q268
                    refine lv_as q268.symm ?_
                    refine lv_iload hx hb dL_law_385 (lv_at hl 7 rfl) ?_
                    refine lv_icmp_ne (tgt := 394) hx hb dL_law_387 (by decide) (fun c270 => ?_) (fun c270 => ?_)
                    · have hf := ite_f hf c270
                      refine lv_iconst (v := 0) hx hb dL_law_394 (by decide) ?_
                      refine lv_goto (tgt := 475) hx hb dL_law_395 (by decide) ?_
                      exact J_475 x4 0 XF u225.2.1 XW XP XQ u225.2.2 _ _ ls hP hD hS (lv_sub hl [2, 3, 4] rfl) hf
                    · have hf := ite_t hf c270
                      refine lv_iconst (v := 1) hx hb dL_law_390 (by decide) ?_
                      refine lv_goto (tgt := 475) hx hb dL_law_391 (by decide) ?_
                      exact J_475 x4 1 XF u225.2.1 XW XP XQ u225.2.2 _ _ ls hP hD hS (lv_sub hl [2, 3, 4] rfl) hf
                refine lv_if_ne (tgt := 353) hx hb dL_law_346 (by decide) (fun c271 => ?_) (fun c271 => ?_)
                · have hf := ite_f hf c271
                  refine lv_iload hx hb dL_law_353 (lv_at hl 2 rfl) ?_
                  refine lv_bipush (v := 6) hx hb dL_law_355 (by decide) ?_
                  obtain ⟨z274, v272, e273, hf⟩ := dvA_el hf
                  refine lv_idiv hx hb dL_law_357 z274 ?_
                  refine lv_as e273 ?_
                  refine lv_aload_n hx hb dL_law_358 rfl (lv_at hl 4 rfl) ?_
                  refine lv_iconst (v := 2) hx hb dL_law_359 (by decide) ?_
                  obtain ⟨r275, h276, hf⟩ := bnd_el hf
                  refine rdV (As := [.int 2]) (rest := [.int v272]) ⟨hx, hb, hml, hown, hts⟩ (c_X5_count l g aF aN aA aW aP aQ aO aH aB _ _ _ _ _ _ _ _ _ _ h276) (cwV 1 hts gL_law_X5_count rfl rfl rfl (by decide +kernel) ⟨Nat.le_of_ble_eq_true rfl, Nat.le_of_ble_eq_true rfl⟩) hKW hP [0, 1, 2, 3, 4, 5, 6, 7, 8, 9, 10, 11, 12, 13, 14, 15, 16, 17, 18, 19, 20, 21, 22, 23, 24, 25, 26, 27, 28, 29, 30, 31, 32, 33, 34, 35, 36, 37, 38, 39, 40, 41, 42, 43, 44, 45, 46, 47, 48, 49, 50, 51, 52, 53, 54, 55] rfl (va_recv hK hP (ci := 5) (q0 := 0) rfl rfl) rfl hl.1 rfl (lv_room (Nat.le_of_ble_eq_true rfl)) dL_law_360 ⟨Nat.le_of_ble_eq_true rfl, Nat.le_of_ble_eq_true rfl⟩ (fun r277 q278 => ?_)
                  obtain ⟨q278, nb279⟩ := q278
                  refine lv_as q278.symm ?_
                  obtain ⟨z282, v280, e281, hf⟩ := rmA_el hf
                  refine lv_irem hx hb dL_law_363 z282 ?_
                  refine lv_as e281 ?_
                  exact J_364 x4 r102 r104 r211 v280 XF XN XW XP XQ XH _ _ ls hP hD hS (lv_sub hl [3, 4, 6, 2, 1, 0] rfl) hf
                · have hf := ite_t hf c271
                  refine lv_iconst (v := 0) hx hb dL_law_349 (by decide) ?_
                  refine lv_goto (tgt := 364) hx hb dL_law_350 (by decide) ?_
                  exact J_364 x4 r102 r104 r211 0 XF XN XW XP XQ XH _ _ ls hP hD hS (lv_sub hl [3, 4, 6, 2, 1, 0] rfl) hf
              have hf := ite_f hf c210
              have q283 := i32_nk (z := 1) (by decide) c210
              by_cases c284 : v109 = 2
              · have hf := ite_t hf c284
                refine lv_tableIn (tgt := 479) (off := 333) hx hb dL_law_146 (by rw [c284]; decide) (by rw [c284]; decide) (by rw [c284]; rfl) (by decide) ?_
                refine lv_iload hx hb dL_law_479 (lv_at hl 1 rfl) ?_
                refine lv_bipush (v := 6) hx hb dL_law_481 (by decide) ?_
                obtain ⟨z287, v285, e286, hf⟩ := dvA_el hf
                refine lv_idiv hx hb dL_law_483 z287 ?_
                refine lv_as e286 ?_
                refine lv_iconst (v := 3) hx hb dL_law_484 (by decide) ?_
                obtain ⟨z290, v288, e289, hf⟩ := rmA_el hf
                refine lv_irem hx hb dL_law_485 z290 ?_
                refine lv_as e289 ?_
                refine lv_istore (lv' := [(15, .int v288), (6, .int r104), (5, .int r102), (0, .ref b), (1, .ref (aF 0)), (2, .int x2), (4, .int x4)]) hx hb dL_law_486 hl (by decide) rfl (fun ls hl => ?_)
                refine lv_aload_n hx hb dL_law_488 rfl (lv_at hl 4 rfl) ?_
                refine lv_bipush (v := 30) hx hb dL_law_489 (by decide) ?_
                refine lv_iload hx hb dL_law_491 (lv_at hl 0 rfl) ?_
                refine lv_iadd hx hb dL_law_493 ?_
                obtain ⟨r291, h292, hf⟩ := bnd_el hf
                refine rdV (As := [.int (30 + v288)]) (rest := []) ⟨hx, hb, hml, hown, hts⟩ (c_X5_count l g aF aN aA aW aP aQ aO aH aB _ _ _ _ _ _ _ _ _ _ h292) (cwV 1 hts gL_law_X5_count rfl rfl rfl (by decide +kernel) ⟨Nat.le_of_ble_eq_true rfl, Nat.le_of_ble_eq_true rfl⟩) hKW hP [0, 1, 2, 3, 4, 5, 6, 7, 8, 9, 10, 11, 12, 13, 14, 15, 16, 17, 18, 19, 20, 21, 22, 23, 24, 25, 26, 27, 28, 29, 30, 31, 32, 33, 34, 35, 36, 37, 38, 39, 40, 41, 42, 43, 44, 45, 46, 47, 48, 49, 50, 51, 52, 53, 54, 55] rfl (va_recv hK hP (ci := 5) (q0 := 0) rfl rfl) rfl hl.1 rfl (lv_room (Nat.le_of_ble_eq_true rfl)) dL_law_494 ⟨Nat.le_of_ble_eq_true rfl, Nat.le_of_ble_eq_true rfl⟩ (fun r293 q294 => ?_)
                obtain ⟨q294, nb295⟩ := q294
                refine lv_as q294.symm ?_
                refine lv_istore (lv' := [(16, .int r291), (15, .int v288), (6, .int r104), (5, .int r102), (0, .ref b), (1, .ref (aF 0)), (2, .int x2), (4, .int x4)]) hx hb dL_law_497 hl (by decide) rfl (fun ls hl => ?_)
                refine lv_aload_n hx hb dL_law_499 rfl (lv_at hl 5 rfl) ?_
                refine lv_iload hx hb dL_law_500 (lv_at hl 1 rfl) ?_
                refine lv_bipush (v := 50) hx hb dL_law_502 (by decide) ?_
                refine lv_iload hx hb dL_law_504 (lv_at hl 3 rfl) ?_
                refine lv_bipush (v := 18) hx hb dL_law_506 (by decide) ?_
                obtain ⟨z298, v296, e297, hf⟩ := dvA_el hf
                refine lv_idiv hx hb dL_law_508 z298 ?_
                refine lv_as e297 ?_
                refine lv_sipush (v := 351) hx hb dL_law_509 (by decide) ?_
                obtain ⟨z301, v299, e300, hf⟩ := rmA_el hf
                refine lv_irem hx hb dL_law_512 z301 ?_
                refine lv_as e300 ?_
                refine lv_iadd hx hb dL_law_513 ?_
                obtain ⟨u306, h305, hf⟩ := bnd_el hf
                refine wr_i (rest := []) (wc := (pF g aF (aW 0) (aN 0) (aA 0) (aH 0) (aO 0) XF ++ (pS g aN (aW 0) XN ++ (pH g aH aB (aW 0) XH)))) (wc' := (pF g aF (aW 0) (aN 0) (aA 0) (aH 0) (aO 0) XF ++ (pS g aN (aW 0) u306.2.1 ++ (pH g aH aB (aW 0) u306.2.2)))) (ws2 := (pF g aF (aW 0) (aN 0) (aA 0) (aH 0) (aO 0) XF ++ (pS g aN (aW 0) u306.2.1 ++ (pW g aW (aP 0) (aQ 0) XW ++ (pP g aP XP ++ (pP g aQ XQ ++ (pO g aO XO ++ (pH g aH aB (aW 0) u306.2.2)))))))) hP hD hS hA [0, 1, 2, 3, 4, 5, 6, 7, 8, 26, 27, 28, 29, 30, 31, 32, 33, 34, 35, 36, 37, 38, 39, 40, 41, 42, 43, 44, 45, 46, 47, 48, 49, 50, 51, 52, 53, 54, 55] rfl rfl (by rfl) (rnV (As := [.int v288, .int (50 + v299)]) ⟨hx, hb, hml, hown, hts⟩ (c_X5_speed l g aF aN aA aW aP aQ aO aH aB _ _ _ _ _ _ _ _ _ h305) (cwV 2 hts gL_law_X5_speed rfl rfl rfl (by decide +kernel) ⟨Nat.le_of_ble_eq_true rfl, Nat.le_of_ble_eq_true rfl⟩) hKW hP hD [0, 1, 2, 3, 4, 5, 6, 7, 8, 26, 27, 28, 29, 30, 31, 32, 33, 34, 35, 36, 37, 38, 39, 40, 41, 42, 43, 44, 45, 46, 47, 48, 49, 50, 51, 52, 53, 54, 55] (by decide) rfl (va_recv hK hP (ci := 5) (q0 := 0) rfl rfl) rfl hl.1 rfl (lv_room (Nat.le_of_ble_eq_true rfl)) dL_law_514 ⟨Nat.le_of_ble_eq_true rfl, Nat.le_of_ble_eq_true rfl⟩) (fun r307 H locs q308 hP hD hS => ?_)
                obtain ⟨q308, nb309⟩ := q308
                refine lv_as q308.symm ?_
                refine lv_iload hx hb dL_law_517 (lv_at hl 0 rfl) ?_
                obtain ⟨j527, ej527, hf⟩ := sl_el hf
                have J_527 : ∀ (x4 k0 : Int32) (XF : DM) (XN : DM) (XW : DM) (XP : DM) (XQ : DM) (XH : HD) (H : Heap) (locs : List Loc) (ls : Array Slot), va_P g.1 vwCl (pF g aF (aW 0) (aN 0) (aA 0) (aH 0) (aO 0) XF ++ (pS g aN (aW 0) XN ++ (pW g aW (aP 0) (aQ 0) XW ++ (pP g aP XP ++ (pP g aQ XQ ++ (pO g aO XO ++ (pH g aH aB (aW 0) XH))))))) H → va_D A (pF g aF (aW 0) (aN 0) (aA 0) (aH 0) (aO 0) XF ++ (pS g aN (aW 0) XN ++ (pW g aW (aP 0) (aQ 0) XW ++ (pP g aP XP ++ (pP g aQ XQ ++ (pO g aO XO ++ (pH g aH aB (aW 0) XH))))))) → va_S A s.heap H locs → lv_has ls 18 [(0, .ref b), (1, .ref (aF 0)), (4, .int x4)] → j527 x4 k0 XF XN XW XP XQ XH = some 1 → W p l e room_1 s m #[Value.ref b] below meth c H locs 63 4939 (lw_Z below #[Value.ref b] s) (F0 m 527 ls [.int k0]) := by
                  intro x4 k0 XF XN XW XP XQ XH H locs ls hP hD hS hl hf
                  rw [ej527] at hf
                  refine lv_istore_n (lv' := [(2, .int k0), (0, .ref b), (1, .ref (aF 0)), (4, .int x4)]) hx hb dL_law_527 rfl hl (by decide) rfl (fun ls hl => ?_)
                  refine lv_goto (tgt := 564) hx hb dL_law_528 (by decide) ?_
                  exact J_564 k0 x4 XF XN XW XP XQ XH _ _ ls hP hD hS (lv_sub hl [1, 2, 0, 3] rfl) hf
                refine lv_icmp_ne (tgt := 526) hx hb dL_law_519 (by decide) (fun c310 => ?_) (fun c310 => ?_)
                · have hf := ite_f hf c310
                  refine lv_iconst (v := 0) hx hb dL_law_526 (by decide) ?_
                  exact J_527 x4 0 XF u306.2.1 XW XP XQ u306.2.2 _ _ ls hP hD hS (lv_sub hl [4, 5, 7] rfl) hf
                · have hf := ite_t hf c310
                  refine lv_iconst (v := 1) hx hb dL_law_522 (by decide) ?_
                  refine lv_goto (tgt := 527) hx hb dL_law_523 (by decide) ?_
                  exact J_527 x4 1 XF u306.2.1 XW XP XQ u306.2.2 _ _ ls hP hD hS (lv_sub hl [4, 5, 7] rfl) hf
              have hf := ite_f hf c284
              have q311 := i32_nk (z := 2) (by decide) c284
              refine lv_tableOut (tgt := 531) hx hb dL_law_146 (by omega) (by decide) ?_
              refine lv_iconst (v := 2) hx hb dL_law_531 (by decide) ?_
              refine lv_iload hx hb dL_law_532 (lv_at hl 1 rfl) ?_
              refine lv_bipush (v := 6) hx hb dL_law_534 (by decide) ?_
              obtain ⟨z314, v312, e313, hf⟩ := dvA_el hf
              refine lv_idiv hx hb dL_law_536 z314 ?_
              refine lv_as e313 ?_
              refine lv_sipush (v := 200) hx hb dL_law_537 (by decide) ?_
              obtain ⟨z317, v315, e316, hf⟩ := rmA_el hf
              refine lv_irem hx hb dL_law_540 z317 ?_
              refine lv_as e316 ?_
              refine lv_iadd hx hb dL_law_541 ?_
              obtain ⟨v318, e319, hf⟩ := sl_el hf
              refine lv_as e319 ?_
              refine lv_istore (lv' := [(17, .int v318), (6, .int r104), (5, .int r102), (0, .ref b), (1, .ref (aF 0)), (2, .int x2), (4, .int x4)]) hx hb dL_law_542 hl (by decide) rfl (fun ls hl => ?_)
              refine lv_aload_n hx hb dL_law_544 rfl (lv_at hl 4 rfl) ?_
              refine lv_iload hx hb dL_law_545 (lv_at hl 0 rfl) ?_
              refine lv_iconst (v := 1) hx hb dL_law_547 (by decide) ?_
              refine lv_iload hx hb dL_law_548 (lv_at hl 2 rfl) ?_
              refine lv_sipush (v := 1200) hx hb dL_law_550 (by decide) ?_
              obtain ⟨z322, v320, e321, hf⟩ := dvA_el hf
              refine lv_idiv hx hb dL_law_553 z322 ?_
              refine lv_as e321 ?_
              refine lv_iload hx hb dL_law_554 (lv_at hl 0 rfl) ?_
              refine lv_iconst (v := 1) hx hb dL_law_556 (by decide) ?_
              refine lv_isub hx hb dL_law_557 ?_
              obtain ⟨z325, v323, e324, hf⟩ := rmA_el hf
              refine lv_irem hx hb dL_law_558 z325 ?_
              refine lv_as e324 ?_
              refine lv_iadd hx hb dL_law_559 ?_
              obtain ⟨u333, h332, hf⟩ := bnd_el hf
              refine wr_i (rest := []) (wc := (pF g aF (aW 0) (aN 0) (aA 0) (aH 0) (aO 0) XF ++ (pS g aN (aW 0) XN ++ (pW g aW (aP 0) (aQ 0) XW ++ (pP g aP XP ++ (pP g aQ XQ ++ (pO g aO XO ++ (pH g aH aB (aW 0) XH)))))))) (wc' := (pF g aF (aW 0) (aN 0) (aA 0) (aH 0) (aO 0) XF ++ (pS g aN (aW 0) u333.2.1 ++ (pW g aW (aP 0) (aQ 0) u333.2.2.1 ++ (pP g aP u333.2.2.2.1 ++ (pP g aQ u333.2.2.2.2.1 ++ (pO g aO XO ++ (pH g aH aB (aW 0) u333.2.2.2.2.2)))))))) (ws2 := (pF g aF (aW 0) (aN 0) (aA 0) (aH 0) (aO 0) XF ++ (pS g aN (aW 0) u333.2.1 ++ (pW g aW (aP 0) (aQ 0) u333.2.2.1 ++ (pP g aP u333.2.2.2.1 ++ (pP g aQ u333.2.2.2.2.1 ++ (pO g aO XO ++ (pH g aH aB (aW 0) u333.2.2.2.2.2)))))))) hP hD hS hA [0, 1, 2, 3, 4, 5, 6, 7, 8, 9, 10, 11, 12, 13, 14, 15, 16, 17, 18, 19, 20, 21, 22, 23, 24, 25, 26, 27, 28, 29, 30, 31, 32, 33, 34, 35, 36, 37, 38, 39, 40, 41, 42, 43, 44, 45, 46, 47, 48, 49, 50, 51, 52, 53, 54, 55] rfl rfl (by rfl) (rnS (As := [.ref (aF 0), .int v318, .int (1 + v323)]) ⟨hx, hb, hml, hown, hts⟩ (c_L_parted l g aF aN aA aW aP aQ aO aH aB _ _ _ _ _ _ _ _ _ _ _ _ _ _ _ _ _ h332) (va_cwS 3 hts gL_law_L_parted rfl rfl rfl (by decide +kernel) ⟨Nat.le_of_ble_eq_true rfl, Nat.le_of_ble_eq_true rfl⟩) hKW hP hD [0, 1, 2, 3, 4, 5, 6, 7, 8, 9, 10, 11, 12, 13, 14, 15, 16, 17, 18, 19, 20, 21, 22, 23, 24, 25, 26, 27, 28, 29, 30, 31, 32, 33, 34, 35, 36, 37, 38, 39, 40, 41, 42, 43, 44, 45, 46, 47, 48, 49, 50, 51, 52, 53, 54, 55] (by decide) rfl rfl hl.1 rfl (lv_room (Nat.le_of_ble_eq_true rfl)) dL_law_560 ⟨Nat.le_of_ble_eq_true rfl, Nat.le_of_ble_eq_true rfl⟩) (fun r334 H locs q335 hP hD hS => ?_)
              obtain ⟨q335, nb336⟩ := q335
              refine lv_as q335.symm ?_
              rw [q335] at nb336
              obtain ⟨v337, e338, hf⟩ := sl_el hf
              refine lv_as e338 ?_
              refine lv_istore_n (lv' := [(2, .int v337), (17, .int v318), (6, .int r104), (5, .int r102), (0, .ref b), (1, .ref (aF 0)), (4, .int x4)]) hx hb dL_law_563 rfl hl (by decide) rfl (fun ls hl => ?_)
              exact J_564 v337 x4 XF u333.2.1 u333.2.2.1 u333.2.2.2.1 u333.2.2.2.2.1 u333.2.2.2.2.2 _ _ ls hP hD hS (lv_sub hl [4, 5, 0, 6] rfl) hf
      exact L_112 n k0 0 XF XN XW XP XQ XH _ _ ls hP hD hS (lv_sub hl [2, 3, 1, 0] rfl) hf
    obtain ⟨j107, ej107, hf⟩ := sl_el hf
    have J_107 : ∀ (XF : DM) (XN : DM) (XW : DM) (XP : DM) (XQ : DM) (XH : HD) (H : Heap) (locs : List Loc) (ls : Array Slot), va_P g.1 vwCl (pF g aF (aW 0) (aN 0) (aA 0) (aH 0) (aO 0) XF ++ (pS g aN (aW 0) XN ++ (pW g aW (aP 0) (aQ 0) XW ++ (pP g aP XP ++ (pP g aQ XQ ++ (pO g aO XO ++ (pH g aH aB (aW 0) XH))))))) H → va_D A (pF g aF (aW 0) (aN 0) (aA 0) (aH 0) (aO 0) XF ++ (pS g aN (aW 0) XN ++ (pW g aW (aP 0) (aQ 0) XW ++ (pP g aP XP ++ (pP g aQ XQ ++ (pO g aO XO ++ (pH g aH aB (aW 0) XH))))))) → va_S A s.heap H locs → lv_has ls 18 [(0, .ref b), (1, .ref (aF 0))] → j107 XF XN XW XP XQ XH = some 1 → W p l e room_1 s m #[Value.ref b] below meth c H locs 63 4939 (lw_Z below #[Value.ref b] s) (F0 m 107 ls []) := by
      intro XF XN XW XP XQ XH H locs ls hP hD hS hl hf
      rw [ej107] at hf
      refine lv_iconst (v := 0) hx hb dL_law_107 (by decide) ?_
      exact J_108 0 XF XN XW XP XQ XH _ _ ls hP hD hS (lv_sub hl [0, 1] rfl) hf
    refine lv_if_eq (tgt := 107) hx hb dL_law_74 (by decide) (fun c339 => ?_) (fun c339 => ?_)
    · have hf := ite_t hf c339
      exact J_107 XF XN XW XP XQ XH _ _ ls hP hD hS (lv_sub hl [0, 1] rfl) hf
    · have hf := ite_f hf c339
      refine lv_aload_n hx hb dL_law_77 rfl (lv_at hl 1 rfl) ?_
      obtain ⟨r340, h341, hf⟩ := bnd_el hf
      refine rdS (As := [.ref (aF 0)]) (rest := []) ⟨hx, hb, hml, hown, hts⟩ (c_L_holds l g aF aN aA aW aP aQ aO aH aB _ _ _ _ _ _ _ _ _ h341) (va_cwS 1 hts gL_law_L_holds rfl rfl rfl (by decide +kernel) ⟨Nat.le_of_ble_eq_true rfl, Nat.le_of_ble_eq_true rfl⟩) hKW hP [0, 1, 2, 3, 4, 5, 6, 7, 8, 9, 10, 11, 12, 13, 14, 15, 16, 17, 18, 19, 20, 21, 22, 23, 24, 25, 26, 27, 28, 29, 30, 31, 32, 33, 34, 35, 36, 37, 38, 39, 40, 41, 42, 43, 44, 45, 46, 47, 48, 49, 50, 51, 52, 53, 54, 55] rfl rfl hl.1 rfl (lv_room (Nat.le_of_ble_eq_true rfl)) dL_law_78 ⟨Nat.le_of_ble_eq_true rfl, Nat.le_of_ble_eq_true rfl⟩ (fun r342 q343 => ?_)
      obtain ⟨q343, nb344⟩ := q343
      refine lv_as q343.symm ?_
      rw [q343] at nb344
      refine lv_if_eq (tgt := 107) hx hb dL_law_81 (by decide) (fun c345 => ?_) (fun c345 => ?_)
      · have hf := ite_t hf c345
        exact J_107 XF XN XW XP XQ XH _ _ ls hP hD hS (lv_sub hl [0, 1] rfl) hf
      · have hf := ite_f hf c345
        refine lv_aload_n hx hb dL_law_84 rfl (lv_at hl 1 rfl) ?_
        refine lv_iconst (v := 5) hx hb dL_law_85 (by decide) ?_
        refine lv_aload_n hx hb dL_law_86 rfl (lv_at hl 0 rfl) ?_
        refine lv_bipush (v := 91) hx hb dL_law_87 (by decide) ?_
        obtain ⟨r346, h347, hf⟩ := bnd_el hf
        refine rdSX (As := [.ref b, .int 91]) (rest := [.int 5, .ref (aF 0)]) ⟨hx, hb, hml, hown, hts⟩ (c_L_cell l g b L xs 91 _ h347) (va_cwS 2 hts gL_law_L_cell rfl rfl rfl (by decide +kernel) ⟨Nat.le_of_ble_eq_true rfl, Nat.le_of_ble_eq_true rfl⟩) hKW (hX.kept (hS.2.1 b hbl hbA)) rfl hl.1 rfl (lv_room (Nat.le_of_ble_eq_true rfl)) dL_law_89 ⟨Nat.le_of_ble_eq_true rfl, Nat.le_of_ble_eq_true rfl⟩ (fun _ => ?_)
        refine lv_bipush (v := 51) hx hb dL_law_92 (by decide) ?_
        obtain ⟨z350, v348, e349, hf⟩ := rmA_el hf
        refine lv_irem hx hb dL_law_94 z350 ?_
        refine lv_as e349 ?_
        obtain ⟨u355, h354, hf⟩ := bnd_el hf
        refine wr_i (rest := []) (wc := (pF g aF (aW 0) (aN 0) (aA 0) (aH 0) (aO 0) XF ++ (pS g aN (aW 0) XN ++ (pH g aH aB (aW 0) XH)))) (wc' := (pF g aF (aW 0) (aN 0) (aA 0) (aH 0) (aO 0) XF ++ (pS g aN (aW 0) u355.2.1 ++ (pH g aH aB (aW 0) u355.2.2)))) (ws2 := (pF g aF (aW 0) (aN 0) (aA 0) (aH 0) (aO 0) XF ++ (pS g aN (aW 0) u355.2.1 ++ (pW g aW (aP 0) (aQ 0) XW ++ (pP g aP XP ++ (pP g aQ XQ ++ (pO g aO XO ++ (pH g aH aB (aW 0) u355.2.2)))))))) hP hD hS hA [0, 1, 2, 3, 4, 5, 6, 7, 8, 26, 27, 28, 29, 30, 31, 32, 33, 34, 35, 36, 37, 38, 39, 40, 41, 42, 43, 44, 45, 46, 47, 48, 49, 50, 51, 52, 53, 54, 55] rfl rfl (by rfl) (rnVE (As := [.int 5, .int v348]) (E := fun U => STA (va_A ((pF g aF (aW 0) (aN 0) (aA 0) (aH 0) (aO 0) XF ++ (pS g aN (aW 0) XN ++ (pH g aH aB (aW 0) XH)))) H.size) tL tH U) (fun a U gf mk h => STA.calling a U gf mk h) ⟨hx, hb, hml, hown, hts⟩ (c_X5_set l g aF aN aA aW aP aQ aO aH aB _ tL tH _ _ _ _ _ _ _ _ h354) (cwV 2 hts gL_law_X5_set rfl rfl rfl (by decide +kernel) ⟨Nat.le_of_ble_eq_true rfl, Nat.le_of_ble_eq_true rfl⟩) hKW hP hD [0, 1, 2, 3, 4, 5, 6, 7, 8, 26, 27, 28, 29, 30, 31, 32, 33, 34, 35, 36, 37, 38, 39, 40, 41, 42, 43, 44, 45, 46, 47, 48, 49, 50, 51, 52, 53, 54, 55] (by decide) rfl (hST.at hS (va_free hD hS hA [0, 1, 2, 3, 4, 5, 6, 7, 8, 26, 27, 28, 29, 30, 31, 32, 33, 34, 35, 36, 37, 38, 39, 40, 41, 42, 43, 44, 45, 46, 47, 48, 49, 50, 51, 52, 53, 54, 55] (wc := ((pF g aF (aW 0) (aN 0) (aA 0) (aH 0) (aO 0) XF ++ (pS g aN (aW 0) XN ++ (pH g aH aB (aW 0) XH))))) rfl)) (va_recv hK hP (ci := 5) (q0 := 0) rfl rfl) rfl hl.1 rfl (lv_room (Nat.le_of_ble_eq_true rfl)) dL_law_95 ⟨Nat.le_of_ble_eq_true rfl, Nat.le_of_ble_eq_true rfl⟩) (fun r356 H locs q357 hP hD hS => ?_)
        obtain ⟨q357, nb358⟩ := q357
        refine lv_as q357.symm ?_
        refine lv_bipush (v := 10) hx hb dL_law_98 (by decide) ?_
        refine lv_icmp_ne (tgt := 107) hx hb dL_law_100 (by decide) (fun c359 => ?_) (fun c359 => ?_)
        · have hf := ite_f hf c359
          exact J_107 XF u355.2.1 XW XP XQ u355.2.2 _ _ ls hP hD hS (lv_sub hl [0, 1] rfl) hf
        · have hf := ite_t hf c359
          refine lv_iconst (v := 1) hx hb dL_law_103 (by decide) ?_
          refine lv_goto (tgt := 108) hx hb dL_law_104 (by decide) ?_
          exact J_108 1 XF u355.2.1 XW XP XQ u355.2.2 _ _ ls hP hD hS (lv_sub hl [0, 1] rfl) hf
  have L_28 : ∀ fu : Nat, ∀ (x2 x3 x4 : Int32) (XF : DM) (XN : DM) (XW : DM) (XP : DM) (XQ : DM) (XH : HD) (H : Heap) (locs : List Loc) (ls : Array Slot), va_P g.1 vwCl (pF g aF (aW 0) (aN 0) (aA 0) (aH 0) (aO 0) XF ++ (pS g aN (aW 0) XN ++ (pW g aW (aP 0) (aQ 0) XW ++ (pP g aP XP ++ (pP g aQ XQ ++ (pO g aO XO ++ (pH g aH aB (aW 0) XH))))))) H → va_D A (pF g aF (aW 0) (aN 0) (aA 0) (aH 0) (aO 0) XF ++ (pS g aN (aW 0) XN ++ (pW g aW (aP 0) (aQ 0) XW ++ (pP g aP XP ++ (pP g aQ XQ ++ (pO g aO XO ++ (pH g aH aB (aW 0) XH))))))) → va_S A s.heap H locs → lv_has ls 18 [(0, .ref b), (1, .ref (aF 0)), (2, .int x2), (3, .int x3), (4, .int x4)] → fL_law_L28 n L xs XO j73 fu x2 x3 x4 XF XN XW XP XQ XH = some 1 → W p l e room_1 s m #[Value.ref b] below meth c H locs 63 4939 (lw_Z below #[Value.ref b] s) (F0 m 28 ls []) := by
    intro fu
    induction fu with
    | zero => intros; rename_i hf; rw [fL_law_L28] at hf; cases hf
    | succ fu ih =>
      intro x2 x3 x4 XF XN XW XP XQ XH H locs ls hP hD hS hl hf
      rw [fL_law_L28] at hf
      refine lv_iload hx hb dL_law_28 (lv_at hl 4 rfl) ?_
      refine lv_iload_n hx hb dL_law_30 rfl (lv_at hl 3 rfl) ?_
      refine lv_icmp_ge (tgt := 73) hx hb dL_law_31 (by decide) (fun c360 => ?_) (fun c360 => ?_)
      · have hf := ite_t hf c360
        exact J_73 x2 XF XN XW XP XQ XH _ _ ls hP hD hS (lv_sub hl [0, 1, 2] rfl) hf
      · have hf := ite_f hf c360
        refine lv_iload_n hx hb dL_law_34 rfl (lv_at hl 2 rfl) ?_
        refine lv_if_eq (tgt := 73) hx hb dL_law_35 (by decide) (fun c361 => ?_) (fun c361 => ?_)
        · have hf := ite_t hf c361
          exact J_73 x2 XF XN XW XP XQ XH _ _ ls hP hD hS (lv_sub hl [0, 1, 2] rfl) hf
        · have hf := ite_f hf c361
          refine lv_aload_n hx hb dL_law_38 rfl (lv_at hl 1 rfl) ?_
          refine lv_aload_n hx hb dL_law_39 rfl (lv_at hl 0 rfl) ?_
          refine lv_iconst (v := 1) hx hb dL_law_40 (by decide) ?_
          refine lv_iload hx hb dL_law_41 (lv_at hl 4 rfl) ?_
          refine lv_iadd hx hb dL_law_43 ?_
          obtain ⟨r362, h363, hf⟩ := bnd_el hf
          refine rdSX (As := [.ref b, .int (1 + x4)]) (rest := [.ref (aF 0)]) ⟨hx, hb, hml, hown, hts⟩ (c_L_cell l g b L xs (1 + x4) _ h363) (va_cwS 2 hts gL_law_L_cell rfl rfl rfl (by decide +kernel) ⟨Nat.le_of_ble_eq_true rfl, Nat.le_of_ble_eq_true rfl⟩) hKW (hX.kept (hS.2.1 b hbl hbA)) rfl hl.1 rfl (lv_room (Nat.le_of_ble_eq_true rfl)) dL_law_44 ⟨Nat.le_of_ble_eq_true rfl, Nat.le_of_ble_eq_true rfl⟩ (fun _ => ?_)
          obtain ⟨r364, h365, hf⟩ := bnd_el hf
          refine rdS (As := [.int r362]) (rest := [.ref (aF 0)]) ⟨hx, hb, hml, hown, hts⟩ (c_L_sign l g _ _ h365) (va_cwS 1 hts gL_law_L_sign rfl rfl rfl (by decide +kernel) ⟨Nat.le_of_ble_eq_true rfl, Nat.le_of_ble_eq_true rfl⟩) hKW hP [] rfl rfl hl.1 rfl (lv_room (Nat.le_of_ble_eq_true rfl)) dL_law_47 ⟨Nat.le_of_ble_eq_true rfl, Nat.le_of_ble_eq_true rfl⟩ (fun r366 q367 => ?_)
          obtain ⟨q367, nb368⟩ := q367
          refine lv_as q367.symm ?_
          obtain ⟨u376, h375, hf⟩ := bnd_el hf
          refine wr_i (rest := []) (wc := (pF g aF (aW 0) (aN 0) (aA 0) (aH 0) (aO 0) XF ++ (pS g aN (aW 0) XN ++ (pW g aW (aP 0) (aQ 0) XW ++ (pP g aP XP ++ (pP g aQ XQ ++ (pH g aH aB (aW 0) XH))))))) (wc' := (pF g aF (aW 0) (aN 0) (aA 0) (aH 0) (aO 0) XF ++ (pS g aN (aW 0) u376.2.1 ++ (pW g aW (aP 0) (aQ 0) u376.2.2.1 ++ (pP g aP u376.2.2.2.1 ++ (pP g aQ u376.2.2.2.2.1 ++ (pH g aH aB (aW 0) u376.2.2.2.2.2))))))) (ws2 := (pF g aF (aW 0) (aN 0) (aA 0) (aH 0) (aO 0) XF ++ (pS g aN (aW 0) u376.2.1 ++ (pW g aW (aP 0) (aQ 0) u376.2.2.1 ++ (pP g aP u376.2.2.2.1 ++ (pP g aQ u376.2.2.2.2.1 ++ (pO g aO XO ++ (pH g aH aB (aW 0) u376.2.2.2.2.2)))))))) hP hD hS hA [0, 1, 2, 3, 4, 5, 6, 7, 8, 9, 10, 11, 12, 13, 14, 15, 16, 17, 18, 19, 20, 21, 22, 23, 26, 27, 28, 29, 30, 31, 32, 33, 34, 35, 36, 37, 38, 39, 40, 41, 42, 43, 44, 45, 46, 47, 48, 49, 50, 51, 52, 53, 54, 55] rfl rfl (by rfl) (rnV (As := [.int r364]) ⟨hx, hb, hml, hown, hts⟩ (c_X5_append l g aF aN aA aW aP aQ aO aH aB _ _ _ _ _ _ _ _ _ _ _ _ _ _ _ h375) (cwV 1 hts gL_law_X5_append rfl rfl rfl (by decide +kernel) ⟨Nat.le_of_ble_eq_true rfl, Nat.le_of_ble_eq_true rfl⟩) hKW hP hD [0, 1, 2, 3, 4, 5, 6, 7, 8, 9, 10, 11, 12, 13, 14, 15, 16, 17, 18, 19, 20, 21, 22, 23, 26, 27, 28, 29, 30, 31, 32, 33, 34, 35, 36, 37, 38, 39, 40, 41, 42, 43, 44, 45, 46, 47, 48, 49, 50, 51, 52, 53, 54, 55] (by decide) rfl (va_recv hK hP (ci := 5) (q0 := 0) rfl rfl) rfl hl.1 rfl (lv_room (Nat.le_of_ble_eq_true rfl)) dL_law_50 ⟨Nat.le_of_ble_eq_true rfl, Nat.le_of_ble_eq_true rfl⟩) (fun r377 H locs q378 hP hD hS => ?_)
          obtain ⟨q378, nb379⟩ := q378
          refine lv_as q378.symm ?_
          refine lv_aload_n hx hb dL_law_53 rfl (lv_at hl 1 rfl) ?_
          refine lv_iconst (v := 1) hx hb dL_law_54 (by decide) ?_
          obtain ⟨r380, h381, hf⟩ := bnd_el hf
          refine rdV (As := [.int 1]) (rest := [.int u376.1]) ⟨hx, hb, hml, hown, hts⟩ (c_X5_count l g aF aN aA aW aP aQ aO aH aB _ _ _ _ _ _ _ _ _ _ h381) (cwV 1 hts gL_law_X5_count rfl rfl rfl (by decide +kernel) ⟨Nat.le_of_ble_eq_true rfl, Nat.le_of_ble_eq_true rfl⟩) hKW hP [0, 1, 2, 3, 4, 5, 6, 7, 8, 9, 10, 11, 12, 13, 14, 15, 16, 17, 18, 19, 20, 21, 22, 23, 24, 25, 26, 27, 28, 29, 30, 31, 32, 33, 34, 35, 36, 37, 38, 39, 40, 41, 42, 43, 44, 45, 46, 47, 48, 49, 50, 51, 52, 53, 54, 55] rfl (va_recv hK hP (ci := 5) (q0 := 0) rfl rfl) rfl hl.1 rfl (lv_room (Nat.le_of_ble_eq_true rfl)) dL_law_55 ⟨Nat.le_of_ble_eq_true rfl, Nat.le_of_ble_eq_true rfl⟩ (fun r382 q383 => ?_)
          obtain ⟨q383, nb384⟩ := q383
          refine lv_as q383.symm ?_
          obtain ⟨j66, ej66, hf⟩ := sl_el hf
          have J_66 : ∀ (x3 x4 k0 : Int32) (XF : DM) (XN : DM) (XW : DM) (XP : DM) (XQ : DM) (XH : HD) (H : Heap) (locs : List Loc) (ls : Array Slot), va_P g.1 vwCl (pF g aF (aW 0) (aN 0) (aA 0) (aH 0) (aO 0) XF ++ (pS g aN (aW 0) XN ++ (pW g aW (aP 0) (aQ 0) XW ++ (pP g aP XP ++ (pP g aQ XQ ++ (pO g aO XO ++ (pH g aH aB (aW 0) XH))))))) H → va_D A (pF g aF (aW 0) (aN 0) (aA 0) (aH 0) (aO 0) XF ++ (pS g aN (aW 0) XN ++ (pW g aW (aP 0) (aQ 0) XW ++ (pP g aP XP ++ (pP g aQ XQ ++ (pO g aO XO ++ (pH g aH aB (aW 0) XH))))))) → va_S A s.heap H locs → lv_has ls 18 [(0, .ref b), (1, .ref (aF 0)), (3, .int x3), (4, .int x4)] → j66 x3 x4 k0 XF XN XW XP XQ XH = some 1 → W p l e room_1 s m #[Value.ref b] below meth c H locs 63 4939 (lw_Z below #[Value.ref b] s) (F0 m 66 ls [.int k0]) := by
            intro x3 x4 k0 XF XN XW XP XQ XH H locs ls hP hD hS hl hf
            rw [ej66] at hf
            refine lv_istore_n (lv' := [(2, .int k0), (0, .ref b), (1, .ref (aF 0)), (3, .int x3), (4, .int x4)]) hx hb dL_law_66 rfl hl (by decide) rfl (fun ls hl => ?_)
            obtain ⟨v385, e386, hf⟩ := sl_el hf
            refine lv_iinc (v := v385) (lv' := [(4, .int v385), (2, .int k0), (0, .ref b), (1, .ref (aF 0)), (3, .int x3)]) hx hb dL_law_67 hl (k := 4) rfl (by rw [e386]; rfl) (by decide) rfl (fun ls hl => ?_)
            refine lv_goto (tgt := 28) hx hb dL_law_70 (by decide) ?_
            exact ih k0 x3 v385 XF XN XW XP XQ XH _ _ ls hP hD hS (lv_sub hl [2, 3, 1, 4, 0] rfl) hf
          refine lv_icmp_ne (tgt := 65) hx hb dL_law_58 (by decide) (fun c387 => ?_) (fun c387 => ?_)
          · have hf := ite_f hf c387
            refine lv_iconst (v := 0) hx hb dL_law_65 (by decide) ?_
            exact J_66 x3 x4 0 XF u376.2.1 u376.2.2.1 u376.2.2.2.1 u376.2.2.2.2.1 u376.2.2.2.2.2 _ _ ls hP hD hS (lv_sub hl [0, 1, 3, 4] rfl) hf
          · have hf := ite_t hf c387
            refine lv_iconst (v := 1) hx hb dL_law_61 (by decide) ?_
            refine lv_goto (tgt := 66) hx hb dL_law_62 (by decide) ?_
            exact J_66 x3 x4 1 XF u376.2.1 u376.2.2.1 u376.2.2.2.1 u376.2.2.2.2.1 u376.2.2.2.2.2 _ _ ls hP hD hS (lv_sub hl [0, 1, 3, 4] rfl) hf
  exact L_28 n r1 v11 0 XF XN XW XP XQ XH _ _ ls hP hD hS (lv_sub hl [4, 3, 2, 1, 0] rfl) hf
