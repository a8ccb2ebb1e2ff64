/-! the larger constructors -/
theorem va_P.setc {D : va_G} {cl : List vw_C} {ws : va_W} {H : Heap} (hP : va_P D cl ws H) (i : Nat) {a : Nat} {c : ClassId} {x x' : vp_A} (hi : ws[i]? = some (a, .inl (c, x))) (he : vp_cell c x = vp_cell c x') : va_P D cl (ws.set i (a, .inl (c, x'))) H := by
  intro k q hk
  by_cases h : i = k
  · subst h
    rw [List.getElem?_set_self (List.getElem?_eq_some_iff.mp hi).1] at hk
    cases hk
    show H[a]? = some (vp_cell c x')
    rw [← he]
    exact hP i _ hi
  · rw [List.getElem?_set_ne h] at hk
    exact hP k q hk
theorem refs4 (c : ClassId) (f f' : Nat → Option Nat) (h : ∀ j, j < 4 → f j = f' j) : vp_cell c (4, .inr (.inr (.inr (.inr f)))) = vp_cell c (4, .inr (.inr (.inr (.inr f')))) := by
  show arrV c 4 (fun j => va_rf (f j)) = arrV c 4 (fun j => va_rf (f' j))
  unfold arrV
  congr 1
  apply congrArg
  funext j
  show va_rf (f j.val) = va_rf (f' j.val)
  rw [h j.val j.isLt]
def XH0 : HD := (fun i => i, X0D, fun _ => XS0)
abbrev lsB (l : List (Nat → Nat)) : Nat → Nat → Nat := fun i => l.getD i (fun _ => 0)
abbrev U5 : Type := (Nat → Nat) × (Nat → Nat) × (Nat → Nat) × (Nat → Nat) × (Nat → Nat) × (Nat → Nat) × (Nat → Nat) × (Nat → Nat) × (Nat → Nat → Nat)
abbrev w5 (g : GG) (aF aN aA aW aP aQ aO aH : Nat → Nat) (aB : Nat → Nat → Nat) (XF XN XA XW XP XQ XO : DM) (XH : HD) : va_W := pF g aF (aW 0) (aN 0) (aA 0) (aH 0) (aO 0) XF ++ (pS g aN (aW 0) XN ++ (pS g aA (aW 0) XA ++ (pW g aW (aP 0) (aQ 0) XW ++ (pP g aP XP ++ (pP g aQ XQ ++ (pO g aO XO ++ (pH g aH aB (aW 0) XH)))))))

abbrev rmX0_init : Room := { frames := 2, cells := 29, slots := 1936, locals := 43 }
set_option maxHeartbeats 16000000 in
set_option maxRecDepth 100000 in
theorem c_X0_init (l : Launch) (g : GG) (h0 w tF : Nat) (sz : Nat) : Met l yX0_init wsX0_init rmX0_init (va_Pc [.ref h0, .ref w] (fun U => U.heap.size = sz ∧ va_P g.1 vwCl [(h0, .inr (0, [.null, .int 0]))] U.heap ∧ KW g U ∧ va_D (fun _ => True) [(h0, .inr (0, [.null, .int 0]))] ∧ STF (va_A [(h0, .inr (0, [.null, .int 0]))] sz) tF U)) (va_Qv (fun (u : (Nat → Nat) × (Nat → Nat → Nat)) => u.1 0 = h0) (fun (u : (Nat → Nat) × (Nat → Nat → Nat)) t => va_P g.1 vwCl (pH g u.1 u.2 w XH0) t.heap ∧ va_D (va_A [(h0, .inr (0, [.null, .int 0]))] sz) (pH g u.1 u.2 w XH0)) (va_A [(h0, .inr (0, [.null, .int 0]))] sz)) 29 1936 (va_A [(h0, .inr (0, [.null, .int 0]))] sz) := by
  refine Met.ofW (cc := cX0_init) (maxL := 3) (ret := none) (by decide) rfl ?_
  intro p e s m args below meth c s₁ B hml hv
  obtain ⟨hargs, hsz, hP, hKW, hD0, hST⟩ := hv
  have hK := hKW.1
  have hx := B.exec
  have hb := B.bytes
  have hr := B.returns
  have hts := atoms_spec (ws := wsX0_init) B.pre
  have hown : s.vm.findClass RX0 = some m.cls := findClass_of_methodNamed B.named
  have hlocks := B.notSynchronized
  have hin : meth.name = "<init>" := (name_of_methodNamed B.named B.method).1
  subst hsz
  have hD := hD0.self (sz := s.heap.size)
  generalize hAe : va_A [(h0, .inr (0, [.null, .int 0]))] s.heap.size = A at hD hST ⊢
  have hA : ∀ q : Nat, s.heap.size ≤ q → A q := fun q h => by rw [← hAe]; exact Or.inr h
  have hS : va_S A s.heap s.heap [] := va_S.rf
  have i_X0 : ∀ w ∈ wsX00, w ∈ wsX0_init := fun w h => List.mem_cons_of_mem _ (List.mem_append_left _ (List.mem_append_right _ h))
  have i_X3 : ∀ w ∈ wsX30, w ∈ wsX0_init := fun w h => List.mem_cons_of_mem _ (List.mem_append_right _ h)
  have hent : entryFrame m args 3 = F0 m 0 ((lg_sl ([.ref h0, .ref w]) ++ List.replicate (3 - (lg_sl ([.ref h0, .ref w])).length) Slot.unset).toArray) [] := by rw [hargs]; exact lg_entry_eq _ _ _
  rw [hent]
  have hl := lv_entry ([.ref h0, .ref w]) (n := 3) (Nat.le_of_ble_eq_true rfl)
  generalize (lg_sl ([.ref h0, .ref w]) ++ List.replicate (3 - (lg_sl ([.ref h0, .ref w])).length) Slot.unset).toArray = ls at hl ⊢
  have hl : lv_has ls 3 [(0, .ref h0), (1, .ref w)] := hl
  generalize hQ0 : MQ below _ _ _ _ _ _ = Q0
  refine lv_aload_n hx hb dX0_init_0 rfl (lv_at hl 0 rfl) ?_
  refine W.objInit hx hb hown (hts (.methodLink RX0 3 objectInit) (List.mem_of_getElem? (i := 1) rfl)) (hts (.instanceMethod objectInit) (List.mem_of_getElem? (i := 2) rfl)) (hts (.code objectInit ⟨#[0xb1]⟩ 1 none) (List.mem_of_getElem? (i := 3) rfl)) rfl (by rw [hml]; exact hl.1) rfl dX0_init_1 (Nat.le_of_ble_eq_true rfl) (Nat.le_of_ble_eq_true rfl) ?_
  refine W.eq (g2 := F0 m 4 ls []) rfl ?_
  refine lv_aload_n hx hb dX0_init_4 rfl (lv_at hl 0 rfl) ?_
  refine lv_iconst (v := 4) hx hb dX0_init_5 (by decide) ?_
  refine nwQ hx hb hown (hts (.classLink RX0 9 RX3) (List.mem_of_getElem? (i := 4) rfl)) hST.2.2.2.2 hK hP hD hS hA (by decide) (N' := 4) (by decide) (Nat.le_of_ble_eq_true rfl) (Nat.le_of_ble_eq_true rfl) (Nat.le_of_ble_eq_true rfl) dX0_init_6 (fun q1 H hP hD hS => ?_)
  have hP : va_P g.1 vwCl [(h0, .inr (0, [.null, .int 0])), (q1, .inl (g.2.2.2.2, 4, .inr (.inr (.inr (.inr (fun _ => none))))))] H := hP
  have hD : va_D A [(h0, .inr (0, [.null, .int 0])), (q1, .inl (g.2.2.2.2, 4, .inr (.inr (.inr (.inr (fun _ => none))))))] := hD
  refine W.widen (k := 1) (n := 4) (Nat.le_of_ble_eq_true rfl) (Nat.le_of_ble_eq_true rfl) ?_
  refine va_putF (D := g.1) (ci := 0) (v := .ref q1) (ty := (.array (.object "WordFlasher$State"))) (C := RX0) (T := TX0) (N := 2) hx hb hts i_X0 tyX0 tyX0_ok nmX0 hown hK hP hD hS 0 rfl rfl 0 (by decide) (hts (.fieldLink RX0 11 "WordFlasher$History" "states" "[LWordFlasher$State;") (List.mem_of_getElem? (i := 5) rfl)) (fun _ h9 => h9) rfl hin rfl (by decide +kernel) rfl rfl (Nat.le_of_ble_eq_true rfl) dX0_init_9 (fun H locs hP hD hS => ?_)
  have hP : va_P g.1 vwCl [(h0, .inr (0, [.ref q1, .int 0])), (q1, .inl (g.2.2.2.2, 4, .inr (.inr (.inr (.inr (fun _ => none))))))] H := hP
  have hD : va_D A [(h0, .inr (0, [.ref q1, .int 0])), (q1, .inl (g.2.2.2.2, 4, .inr (.inr (.inr (.inr (fun _ => none))))))] := hD
  refine lv_iconst (v := 0) hx hb dX0_init_12 (by decide) ?_
  refine lv_istore_n (lv' := [(2, .int 0), (0, .ref h0), (1, .ref w)]) hx hb dX0_init_13 rfl hl (by decide) rfl (fun ls hl => ?_)
  refine lv_iload_n hx hb dX0_init_14 rfl (lv_at hl 0 rfl) ?_
  refine lv_aload_n hx hb dX0_init_15 rfl (lv_at hl 1 rfl) ?_
  refine va_get (D := g.1) (ci := 0) (v := .ref q1) (C := RX0) (T := TX0) (N := 2) hx hb hts i_X0 hown hK hP 0 rfl rfl 0 (by decide) (hts (.fieldLink RX0 11 "WordFlasher$History" "states" "[LWordFlasher$State;") (List.mem_of_getElem? (i := 5) rfl)) (fun _ h9 => h9) rfl dX0_init_16 ?_
  refine va_alen (v := 4) hx hb hK hP 1 3 rfl rfl rfl dX0_init_19 ?_
  refine lv_icmp_ge (tgt := 43) hx hb dX0_init_20 (by decide) (fun c => absurd c (by decide)) (fun c => ?_)
  refine lv_aload_n hx hb dX0_init_23 rfl (lv_at hl 1 rfl) ?_
  refine va_get (D := g.1) (ci := 0) (v := .ref q1) (C := RX0) (T := TX0) (N := 2) hx hb hts i_X0 hown hK hP 0 rfl rfl 0 (by decide) (hts (.fieldLink RX0 11 "WordFlasher$History" "states" "[LWordFlasher$State;") (List.mem_of_getElem? (i := 5) rfl)) (fun _ h9 => h9) rfl dX0_init_24 ?_
  refine lv_iload_n hx hb dX0_init_27 rfl (lv_at hl 0 rfl) ?_
  refine va_new (ci := 3) (fs := [.null, .null, .int 0, .null, .null, .null, .int 0, .int 0, .null, .int 0, .null, .int 0, .int 0, .int 0, .int 0]) (C := RX3) (T := TX3) (N := 15) hx hb hts i_X3 tyX3 tyX3_ok hown (hts (.classLink RX0 9 RX3) (List.mem_of_getElem? (i := 4) rfl)) (hts (.instantiable RX3 15) (List.mem_of_getElem? (i := 6) rfl)) (hts (.initialized RX3) (List.mem_of_getElem? (i := 7) rfl)) hK hP hD hS hA rfl (fun j hj => by rcases (show j = 0 ∨ j = 1 ∨ j = 2 ∨ j = 3 ∨ j = 4 ∨ j = 5 ∨ j = 6 ∨ j = 7 ∨ j = 8 ∨ j = 9 ∨ j = 10 ∨ j = 11 ∨ j = 12 ∨ j = 13 ∨ j = 14 by omega) with rfl | rfl | rfl | rfl | rfl | rfl | rfl | rfl | rfl | rfl | rfl | rfl | rfl | rfl | rfl <;> rfl) (Nat.le_of_ble_eq_true rfl) (Nat.le_of_ble_eq_true rfl) dX0_init_28 (fun q2 H hP hD hS => ?_)
  have hP : va_P g.1 vwCl [(h0, .inr (0, [.ref q1, .int 0])), (q1, .inl (g.2.2.2.2, 4, .inr (.inr (.inr (.inr (fun _ => none)))))), (q2, .inr (3, [.null, .null, .int 0, .null, .null, .null, .int 0, .int 0, .null, .int 0, .null, .int 0, .int 0, .int 0, .int 0]))] H := hP
  have hD : va_D A [(h0, .inr (0, [.ref q1, .int 0])), (q1, .inl (g.2.2.2.2, 4, .inr (.inr (.inr (.inr (fun _ => none)))))), (q2, .inr (3, [.null, .null, .int 0, .null, .null, .null, .int 0, .int 0, .null, .int 0, .null, .int 0, .int 0, .int 0, .int 0]))] := hD
  refine W.widen (k := 2) (n := 19) (Nat.le_of_ble_eq_true rfl) (Nat.le_of_ble_eq_true rfl) ?_
  refine lv_dup hx hb dX0_init_31 rfl ?_
  refine lv_aload_n hx hb dX0_init_32 rfl (lv_at hl 2 rfl) ?_
  refine wr_n (rest := [.ref q2, .int 0, .ref q1]) (wc := [(q2, .inr (3, [.null, .null, .int 0, .null, .null, .null, .int 0, .int 0, .null, .int 0, .null, .int 0, .int 0, .int 0, .int 0]))]) (wr := [(h0, .inr (0, [.ref q1, .int 0])), (q1, .inl (g.2.2.2.2, 4, .inr (.inr (.inr (.inr (fun _ => none))))))]) (w1 := fun (u : (Nat → Nat)) => pS g u w XS0) (mc := 6) (ms := 468) hP hD hS hA [2] [0, 1] rfl rfl (by decide) (by decide) (rnI (As := [.ref w]) (E := (fun U => STF (va_A [(q2, .inr (3, [.null, .null, .int 0, .null, .null, .null, .int 0, .int 0, .null, .int 0, .null, .int 0, .int 0, .int 0, .int 0]))] H.size) tF U)) (fun a U gf mk h => STF.calling a U gf mk h) ⟨hx, hb, hml, hown, hts⟩ (c_X3_init l g q2 w tF _) (cwI 1 hts gX0_init_X3_init rfl rfl rfl (hts (.initialized RX3) (List.mem_of_getElem? (i := 7) rfl)) (hts (.methodLink RX0 17 yX3_init) (List.mem_of_getElem? (i := 8) rfl)) (hts (.instanceMethod yX3_init) (List.mem_of_getElem? (i := 9) rfl)) rfl (by decide +kernel) ⟨Nat.le_of_ble_eq_true rfl, Nat.le_of_ble_eq_true rfl⟩) hKW hP hD [2] (by decide) rfl (hST.at hS (va_free hD hS hA [2] (wc := [(q2, .inr (3, [.null, .null, .int 0, .null, .null, .null, .int 0, .int 0, .null, .int 0, .null, .int 0, .int 0, .int 0, .int 0]))]) rfl)) rfl hl.1 rfl (lv_room (Nat.le_of_ble_eq_true rfl)) dX0_init_33 ⟨Nat.le_of_ble_eq_true rfl, Nat.le_of_ble_eq_true rfl⟩) (fun u3 H locs hu4 hP hD hS => ?_)
  have hu4e := hu4
  have hP : va_P g.1 vwCl ([(h0, .inr (0, [.ref q1, .int 0])), (q1, .inl (g.2.2.2.2, 4, .inr (.inr (.inr (.inr (fun _ => none))))))] ++ (pS g u3 w XS0)) H := hP
  have hD : va_D A ([(h0, .inr (0, [.ref q1, .int 0])), (q1, .inl (g.2.2.2.2, 4, .inr (.inr (.inr (.inr (fun _ => none))))))] ++ (pS g u3 w XS0)) := hD
  refine W.widen (k := 8) (n := 487) (Nat.le_of_ble_eq_true rfl) (Nat.le_of_ble_eq_true rfl) ?_
  rw [← hu4]
  refine va_astq (v := (u3 0)) (r := (RX3, TX3, 15)) (i := 0) hx hb hK hP hD hS 1 3 2 3 rfl rfl rfl rfl (by unfold vp_in; decide) dX0_init_36 (fun H locs hP hD hS => ?_)
  have hP : va_P g.1 vwCl ([(h0, .inr (0, [.ref q1, .int 0])), (q1, .inl (g.2.2.2.2, 4, .inr (.inr (.inr (.inr (va_up (fun _ => none) 0 (some (u3 0))))))))] ++ (pS g u3 w XS0)) H := hP
  have hD : va_D A ([(h0, .inr (0, [.ref q1, .int 0])), (q1, .inl (g.2.2.2.2, 4, .inr (.inr (.inr (.inr (va_up (fun _ => none) 0 (some (u3 0))))))))] ++ (pS g u3 w XS0)) := hD
  refine lv_iinc (v := 1) (lv' := [(2, .int 1), (0, .ref h0), (1, .ref w)]) hx hb dX0_init_37 hl (k := 0) rfl (by decide) (by decide) rfl (fun ls hl => ?_)
  refine lv_goto (tgt := 14) hx hb dX0_init_40 (by decide) ?_
  refine lv_iload_n hx hb dX0_init_14 rfl (lv_at hl 0 rfl) ?_
  refine lv_aload_n hx hb dX0_init_15 rfl (lv_at hl 1 rfl) ?_
  refine va_get (D := g.1) (ci := 0) (v := .ref q1) (C := RX0) (T := TX0) (N := 2) hx hb hts i_X0 hown hK hP 0 rfl rfl 0 (by decide) (hts (.fieldLink RX0 11 "WordFlasher$History" "states" "[LWordFlasher$State;") (List.mem_of_getElem? (i := 5) rfl)) (fun _ h9 => h9) rfl dX0_init_16 ?_
  refine va_alen (v := 4) hx hb hK hP 1 3 rfl rfl rfl dX0_init_19 ?_
  refine lv_icmp_ge (tgt := 43) hx hb dX0_init_20 (by decide) (fun c => absurd c (by decide)) (fun c => ?_)
  refine lv_aload_n hx hb dX0_init_23 rfl (lv_at hl 1 rfl) ?_
  refine va_get (D := g.1) (ci := 0) (v := .ref q1) (C := RX0) (T := TX0) (N := 2) hx hb hts i_X0 hown hK hP 0 rfl rfl 0 (by decide) (hts (.fieldLink RX0 11 "WordFlasher$History" "states" "[LWordFlasher$State;") (List.mem_of_getElem? (i := 5) rfl)) (fun _ h9 => h9) rfl dX0_init_24 ?_
  refine lv_iload_n hx hb dX0_init_27 rfl (lv_at hl 0 rfl) ?_
  refine va_new (ci := 3) (fs := [.null, .null, .int 0, .null, .null, .null, .int 0, .int 0, .null, .int 0, .null, .int 0, .int 0, .int 0, .int 0]) (C := RX3) (T := TX3) (N := 15) hx hb hts i_X3 tyX3 tyX3_ok hown (hts (.classLink RX0 9 RX3) (List.mem_of_getElem? (i := 4) rfl)) (hts (.instantiable RX3 15) (List.mem_of_getElem? (i := 6) rfl)) (hts (.initialized RX3) (List.mem_of_getElem? (i := 7) rfl)) hK hP hD hS hA rfl (fun j hj => by rcases (show j = 0 ∨ j = 1 ∨ j = 2 ∨ j = 3 ∨ j = 4 ∨ j = 5 ∨ j = 6 ∨ j = 7 ∨ j = 8 ∨ j = 9 ∨ j = 10 ∨ j = 11 ∨ j = 12 ∨ j = 13 ∨ j = 14 by omega) with rfl | rfl | rfl | rfl | rfl | rfl | rfl | rfl | rfl | rfl | rfl | rfl | rfl | rfl | rfl <;> rfl) (Nat.le_of_ble_eq_true rfl) (Nat.le_of_ble_eq_true rfl) dX0_init_28 (fun q5 H hP hD hS => ?_)
  have hP : va_P g.1 vwCl ([(h0, .inr (0, [.ref q1, .int 0])), (q1, .inl (g.2.2.2.2, 4, .inr (.inr (.inr (.inr (va_up (fun _ => none) 0 (some (u3 0))))))))] ++ ((pS g u3 w XS0) ++ [(q5, .inr (3, [.null, .null, .int 0, .null, .null, .null, .int 0, .int 0, .null, .int 0, .null, .int 0, .int 0, .int 0, .int 0]))])) H := hP
  have hD : va_D A ([(h0, .inr (0, [.ref q1, .int 0])), (q1, .inl (g.2.2.2.2, 4, .inr (.inr (.inr (.inr (va_up (fun _ => none) 0 (some (u3 0))))))))] ++ ((pS g u3 w XS0) ++ [(q5, .inr (3, [.null, .null, .int 0, .null, .null, .null, .int 0, .int 0, .null, .int 0, .null, .int 0, .int 0, .int 0, .int 0]))])) := hD
  refine W.widen (k := 9) (n := 502) (Nat.le_of_ble_eq_true rfl) (Nat.le_of_ble_eq_true rfl) ?_
  refine lv_dup hx hb dX0_init_31 rfl ?_
  refine lv_aload_n hx hb dX0_init_32 rfl (lv_at hl 2 rfl) ?_
  refine wr_n (rest := [.ref q5, .int 1, .ref q1]) (wc := [(q5, .inr (3, [.null, .null, .int 0, .null, .null, .null, .int 0, .int 0, .null, .int 0, .null, .int 0, .int 0, .int 0, .int 0]))]) (wr := ([(h0, .inr (0, [.ref q1, .int 0])), (q1, .inl (g.2.2.2.2, 4, .inr (.inr (.inr (.inr (va_up (fun _ => none) 0 (some (u3 0))))))))] ++ (pS g u3 w XS0))) (w1 := fun (u : (Nat → Nat)) => pS g u w XS0) (mc := 6) (ms := 468) hP hD hS hA [9] [0, 1, 2, 3, 4, 5, 6, 7, 8] rfl rfl (by decide) (by decide) (rnI (As := [.ref w]) (E := (fun U => STF (va_A [(q5, .inr (3, [.null, .null, .int 0, .null, .null, .null, .int 0, .int 0, .null, .int 0, .null, .int 0, .int 0, .int 0, .int 0]))] H.size) tF U)) (fun a U gf mk h => STF.calling a U gf mk h) ⟨hx, hb, hml, hown, hts⟩ (c_X3_init l g q5 w tF _) (cwI 1 hts gX0_init_X3_init rfl rfl rfl (hts (.initialized RX3) (List.mem_of_getElem? (i := 7) rfl)) (hts (.methodLink RX0 17 yX3_init) (List.mem_of_getElem? (i := 8) rfl)) (hts (.instanceMethod yX3_init) (List.mem_of_getElem? (i := 9) rfl)) rfl (by decide +kernel) ⟨Nat.le_of_ble_eq_true rfl, Nat.le_of_ble_eq_true rfl⟩) hKW hP hD [9] (by decide) rfl (hST.at hS (va_free hD hS hA [9] (wc := [(q5, .inr (3, [.null, .null, .int 0, .null, .null, .null, .int 0, .int 0, .null, .int 0, .null, .int 0, .int 0, .int 0, .int 0]))]) rfl)) rfl hl.1 rfl (lv_room (Nat.le_of_ble_eq_true rfl)) dX0_init_33 ⟨Nat.le_of_ble_eq_true rfl, Nat.le_of_ble_eq_true rfl⟩) (fun u6 H locs hu7 hP hD hS => ?_)
  have hu7e := hu7
  have hP : va_P g.1 vwCl ([(h0, .inr (0, [.ref q1, .int 0])), (q1, .inl (g.2.2.2.2, 4, .inr (.inr (.inr (.inr (va_up (fun _ => none) 0 (some (u3 0))))))))] ++ ((pS g u3 w XS0) ++ (pS g u6 w XS0))) H := hP
  have hD : va_D A ([(h0, .inr (0, [.ref q1, .int 0])), (q1, .inl (g.2.2.2.2, 4, .inr (.inr (.inr (.inr (va_up (fun _ => none) 0 (some (u3 0))))))))] ++ ((pS g u3 w XS0) ++ (pS g u6 w XS0))) := hD
  refine W.widen (k := 15) (n := 970) (Nat.le_of_ble_eq_true rfl) (Nat.le_of_ble_eq_true rfl) ?_
  rw [← hu7]
  refine va_astq (v := (u6 0)) (r := (RX3, TX3, 15)) (i := 1) hx hb hK hP hD hS 1 3 9 3 rfl rfl rfl rfl (by unfold vp_in; decide) dX0_init_36 (fun H locs hP hD hS => ?_)
  have hP : va_P g.1 vwCl ([(h0, .inr (0, [.ref q1, .int 0])), (q1, .inl (g.2.2.2.2, 4, .inr (.inr (.inr (.inr (va_up (va_up (fun _ => none) 0 (some (u3 0))) 1 (some (u6 0))))))))] ++ ((pS g u3 w XS0) ++ (pS g u6 w XS0))) H := hP
  have hD : va_D A ([(h0, .inr (0, [.ref q1, .int 0])), (q1, .inl (g.2.2.2.2, 4, .inr (.inr (.inr (.inr (va_up (va_up (fun _ => none) 0 (some (u3 0))) 1 (some (u6 0))))))))] ++ ((pS g u3 w XS0) ++ (pS g u6 w XS0))) := hD
  refine lv_iinc (v := 2) (lv' := [(2, .int 2), (0, .ref h0), (1, .ref w)]) hx hb dX0_init_37 hl (k := 0) rfl (by decide) (by decide) rfl (fun ls hl => ?_)
  refine lv_goto (tgt := 14) hx hb dX0_init_40 (by decide) ?_
  refine lv_iload_n hx hb dX0_init_14 rfl (lv_at hl 0 rfl) ?_
  refine lv_aload_n hx hb dX0_init_15 rfl (lv_at hl 1 rfl) ?_
  refine va_get (D := g.1) (ci := 0) (v := .ref q1) (C := RX0) (T := TX0) (N := 2) hx hb hts i_X0 hown hK hP 0 rfl rfl 0 (by decide) (hts (.fieldLink RX0 11 "WordFlasher$History" "states" "[LWordFlasher$State;") (List.mem_of_getElem? (i := 5) rfl)) (fun _ h9 => h9) rfl dX0_init_16 ?_
  refine va_alen (v := 4) hx hb hK hP 1 3 rfl rfl rfl dX0_init_19 ?_
  refine lv_icmp_ge (tgt := 43) hx hb dX0_init_20 (by decide) (fun c => absurd c (by decide)) (fun c => ?_)
  refine lv_aload_n hx hb dX0_init_23 rfl (lv_at hl 1 rfl) ?_
  refine va_get (D := g.1) (ci := 0) (v := .ref q1) (C := RX0) (T := TX0) (N := 2) hx hb hts i_X0 hown hK hP 0 rfl rfl 0 (by decide) (hts (.fieldLink RX0 11 "WordFlasher$History" "states" "[LWordFlasher$State;") (List.mem_of_getElem? (i := 5) rfl)) (fun _ h9 => h9) rfl dX0_init_24 ?_
  refine lv_iload_n hx hb dX0_init_27 rfl (lv_at hl 0 rfl) ?_
  refine va_new (ci := 3) (fs := [.null, .null, .int 0, .null, .null, .null, .int 0, .int 0, .null, .int 0, .null, .int 0, .int 0, .int 0, .int 0]) (C := RX3) (T := TX3) (N := 15) hx hb hts i_X3 tyX3 tyX3_ok hown (hts (.classLink RX0 9 RX3) (List.mem_of_getElem? (i := 4) rfl)) (hts (.instantiable RX3 15) (List.mem_of_getElem? (i := 6) rfl)) (hts (.initialized RX3) (List.mem_of_getElem? (i := 7) rfl)) hK hP hD hS hA rfl (fun j hj => by rcases (show j = 0 ∨ j = 1 ∨ j = 2 ∨ j = 3 ∨ j = 4 ∨ j = 5 ∨ j = 6 ∨ j = 7 ∨ j = 8 ∨ j = 9 ∨ j = 10 ∨ j = 11 ∨ j = 12 ∨ j = 13 ∨ j = 14 by omega) with rfl | rfl | rfl | rfl | rfl | rfl | rfl | rfl | rfl | rfl | rfl | rfl | rfl | rfl | rfl <;> rfl) (Nat.le_of_ble_eq_true rfl) (Nat.le_of_ble_eq_true rfl) dX0_init_28 (fun q8 H hP hD hS => ?_)
  have hP : va_P g.1 vwCl ([(h0, .inr (0, [.ref q1, .int 0])), (q1, .inl (g.2.2.2.2, 4, .inr (.inr (.inr (.inr (va_up (va_up (fun _ => none) 0 (some (u3 0))) 1 (some (u6 0))))))))] ++ ((pS g u3 w XS0) ++ ((pS g u6 w XS0) ++ [(q8, .inr (3, [.null, .null, .int 0, .null, .null, .null, .int 0, .int 0, .null, .int 0, .null, .int 0, .int 0, .int 0, .int 0]))]))) H := hP
  have hD : va_D A ([(h0, .inr (0, [.ref q1, .int 0])), (q1, .inl (g.2.2.2.2, 4, .inr (.inr (.inr (.inr (va_up (va_up (fun _ => none) 0 (some (u3 0))) 1 (some (u6 0))))))))] ++ ((pS g u3 w XS0) ++ ((pS g u6 w XS0) ++ [(q8, .inr (3, [.null, .null, .int 0, .null, .null, .null, .int 0, .int 0, .null, .int 0, .null, .int 0, .int 0, .int 0, .int 0]))]))) := hD
  refine W.widen (k := 16) (n := 985) (Nat.le_of_ble_eq_true rfl) (Nat.le_of_ble_eq_true rfl) ?_
  refine lv_dup hx hb dX0_init_31 rfl ?_
  refine lv_aload_n hx hb dX0_init_32 rfl (lv_at hl 2 rfl) ?_
  refine wr_n (rest := [.ref q8, .int 2, .ref q1]) (wc := [(q8, .inr (3, [.null, .null, .int 0, .null, .null, .null, .int 0, .int 0, .null, .int 0, .null, .int 0, .int 0, .int 0, .int 0]))]) (wr := ([(h0, .inr (0, [.ref q1, .int 0])), (q1, .inl (g.2.2.2.2, 4, .inr (.inr (.inr (.inr (va_up (va_up (fun _ => none) 0 (some (u3 0))) 1 (some (u6 0))))))))] ++ ((pS g u3 w XS0) ++ (pS g u6 w XS0)))) (w1 := fun (u : (Nat → Nat)) => pS g u w XS0) (mc := 6) (ms := 468) hP hD hS hA [16] [0, 1, 2, 3, 4, 5, 6, 7, 8, 9, 10, 11, 12, 13, 14, 15] rfl rfl (by decide) (by decide) (rnI (As := [.ref w]) (E := (fun U => STF (va_A [(q8, .inr (3, [.null, .null, .int 0, .null, .null, .null, .int 0, .int 0, .null, .int 0, .null, .int 0, .int 0, .int 0, .int 0]))] H.size) tF U)) (fun a U gf mk h => STF.calling a U gf mk h) ⟨hx, hb, hml, hown, hts⟩ (c_X3_init l g q8 w tF _) (cwI 1 hts gX0_init_X3_init rfl rfl rfl (hts (.initialized RX3) (List.mem_of_getElem? (i := 7) rfl)) (hts (.methodLink RX0 17 yX3_init) (List.mem_of_getElem? (i := 8) rfl)) (hts (.instanceMethod yX3_init) (List.mem_of_getElem? (i := 9) rfl)) rfl (by decide +kernel) ⟨Nat.le_of_ble_eq_true rfl, Nat.le_of_ble_eq_true rfl⟩) hKW hP hD [16] (by decide) rfl (hST.at hS (va_free hD hS hA [16] (wc := [(q8, .inr (3, [.null, .null, .int 0, .null, .null, .null, .int 0, .int 0, .null, .int 0, .null, .int 0, .int 0, .int 0, .int 0]))]) rfl)) rfl hl.1 rfl (lv_room (Nat.le_of_ble_eq_true rfl)) dX0_init_33 ⟨Nat.le_of_ble_eq_true rfl, Nat.le_of_ble_eq_true rfl⟩) (fun u9 H locs hu10 hP hD hS => ?_)
  have hu10e := hu10
  have hP : va_P g.1 vwCl ([(h0, .inr (0, [.ref q1, .int 0])), (q1, .inl (g.2.2.2.2, 4, .inr (.inr (.inr (.inr (va_up (va_up (fun _ => none) 0 (some (u3 0))) 1 (some (u6 0))))))))] ++ ((pS g u3 w XS0) ++ ((pS g u6 w XS0) ++ (pS g u9 w XS0)))) H := hP
  have hD : va_D A ([(h0, .inr (0, [.ref q1, .int 0])), (q1, .inl (g.2.2.2.2, 4, .inr (.inr (.inr (.inr (va_up (va_up (fun _ => none) 0 (some (u3 0))) 1 (some (u6 0))))))))] ++ ((pS g u3 w XS0) ++ ((pS g u6 w XS0) ++ (pS g u9 w XS0)))) := hD
  refine W.widen (k := 22) (n := 1453) (Nat.le_of_ble_eq_true rfl) (Nat.le_of_ble_eq_true rfl) ?_
  rw [← hu10]
  refine va_astq (v := (u9 0)) (r := (RX3, TX3, 15)) (i := 2) hx hb hK hP hD hS 1 3 16 3 rfl rfl rfl rfl (by unfold vp_in; decide) dX0_init_36 (fun H locs hP hD hS => ?_)
  have hP : va_P g.1 vwCl ([(h0, .inr (0, [.ref q1, .int 0])), (q1, .inl (g.2.2.2.2, 4, .inr (.inr (.inr (.inr (va_up (va_up (va_up (fun _ => none) 0 (some (u3 0))) 1 (some (u6 0))) 2 (some (u9 0))))))))] ++ ((pS g u3 w XS0) ++ ((pS g u6 w XS0) ++ (pS g u9 w XS0)))) H := hP
  have hD : va_D A ([(h0, .inr (0, [.ref q1, .int 0])), (q1, .inl (g.2.2.2.2, 4, .inr (.inr (.inr (.inr (va_up (va_up (va_up (fun _ => none) 0 (some (u3 0))) 1 (some (u6 0))) 2 (some (u9 0))))))))] ++ ((pS g u3 w XS0) ++ ((pS g u6 w XS0) ++ (pS g u9 w XS0)))) := hD
  refine lv_iinc (v := 3) (lv' := [(2, .int 3), (0, .ref h0), (1, .ref w)]) hx hb dX0_init_37 hl (k := 0) rfl (by decide) (by decide) rfl (fun ls hl => ?_)
  refine lv_goto (tgt := 14) hx hb dX0_init_40 (by decide) ?_
  refine lv_iload_n hx hb dX0_init_14 rfl (lv_at hl 0 rfl) ?_
  refine lv_aload_n hx hb dX0_init_15 rfl (lv_at hl 1 rfl) ?_
  refine va_get (D := g.1) (ci := 0) (v := .ref q1) (C := RX0) (T := TX0) (N := 2) hx hb hts i_X0 hown hK hP 0 rfl rfl 0 (by decide) (hts (.fieldLink RX0 11 "WordFlasher$History" "states" "[LWordFlasher$State;") (List.mem_of_getElem? (i := 5) rfl)) (fun _ h9 => h9) rfl dX0_init_16 ?_
  refine va_alen (v := 4) hx hb hK hP 1 3 rfl rfl rfl dX0_init_19 ?_
  refine lv_icmp_ge (tgt := 43) hx hb dX0_init_20 (by decide) (fun c => absurd c (by decide)) (fun c => ?_)
  refine lv_aload_n hx hb dX0_init_23 rfl (lv_at hl 1 rfl) ?_
  refine va_get (D := g.1) (ci := 0) (v := .ref q1) (C := RX0) (T := TX0) (N := 2) hx hb hts i_X0 hown hK hP 0 rfl rfl 0 (by decide) (hts (.fieldLink RX0 11 "WordFlasher$History" "states" "[LWordFlasher$State;") (List.mem_of_getElem? (i := 5) rfl)) (fun _ h9 => h9) rfl dX0_init_24 ?_
  refine lv_iload_n hx hb dX0_init_27 rfl (lv_at hl 0 rfl) ?_
  refine va_new (ci := 3) (fs := [.null, .null, .int 0, .null, .null, .null, .int 0, .int 0, .null, .int 0, .null, .int 0, .int 0, .int 0, .int 0]) (C := RX3) (T := TX3) (N := 15) hx hb hts i_X3 tyX3 tyX3_ok hown (hts (.classLink RX0 9 RX3) (List.mem_of_getElem? (i := 4) rfl)) (hts (.instantiable RX3 15) (List.mem_of_getElem? (i := 6) rfl)) (hts (.initialized RX3) (List.mem_of_getElem? (i := 7) rfl)) hK hP hD hS hA rfl (fun j hj => by rcases (show j = 0 ∨ j = 1 ∨ j = 2 ∨ j = 3 ∨ j = 4 ∨ j = 5 ∨ j = 6 ∨ j = 7 ∨ j = 8 ∨ j = 9 ∨ j = 10 ∨ j = 11 ∨ j = 12 ∨ j = 13 ∨ j = 14 by omega) with rfl | rfl | rfl | rfl | rfl | rfl | rfl | rfl | rfl | rfl | rfl | rfl | rfl | rfl | rfl <;> rfl) (Nat.le_of_ble_eq_true rfl) (Nat.le_of_ble_eq_true rfl) dX0_init_28 (fun q11 H hP hD hS => ?_)
  have hP : va_P g.1 vwCl ([(h0, .inr (0, [.ref q1, .int 0])), (q1, .inl (g.2.2.2.2, 4, .inr (.inr (.inr (.inr (va_up (va_up (va_up (fun _ => none) 0 (some (u3 0))) 1 (some (u6 0))) 2 (some (u9 0))))))))] ++ ((pS g u3 w XS0) ++ ((pS g u6 w XS0) ++ ((pS g u9 w XS0) ++ [(q11, .inr (3, [.null, .null, .int 0, .null, .null, .null, .int 0, .int 0, .null, .int 0, .null, .int 0, .int 0, .int 0, .int 0]))])))) H := hP
  have hD : va_D A ([(h0, .inr (0, [.ref q1, .int 0])), (q1, .inl (g.2.2.2.2, 4, .inr (.inr (.inr (.inr (va_up (va_up (va_up (fun _ => none) 0 (some (u3 0))) 1 (some (u6 0))) 2 (some (u9 0))))))))] ++ ((pS g u3 w XS0) ++ ((pS g u6 w XS0) ++ ((pS g u9 w XS0) ++ [(q11, .inr (3, [.null, .null, .int 0, .null, .null, .null, .int 0, .int 0, .null, .int 0, .null, .int 0, .int 0, .int 0, .int 0]))])))) := hD
  refine W.widen (k := 23) (n := 1468) (Nat.le_of_ble_eq_true rfl) (Nat.le_of_ble_eq_true rfl) ?_
  refine lv_dup hx hb dX0_init_31 rfl ?_
  refine lv_aload_n hx hb dX0_init_32 rfl (lv_at hl 2 rfl) ?_
  refine wr_n (rest := [.ref q11, .int 3, .ref q1]) (wc := [(q11, .inr (3, [.null, .null, .int 0, .null, .null, .null, .int 0, .int 0, .null, .int 0, .null, .int 0, .int 0, .int 0, .int 0]))]) (wr := ([(h0, .inr (0, [.ref q1, .int 0])), (q1, .inl (g.2.2.2.2, 4, .inr (.inr (.inr (.inr (va_up (va_up (va_up (fun _ => none) 0 (some (u3 0))) 1 (some (u6 0))) 2 (some (u9 0))))))))] ++ ((pS g u3 w XS0) ++ ((pS g u6 w XS0) ++ (pS g u9 w XS0))))) (w1 := fun (u : (Nat → Nat)) => pS g u w XS0) (mc := 6) (ms := 468) hP hD hS hA [23] [0, 1, 2, 3, 4, 5, 6, 7, 8, 9, 10, 11, 12, 13, 14, 15, 16, 17, 18, 19, 20, 21, 22] rfl rfl (by decide) (by decide) (rnI (As := [.ref w]) (E := (fun U => STF (va_A [(q11, .inr (3, [.null, .null, .int 0, .null, .null, .null, .int 0, .int 0, .null, .int 0, .null, .int 0, .int 0, .int 0, .int 0]))] H.size) tF U)) (fun a U gf mk h => STF.calling a U gf mk h) ⟨hx, hb, hml, hown, hts⟩ (c_X3_init l g q11 w tF _) (cwI 1 hts gX0_init_X3_init rfl rfl rfl (hts (.initialized RX3) (List.mem_of_getElem? (i := 7) rfl)) (hts (.methodLink RX0 17 yX3_init) (List.mem_of_getElem? (i := 8) rfl)) (hts (.instanceMethod yX3_init) (List.mem_of_getElem? (i := 9) rfl)) rfl (by decide +kernel) ⟨Nat.le_of_ble_eq_true rfl, Nat.le_of_ble_eq_true rfl⟩) hKW hP hD [23] (by decide) rfl (hST.at hS (va_free hD hS hA [23] (wc := [(q11, .inr (3, [.null, .null, .int 0, .null, .null, .null, .int 0, .int 0, .null, .int 0, .null, .int 0, .int 0, .int 0, .int 0]))]) rfl)) rfl hl.1 rfl (lv_room (Nat.le_of_ble_eq_true rfl)) dX0_init_33 ⟨Nat.le_of_ble_eq_true rfl, Nat.le_of_ble_eq_true rfl⟩) (fun u12 H locs hu13 hP hD hS => ?_)
  have hu13e := hu13
  have hP : va_P g.1 vwCl ([(h0, .inr (0, [.ref q1, .int 0])), (q1, .inl (g.2.2.2.2, 4, .inr (.inr (.inr (.inr (va_up (va_up (va_up (fun _ => none) 0 (some (u3 0))) 1 (some (u6 0))) 2 (some (u9 0))))))))] ++ ((pS g u3 w XS0) ++ ((pS g u6 w XS0) ++ ((pS g u9 w XS0) ++ (pS g u12 w XS0))))) H := hP
  have hD : va_D A ([(h0, .inr (0, [.ref q1, .int 0])), (q1, .inl (g.2.2.2.2, 4, .inr (.inr (.inr (.inr (va_up (va_up (va_up (fun _ => none) 0 (some (u3 0))) 1 (some (u6 0))) 2 (some (u9 0))))))))] ++ ((pS g u3 w XS0) ++ ((pS g u6 w XS0) ++ ((pS g u9 w XS0) ++ (pS g u12 w XS0))))) := hD
  refine W.widen (k := 29) (n := 1936) (Nat.le_of_ble_eq_true rfl) (Nat.le_of_ble_eq_true rfl) ?_
  rw [← hu13]
  refine va_astq (v := (u12 0)) (r := (RX3, TX3, 15)) (i := 3) hx hb hK hP hD hS 1 3 23 3 rfl rfl rfl rfl (by unfold vp_in; decide) dX0_init_36 (fun H locs hP hD hS => ?_)
  have hP : va_P g.1 vwCl ([(h0, .inr (0, [.ref q1, .int 0])), (q1, .inl (g.2.2.2.2, 4, .inr (.inr (.inr (.inr (va_up (va_up (va_up (va_up (fun _ => none) 0 (some (u3 0))) 1 (some (u6 0))) 2 (some (u9 0))) 3 (some (u12 0))))))))] ++ ((pS g u3 w XS0) ++ ((pS g u6 w XS0) ++ ((pS g u9 w XS0) ++ (pS g u12 w XS0))))) H := hP
  have hD : va_D A ([(h0, .inr (0, [.ref q1, .int 0])), (q1, .inl (g.2.2.2.2, 4, .inr (.inr (.inr (.inr (va_up (va_up (va_up (va_up (fun _ => none) 0 (some (u3 0))) 1 (some (u6 0))) 2 (some (u9 0))) 3 (some (u12 0))))))))] ++ ((pS g u3 w XS0) ++ ((pS g u6 w XS0) ++ ((pS g u9 w XS0) ++ (pS g u12 w XS0))))) := hD
  refine lv_iinc (v := 4) (lv' := [(2, .int 4), (0, .ref h0), (1, .ref w)]) hx hb dX0_init_37 hl (k := 0) rfl (by decide) (by decide) rfl (fun ls hl => ?_)
  refine lv_goto (tgt := 14) hx hb dX0_init_40 (by decide) ?_
  refine lv_iload_n hx hb dX0_init_14 rfl (lv_at hl 0 rfl) ?_
  refine lv_aload_n hx hb dX0_init_15 rfl (lv_at hl 1 rfl) ?_
  refine va_get (D := g.1) (ci := 0) (v := .ref q1) (C := RX0) (T := TX0) (N := 2) hx hb hts i_X0 hown hK hP 0 rfl rfl 0 (by decide) (hts (.fieldLink RX0 11 "WordFlasher$History" "states" "[LWordFlasher$State;") (List.mem_of_getElem? (i := 5) rfl)) (fun _ h9 => h9) rfl dX0_init_16 ?_
  refine va_alen (v := 4) hx hb hK hP 1 3 rfl rfl rfl dX0_init_19 ?_
  refine lv_icmp_ge (tgt := 43) hx hb dX0_init_20 (by decide) (fun c => ?_) (fun c => absurd (by decide) c)
  refine W.widen (k := 29) (n := 1936) (Nat.le_of_ble_eq_true rfl) (Nat.le_of_ble_eq_true rfl) ?_
  have hP := hP.setc 1 rfl (x' := (4, .inr (.inr (.inr (.inr (qH (lsB [u3, u6, u9, u12]) (fun i => i))))))) (refs4 _ _ _ (fun j hj => by rcases (show j = 0 ∨ j = 1 ∨ j = 2 ∨ j = 3 by omega) with rfl | rfl | rfl | rfl <;> rfl))
  have hD := hD.set (p := 1) (e := .inl (g.2.2.2.2, 4, .inr (.inr (.inr (.inr (qH (lsB [u3, u6, u9, u12]) (fun i => i))))))) rfl
  have hP : va_P g.1 vwCl (pH g (lsA [h0, q1]) (lsB [u3, u6, u9, u12]) w XH0) H := hP
  have hD : va_D A (pH g (lsA [h0, q1]) (lsB [u3, u6, u9, u12]) w XH0) := hD
  rw [← hQ0]; exact W.vret hx hb hr (fun t ht hW => ⟨⟨(lsA [h0, q1], lsB [u3, u6, u9, u12]), rfl, rfl, by dsimp only; rw [ht]; exact ⟨hP, hD⟩⟩, hS.F ht⟩) hS.2.2 dX0_init_43

abbrev rmX5_init : Room := { frames := 3, cells := 62, slots := 4933, locals := 65 }
set_option maxHeartbeats 16000000 in
set_option maxRecDepth 100000 in
theorem c_X5_init (l : Launch) (g : GG) (h0 tF : Nat) (sz : Nat) : Met l yX5_init wsX5_init rmX5_init (va_Pc [.ref h0] (fun U => U.heap.size = sz ∧ va_P g.1 vwCl [(h0, .inr (5, [.null, .null, .null, .null, .null, .null]))] U.heap ∧ KW g U ∧ va_D (fun _ => True) [(h0, .inr (5, [.null, .null, .null, .null, .null, .null]))] ∧ STF (va_A [(h0, .inr (5, [.null, .null, .null, .null, .null, .null]))] sz) tF U)) (va_Qv (fun (u : U5) => u.1 0 = h0) (fun (u : U5) t => va_P g.1 vwCl (w5 g u.1 u.2.1 u.2.2.1 u.2.2.2.1 u.2.2.2.2.1 u.2.2.2.2.2.1 u.2.2.2.2.2.2.1 u.2.2.2.2.2.2.2.1 u.2.2.2.2.2.2.2.2 X0D XS0 XS0 X0D X0D X0D X0D XH0) t.heap ∧ va_D (va_A [(h0, .inr (5, [.null, .null, .null, .null, .null, .null]))] sz) (w5 g u.1 u.2.1 u.2.2.1 u.2.2.2.1 u.2.2.2.2.1 u.2.2.2.2.2.1 u.2.2.2.2.2.2.1 u.2.2.2.2.2.2.2.1 u.2.2.2.2.2.2.2.2 X0D XS0 XS0 X0D X0D X0D X0D XH0)) (va_A [(h0, .inr (5, [.null, .null, .null, .null, .null, .null]))] sz)) 62 4933 (va_A [(h0, .inr (5, [.null, .null, .null, .null, .null, .null]))] sz) := by
  refine Met.ofW (cc := cX5_init) (maxL := 1) (ret := none) (by decide) rfl ?_
  intro p e s m args below meth c s₁ B hml hv
  obtain ⟨hargs, hsz, hP, hKW, hD0, hST⟩ := hv
  have hK := hKW.1
  have hx := B.exec
  have hb := B.bytes
  have hr := B.returns
  have hts := atoms_spec (ws := wsX5_init) B.pre
  have hown : s.vm.findClass RX5 = some m.cls := findClass_of_methodNamed B.named
  have hlocks := B.notSynchronized
  have hin : meth.name = "<init>" := (name_of_methodNamed B.named B.method).1
  subst hsz
  have hD := hD0.self (sz := s.heap.size)
  generalize hAe : va_A [(h0, .inr (5, [.null, .null, .null, .null, .null, .null]))] s.heap.size = A at hD hST ⊢
  have hA : ∀ q : Nat, s.heap.size ≤ q → A q := fun q h => by rw [← hAe]; exact Or.inr h
  have hS : va_S A s.heap s.heap [] := va_S.rf
  have i_X4 : ∀ w ∈ wsX40, w ∈ wsX5_init := fun w h => List.mem_cons_of_mem _ (List.mem_append_left _ (List.mem_append_left _ (List.mem_append_left _ (List.mem_append_left _ (List.mem_append_left _ (List.mem_append_right _ h))))))
  have i_X5 : ∀ w ∈ wsX50, w ∈ wsX5_init := fun w h => List.mem_cons_of_mem _ (List.mem_append_left _ (List.mem_append_left _ (List.mem_append_left _ (List.mem_append_left _ (List.mem_append_right _ h)))))
  have i_X3 : ∀ w ∈ wsX30, w ∈ wsX5_init := fun w h => List.mem_cons_of_mem _ (List.mem_append_left _ (List.mem_append_left _ (List.mem_append_left _ (List.mem_append_right _ h))))
  have i_X0 : ∀ w ∈ wsX00, w ∈ wsX5_init := fun w h => List.mem_cons_of_mem _ (List.mem_append_left _ (List.mem_append_left _ (List.mem_append_right _ h)))
  have i_X1 : ∀ w ∈ wsX10, w ∈ wsX5_init := fun w h => List.mem_cons_of_mem _ (List.mem_append_left _ (List.mem_append_right _ h))
  have i_X2 : ∀ w ∈ wsX20, w ∈ wsX5_init := fun w h => List.mem_cons_of_mem _ (List.mem_append_right _ h)
  have hent : entryFrame m args 1 = F0 m 0 ((lg_sl ([.ref h0]) ++ List.replicate (1 - (lg_sl ([.ref h0])).length) Slot.unset).toArray) [] := by rw [hargs]; exact lg_entry_eq _ _ _
  rw [hent]
  have hl := lv_entry ([.ref h0]) (n := 1) (Nat.le_of_ble_eq_true rfl)
  generalize (lg_sl ([.ref h0]) ++ List.replicate (1 - (lg_sl ([.ref h0])).length) Slot.unset).toArray = ls at hl ⊢
  have hl : lv_has ls 1 [(0, .ref h0)] := hl
  generalize hQ0 : MQ below _ _ _ _ _ _ = Q0
  refine lv_aload_n hx hb dX5_init_0 rfl (lv_at hl 0 rfl) ?_
  refine W.objInit hx hb hown (hts (.methodLink RX5 1 objectInit) (List.mem_of_getElem? (i := 1) rfl)) (hts (.instanceMethod objectInit) (List.mem_of_getElem? (i := 2) rfl)) (hts (.code objectInit ⟨#[0xb1]⟩ 1 none) (List.mem_of_getElem? (i := 3) rfl)) rfl (by rw [hml]; exact hl.1) rfl dX5_init_1 (Nat.le_of_ble_eq_true rfl) (Nat.le_of_ble_eq_true rfl) ?_
  refine W.eq (g2 := F0 m 4 ls []) rfl ?_
  refine lv_aload_n hx hb dX5_init_4 rfl (lv_at hl 0 rfl) ?_
  refine va_new (ci := 4) (fs := [.null, .null, .null, .null, .null, .null, .null, .null, .int 0]) (C := RX4) (T := TX4) (N := 9) hx hb hts i_X4 tyX4 tyX4_ok hown (hts (.classLink RX5 7 RX4) (List.mem_of_getElem? (i := 4) rfl)) (hts (.instantiable RX4 9) (List.mem_of_getElem? (i := 5) rfl)) (hts (.initialized RX4) (List.mem_of_getElem? (i := 6) rfl)) hK hP hD hS hA rfl (fun j hj => by rcases (show j = 0 ∨ j = 1 ∨ j = 2 ∨ j = 3 ∨ j = 4 ∨ j = 5 ∨ j = 6 ∨ j = 7 ∨ j = 8 by omega) with rfl | rfl | rfl | rfl | rfl | rfl | rfl | rfl | rfl <;> rfl) (Nat.le_of_ble_eq_true rfl) (Nat.le_of_ble_eq_true rfl) dX5_init_5 (fun q1 H hP hD hS => ?_)
  have hP : va_P g.1 vwCl [(h0, .inr (5, [.null, .null, .null, .null, .null, .null])), (q1, .inr (4, [.null, .null, .null, .null, .null, .null, .null, .null, .int 0]))] H := hP
  have hD : va_D A [(h0, .inr (5, [.null, .null, .null, .null, .null, .null])), (q1, .inr (4, [.null, .null, .null, .null, .null, .null, .null, .null, .int 0]))] := hD
  refine W.widen (k := 1) (n := 9) (Nat.le_of_ble_eq_true rfl) (Nat.le_of_ble_eq_true rfl) ?_
  refine lv_dup hx hb dX5_init_8 rfl ?_
  refine wr_n (rest := [.ref q1, .ref h0]) (wc := [(q1, .inr (4, [.null, .null, .null, .null, .null, .null, .null, .null, .int 0]))]) (wr := [(h0, .inr (5, [.null, .null, .null, .null, .null, .null]))]) (w1 := fun (u : (Nat → Nat) × (Nat → Nat) × (Nat → Nat)) => pW g u.1 (u.2.1 0) (u.2.2 0) X0D ++ (pP g u.2.1 X0D ++ (pP g u.2.2 X0D))) (mc := 14) (ms := 1808) hP hD hS hA [1] [0] rfl rfl (by decide) (by decide) (rnI (As := []) (E := (fun _ => True)) (fun _ _ _ _ h => h) ⟨hx, hb, hml, hown, hts⟩ (c_X4_init l g q1 _) (cwI 0 hts gX5_init_X4_init rfl rfl rfl (hts (.initialized RX4) (List.mem_of_getElem? (i := 6) rfl)) (hts (.methodLink RX5 9 yX4_init) (List.mem_of_getElem? (i := 23) rfl)) (hts (.instanceMethod yX4_init) (List.mem_of_getElem? (i := 24) rfl)) rfl (by decide +kernel) ⟨Nat.le_of_ble_eq_true rfl, Nat.le_of_ble_eq_true rfl⟩) hKW hP hD [1] (by decide) rfl (fun _ _ _ => trivial) rfl hl.1 rfl (lv_room (Nat.le_of_ble_eq_true rfl)) dX5_init_9 ⟨Nat.le_of_ble_eq_true rfl, Nat.le_of_ble_eq_true rfl⟩) (fun u2 H locs hu3 hP hD hS => ?_)
  have hu3e := hu3
  have hP : va_P g.1 vwCl ([(h0, .inr (5, [.null, .null, .null, .null, .null, .null]))] ++ (pW g u2.1 (u2.2.1 0) (u2.2.2 0) X0D ++ (pP g u2.2.1 X0D ++ (pP g u2.2.2 X0D)))) H := hP
  have hD : va_D A ([(h0, .inr (5, [.null, .null, .null, .null, .null, .null]))] ++ (pW g u2.1 (u2.2.1 0) (u2.2.2 0) X0D ++ (pP g u2.2.1 X0D ++ (pP g u2.2.2 X0D)))) := hD
  refine W.widen (k := 15) (n := 1817) (Nat.le_of_ble_eq_true rfl) (Nat.le_of_ble_eq_true rfl) ?_
  rw [← hu3]
  refine va_putF (D := g.1) (ci := 5) (v := .ref (u2.1 0)) (ty := (.object "WordFlasher$Words")) (C := RX5) (T := TX5) (N := 6) hx hb hts i_X5 tyX5 tyX5_ok nmX5 hown hK hP hD hS 0 rfl rfl 0 (by decide) (hts (.fieldLink RX5 10 "WordFlasher" "words" "LWordFlasher$Words;") (List.mem_of_getElem? (i := 7) rfl)) (fun _ h9 => h9) rfl hin rfl (by decide +kernel) rfl rfl (Nat.le_of_ble_eq_true rfl) dX5_init_12 (fun H locs hP hD hS => ?_)
  have hP : va_P g.1 vwCl ([(h0, .inr (5, [.ref (u2.1 0), .null, .null, .null, .null, .null]))] ++ (pW g u2.1 (u2.2.1 0) (u2.2.2 0) X0D ++ (pP g u2.2.1 X0D ++ (pP g u2.2.2 X0D)))) H := hP
  have hD : va_D A ([(h0, .inr (5, [.ref (u2.1 0), .null, .null, .null, .null, .null]))] ++ (pW g u2.1 (u2.2.1 0) (u2.2.2 0) X0D ++ (pP g u2.2.1 X0D ++ (pP g u2.2.2 X0D)))) := hD
  refine lv_aload_n hx hb dX5_init_15 rfl (lv_at hl 0 rfl) ?_
  refine va_new (ci := 3) (fs := [.null, .null, .int 0, .null, .null, .null, .int 0, .int 0, .null, .int 0, .null, .int 0, .int 0, .int 0, .int 0]) (C := RX3) (T := TX3) (N := 15) hx hb hts i_X3 tyX3 tyX3_ok hown (hts (.classLink RX5 16 RX3) (List.mem_of_getElem? (i := 8) rfl)) (hts (.instantiable RX3 15) (List.mem_of_getElem? (i := 9) rfl)) (hts (.initialized RX3) (List.mem_of_getElem? (i := 10) rfl)) hK hP hD hS hA rfl (fun j hj => by rcases (show j = 0 ∨ j = 1 ∨ j = 2 ∨ j = 3 ∨ j = 4 ∨ j = 5 ∨ j = 6 ∨ j = 7 ∨ j = 8 ∨ j = 9 ∨ j = 10 ∨ j = 11 ∨ j = 12 ∨ j = 13 ∨ j = 14 by omega) with rfl | rfl | rfl | rfl | rfl | rfl | rfl | rfl | rfl | rfl | rfl | rfl | rfl | rfl | rfl <;> rfl) (Nat.le_of_ble_eq_true rfl) (Nat.le_of_ble_eq_true rfl) dX5_init_16 (fun q4 H hP hD hS => ?_)
  have hP : va_P g.1 vwCl ([(h0, .inr (5, [.ref (u2.1 0), .null, .null, .null, .null, .null]))] ++ ((pW g u2.1 (u2.2.1 0) (u2.2.2 0) X0D ++ (pP g u2.2.1 X0D ++ (pP g u2.2.2 X0D))) ++ [(q4, .inr (3, [.null, .null, .int 0, .null, .null, .null, .int 0, .int 0, .null, .int 0, .null, .int 0, .int 0, .int 0, .int 0]))])) H := hP
  have hD : va_D A ([(h0, .inr (5, [.ref (u2.1 0), .null, .null, .null, .null, .null]))] ++ ((pW g u2.1 (u2.2.1 0) (u2.2.2 0) X0D ++ (pP g u2.2.1 X0D ++ (pP g u2.2.2 X0D))) ++ [(q4, .inr (3, [.null, .null, .int 0, .null, .null, .null, .int 0, .int 0, .null, .int 0, .null, .int 0, .int 0, .int 0, .int 0]))])) := hD
  refine W.widen (k := 16) (n := 1832) (Nat.le_of_ble_eq_true rfl) (Nat.le_of_ble_eq_true rfl) ?_
  refine lv_dup hx hb dX5_init_19 rfl ?_
  refine lv_aload_n hx hb dX5_init_20 rfl (lv_at hl 0 rfl) ?_
  refine va_get (D := g.1) (ci := 5) (v := .ref (u2.1 0)) (C := RX5) (T := TX5) (N := 6) hx hb hts i_X5 hown hK hP 0 rfl rfl 0 (by decide) (hts (.fieldLink RX5 10 "WordFlasher" "words" "LWordFlasher$Words;") (List.mem_of_getElem? (i := 7) rfl)) (fun _ h9 => h9) rfl dX5_init_21 ?_
  refine wr_n (rest := [.ref q4, .ref h0]) (wc := [(q4, .inr (3, [.null, .null, .int 0, .null, .null, .null, .int 0, .int 0, .null, .int 0, .null, .int 0, .int 0, .int 0, .int 0]))]) (wr := ([(h0, .inr (5, [.ref (u2.1 0), .null, .null, .null, .null, .null]))] ++ (pW g u2.1 (u2.2.1 0) (u2.2.2 0) X0D ++ (pP g u2.2.1 X0D ++ (pP g u2.2.2 X0D))))) (w1 := fun (u : (Nat → Nat)) => pS g u (u2.1 0) XS0) (mc := 6) (ms := 468) hP hD hS hA [16] [0, 1, 2, 3, 4, 5, 6, 7, 8, 9, 10, 11, 12, 13, 14, 15] rfl rfl (by decide) (by decide) (rnI (As := [.ref (u2.1 0)]) (E := (fun U => STF (va_A [(q4, .inr (3, [.null, .null, .int 0, .null, .null, .null, .int 0, .int 0, .null, .int 0, .null, .int 0, .int 0, .int 0, .int 0]))] H.size) tF U)) (fun a U gf mk h => STF.calling a U gf mk h) ⟨hx, hb, hml, hown, hts⟩ (c_X3_init l g q4 (u2.1 0) tF _) (cwI 1 hts gX5_init_X3_init rfl rfl rfl (hts (.initialized RX3) (List.mem_of_getElem? (i := 10) rfl)) (hts (.methodLink RX5 18 yX3_init) (List.mem_of_getElem? (i := 45) rfl)) (hts (.instanceMethod yX3_init) (List.mem_of_getElem? (i := 46) rfl)) rfl (by decide +kernel) ⟨Nat.le_of_ble_eq_true rfl, Nat.le_of_ble_eq_true rfl⟩) hKW hP hD [16] (by decide) rfl (hST.at hS (va_free hD hS hA [16] (wc := [(q4, .inr (3, [.null, .null, .int 0, .null, .null, .null, .int 0, .int 0, .null, .int 0, .null, .int 0, .int 0, .int 0, .int 0]))]) rfl)) rfl hl.1 rfl (lv_room (Nat.le_of_ble_eq_true rfl)) dX5_init_24 ⟨Nat.le_of_ble_eq_true rfl, Nat.le_of_ble_eq_true rfl⟩) (fun u5 H locs hu6 hP hD hS => ?_)
  have hu6e := hu6
  have hP : va_P g.1 vwCl ([(h0, .inr (5, [.ref (u2.1 0), .null, .null, .null, .null, .null]))] ++ ((pW g u2.1 (u2.2.1 0) (u2.2.2 0) X0D ++ (pP g u2.2.1 X0D ++ (pP g u2.2.2 X0D))) ++ (pS g u5 (u2.1 0) XS0))) H := hP
  have hD : va_D A ([(h0, .inr (5, [.ref (u2.1 0), .null, .null, .null, .null, .null]))] ++ ((pW g u2.1 (u2.2.1 0) (u2.2.2 0) X0D ++ (pP g u2.2.1 X0D ++ (pP g u2.2.2 X0D))) ++ (pS g u5 (u2.1 0) XS0))) := hD
  refine W.widen (k := 22) (n := 2300) (Nat.le_of_ble_eq_true rfl) (Nat.le_of_ble_eq_true rfl) ?_
  rw [← hu6]
  refine va_putF (D := g.1) (ci := 5) (v := .ref (u5 0)) (ty := (.object "WordFlasher$State")) (C := RX5) (T := TX5) (N := 6) hx hb hts i_X5 tyX5 tyX5_ok nmX5 hown hK hP hD hS 0 rfl rfl 1 (by decide) (hts (.fieldLink RX5 21 "WordFlasher" "now" "LWordFlasher$State;") (List.mem_of_getElem? (i := 11) rfl)) (fun _ h9 => h9) rfl hin rfl (by decide +kernel) rfl rfl (Nat.le_of_ble_eq_true rfl) dX5_init_27 (fun H locs hP hD hS => ?_)
  have hP : va_P g.1 vwCl ([(h0, .inr (5, [.ref (u2.1 0), .ref (u5 0), .null, .null, .null, .null]))] ++ ((pW g u2.1 (u2.2.1 0) (u2.2.2 0) X0D ++ (pP g u2.2.1 X0D ++ (pP g u2.2.2 X0D))) ++ (pS g u5 (u2.1 0) XS0))) H := hP
  have hD : va_D A ([(h0, .inr (5, [.ref (u2.1 0), .ref (u5 0), .null, .null, .null, .null]))] ++ ((pW g u2.1 (u2.2.1 0) (u2.2.2 0) X0D ++ (pP g u2.2.1 X0D ++ (pP g u2.2.2 X0D))) ++ (pS g u5 (u2.1 0) XS0))) := hD
  refine lv_aload_n hx hb dX5_init_30 rfl (lv_at hl 0 rfl) ?_
  refine va_new (ci := 3) (fs := [.null, .null, .int 0, .null, .null, .null, .int 0, .int 0, .null, .int 0, .null, .int 0, .int 0, .int 0, .int 0]) (C := RX3) (T := TX3) (N := 15) hx hb hts i_X3 tyX3 tyX3_ok hown (hts (.classLink RX5 16 RX3) (List.mem_of_getElem? (i := 8) rfl)) (hts (.instantiable RX3 15) (List.mem_of_getElem? (i := 9) rfl)) (hts (.initialized RX3) (List.mem_of_getElem? (i := 10) rfl)) hK hP hD hS hA rfl (fun j hj => by rcases (show j = 0 ∨ j = 1 ∨ j = 2 ∨ j = 3 ∨ j = 4 ∨ j = 5 ∨ j = 6 ∨ j = 7 ∨ j = 8 ∨ j = 9 ∨ j = 10 ∨ j = 11 ∨ j = 12 ∨ j = 13 ∨ j = 14 by omega) with rfl | rfl | rfl | rfl | rfl | rfl | rfl | rfl | rfl | rfl | rfl | rfl | rfl | rfl | rfl <;> rfl) (Nat.le_of_ble_eq_true rfl) (Nat.le_of_ble_eq_true rfl) dX5_init_31 (fun q7 H hP hD hS => ?_)
  have hP : va_P g.1 vwCl ([(h0, .inr (5, [.ref (u2.1 0), .ref (u5 0), .null, .null, .null, .null]))] ++ ((pW g u2.1 (u2.2.1 0) (u2.2.2 0) X0D ++ (pP g u2.2.1 X0D ++ (pP g u2.2.2 X0D))) ++ ((pS g u5 (u2.1 0) XS0) ++ [(q7, .inr (3, [.null, .null, .int 0, .null, .null, .null, .int 0, .int 0, .null, .int 0, .null, .int 0, .int 0, .int 0, .int 0]))]))) H := hP
  have hD : va_D A ([(h0, .inr (5, [.ref (u2.1 0), .ref (u5 0), .null, .null, .null, .null]))] ++ ((pW g u2.1 (u2.2.1 0) (u2.2.2 0) X0D ++ (pP g u2.2.1 X0D ++ (pP g u2.2.2 X0D))) ++ ((pS g u5 (u2.1 0) XS0) ++ [(q7, .inr (3, [.null, .null, .int 0, .null, .null, .null, .int 0, .int 0, .null, .int 0, .null, .int 0, .int 0, .int 0, .int 0]))]))) := hD
  refine W.widen (k := 23) (n := 2315) (Nat.le_of_ble_eq_true rfl) (Nat.le_of_ble_eq_true rfl) ?_
  refine lv_dup hx hb dX5_init_34 rfl ?_
  refine lv_aload_n hx hb dX5_init_35 rfl (lv_at hl 0 rfl) ?_
  refine va_get (D := g.1) (ci := 5) (v := .ref (u2.1 0)) (C := RX5) (T := TX5) (N := 6) hx hb hts i_X5 hown hK hP 0 rfl rfl 0 (by decide) (hts (.fieldLink RX5 10 "WordFlasher" "words" "LWordFlasher$Words;") (List.mem_of_getElem? (i := 7) rfl)) (fun _ h9 => h9) rfl dX5_init_36 ?_
  refine wr_n (rest := [.ref q7, .ref h0]) (wc := [(q7, .inr (3, [.null, .null, .int 0, .null, .null, .null, .int 0, .int 0, .null, .int 0, .null, .int 0, .int 0, .int 0, .int 0]))]) (wr := ([(h0, .inr (5, [.ref (u2.1 0), .ref (u5 0), .null, .null, .null, .null]))] ++ ((pW g u2.1 (u2.2.1 0) (u2.2.2 0) X0D ++ (pP g u2.2.1 X0D ++ (pP g u2.2.2 X0D))) ++ (pS g u5 (u2.1 0) XS0)))) (w1 := fun (u : (Nat → Nat)) => pS g u (u2.1 0) XS0) (mc := 6) (ms := 468) hP hD hS hA [23] [0, 1, 2, 3, 4, 5, 6, 7, 8, 9, 10, 11, 12, 13, 14, 15, 16, 17, 18, 19, 20, 21, 22] rfl rfl (by decide) (by decide) (rnI (As := [.ref (u2.1 0)]) (E := (fun U => STF (va_A [(q7, .inr (3, [.null, .null, .int 0, .null, .null, .null, .int 0, .int 0, .null, .int 0, .null, .int 0, .int 0, .int 0, .int 0]))] H.size) tF U)) (fun a U gf mk h => STF.calling a U gf mk h) ⟨hx, hb, hml, hown, hts⟩ (c_X3_init l g q7 (u2.1 0) tF _) (cwI 1 hts gX5_init_X3_init rfl rfl rfl (hts (.initialized RX3) (List.mem_of_getElem? (i := 10) rfl)) (hts (.methodLink RX5 18 yX3_init) (List.mem_of_getElem? (i := 45) rfl)) (hts (.instanceMethod yX3_init) (List.mem_of_getElem? (i := 46) rfl)) rfl (by decide +kernel) ⟨Nat.le_of_ble_eq_true rfl, Nat.le_of_ble_eq_true rfl⟩) hKW hP hD [23] (by decide) rfl (hST.at hS (va_free hD hS hA [23] (wc := [(q7, .inr (3, [.null, .null, .int 0, .null, .null, .null, .int 0, .int 0, .null, .int 0, .null, .int 0, .int 0, .int 0, .int 0]))]) rfl)) rfl hl.1 rfl (lv_room (Nat.le_of_ble_eq_true rfl)) dX5_init_39 ⟨Nat.le_of_ble_eq_true rfl, Nat.le_of_ble_eq_true rfl⟩) (fun u8 H locs hu9 hP hD hS => ?_)
  have hu9e := hu9
  have hP : va_P g.1 vwCl ([(h0, .inr (5, [.ref (u2.1 0), .ref (u5 0), .null, .null, .null, .null]))] ++ ((pW g u2.1 (u2.2.1 0) (u2.2.2 0) X0D ++ (pP g u2.2.1 X0D ++ (pP g u2.2.2 X0D))) ++ ((pS g u5 (u2.1 0) XS0) ++ (pS g u8 (u2.1 0) XS0)))) H := hP
  have hD : va_D A ([(h0, .inr (5, [.ref (u2.1 0), .ref (u5 0), .null, .null, .null, .null]))] ++ ((pW g u2.1 (u2.2.1 0) (u2.2.2 0) X0D ++ (pP g u2.2.1 X0D ++ (pP g u2.2.2 X0D))) ++ ((pS g u5 (u2.1 0) XS0) ++ (pS g u8 (u2.1 0) XS0)))) := hD
  refine W.widen (k := 29) (n := 2783) (Nat.le_of_ble_eq_true rfl) (Nat.le_of_ble_eq_true rfl) ?_
  rw [← hu9]
  refine va_putF (D := g.1) (ci := 5) (v := .ref (u8 0)) (ty := (.object "WordFlasher$State")) (C := RX5) (T := TX5) (N := 6) hx hb hts i_X5 tyX5 tyX5_ok nmX5 hown hK hP hD hS 0 rfl rfl 2 (by decide) (hts (.fieldLink RX5 25 "WordFlasher" "ahead" "LWordFlasher$State;") (List.mem_of_getElem? (i := 12) rfl)) (fun _ h9 => h9) rfl hin rfl (by decide +kernel) rfl rfl (Nat.le_of_ble_eq_true rfl) dX5_init_42 (fun H locs hP hD hS => ?_)
  have hP : va_P g.1 vwCl ([(h0, .inr (5, [.ref (u2.1 0), .ref (u5 0), .ref (u8 0), .null, .null, .null]))] ++ ((pW g u2.1 (u2.2.1 0) (u2.2.2 0) X0D ++ (pP g u2.2.1 X0D ++ (pP g u2.2.2 X0D))) ++ ((pS g u5 (u2.1 0) XS0) ++ (pS g u8 (u2.1 0) XS0)))) H := hP
  have hD : va_D A ([(h0, .inr (5, [.ref (u2.1 0), .ref (u5 0), .ref (u8 0), .null, .null, .null]))] ++ ((pW g u2.1 (u2.2.1 0) (u2.2.2 0) X0D ++ (pP g u2.2.1 X0D ++ (pP g u2.2.2 X0D))) ++ ((pS g u5 (u2.1 0) XS0) ++ (pS g u8 (u2.1 0) XS0)))) := hD
  refine lv_aload_n hx hb dX5_init_45 rfl (lv_at hl 0 rfl) ?_
  refine va_new (ci := 0) (fs := [.null, .int 0]) (C := RX0) (T := TX0) (N := 2) hx hb hts i_X0 tyX0 tyX0_ok hown (hts (.classLink RX5 28 RX0) (List.mem_of_getElem? (i := 13) rfl)) (hts (.instantiable RX0 2) (List.mem_of_getElem? (i := 14) rfl)) (hts (.initialized RX0) (List.mem_of_getElem? (i := 15) rfl)) hK hP hD hS hA rfl (fun j hj => by rcases (show j = 0 ∨ j = 1 by omega) with rfl | rfl <;> rfl) (Nat.le_of_ble_eq_true rfl) (Nat.le_of_ble_eq_true rfl) dX5_init_46 (fun q10 H hP hD hS => ?_)
  have hP : va_P g.1 vwCl ([(h0, .inr (5, [.ref (u2.1 0), .ref (u5 0), .ref (u8 0), .null, .null, .null]))] ++ ((pW g u2.1 (u2.2.1 0) (u2.2.2 0) X0D ++ (pP g u2.2.1 X0D ++ (pP g u2.2.2 X0D))) ++ ((pS g u5 (u2.1 0) XS0) ++ ((pS g u8 (u2.1 0) XS0) ++ [(q10, .inr (0, [.null, .int 0]))])))) H := hP
  have hD : va_D A ([(h0, .inr (5, [.ref (u2.1 0), .ref (u5 0), .ref (u8 0), .null, .null, .null]))] ++ ((pW g u2.1 (u2.2.1 0) (u2.2.2 0) X0D ++ (pP g u2.2.1 X0D ++ (pP g u2.2.2 X0D))) ++ ((pS g u5 (u2.1 0) XS0) ++ ((pS g u8 (u2.1 0) XS0) ++ [(q10, .inr (0, [.null, .int 0]))])))) := hD
  refine W.widen (k := 30) (n := 2785) (Nat.le_of_ble_eq_true rfl) (Nat.le_of_ble_eq_true rfl) ?_
  refine lv_dup hx hb dX5_init_49 rfl ?_
  refine lv_aload_n hx hb dX5_init_50 rfl (lv_at hl 0 rfl) ?_
  refine va_get (D := g.1) (ci := 5) (v := .ref (u2.1 0)) (C := RX5) (T := TX5) (N := 6) hx hb hts i_X5 hown hK hP 0 rfl rfl 0 (by decide) (hts (.fieldLink RX5 10 "WordFlasher" "words" "LWordFlasher$Words;") (List.mem_of_getElem? (i := 7) rfl)) (fun _ h9 => h9) rfl dX5_init_51 ?_
  refine wr_n (rest := [.ref q10, .ref h0]) (wc := [(q10, .inr (0, [.null, .int 0]))]) (wr := ([(h0, .inr (5, [.ref (u2.1 0), .ref (u5 0), .ref (u8 0), .null, .null, .null]))] ++ ((pW g u2.1 (u2.2.1 0) (u2.2.2 0) X0D ++ (pP g u2.2.1 X0D ++ (pP g u2.2.2 X0D))) ++ ((pS g u5 (u2.1 0) XS0) ++ (pS g u8 (u2.1 0) XS0))))) (w1 := fun (u : (Nat → Nat) × (Nat → Nat → Nat)) => pH g u.1 u.2 (u2.1 0) XH0) (mc := 29) (ms := 1936) hP hD hS hA [30] [0, 1, 2, 3, 4, 5, 6, 7, 8, 9, 10, 11, 12, 13, 14, 15, 16, 17, 18, 19, 20, 21, 22, 23, 24, 25, 26, 27, 28, 29] rfl rfl (by decide) (by decide) (rnI (As := [.ref (u2.1 0)]) (E := (fun U => STF (va_A [(q10, .inr (0, [.null, .int 0]))] H.size) tF U)) (fun a U gf mk h => STF.calling a U gf mk h) ⟨hx, hb, hml, hown, hts⟩ (c_X0_init l g q10 (u2.1 0) tF _) (cwI 1 hts gX5_init_X0_init rfl rfl rfl (hts (.initialized RX0) (List.mem_of_getElem? (i := 15) rfl)) (hts (.methodLink RX5 30 yX0_init) (List.mem_of_getElem? (i := 66) rfl)) (hts (.instanceMethod yX0_init) (List.mem_of_getElem? (i := 67) rfl)) rfl (by decide +kernel) ⟨Nat.le_of_ble_eq_true rfl, Nat.le_of_ble_eq_true rfl⟩) hKW hP hD [30] (by decide) rfl (hST.at hS (va_free hD hS hA [30] (wc := [(q10, .inr (0, [.null, .int 0]))]) rfl)) rfl hl.1 rfl (lv_room (Nat.le_of_ble_eq_true rfl)) dX5_init_54 ⟨Nat.le_of_ble_eq_true rfl, Nat.le_of_ble_eq_true rfl⟩) (fun u11 H locs hu12 hP hD hS => ?_)
  have hu12e := hu12
  have hP : va_P g.1 vwCl ([(h0, .inr (5, [.ref (u2.1 0), .ref (u5 0), .ref (u8 0), .null, .null, .null]))] ++ ((pW g u2.1 (u2.2.1 0) (u2.2.2 0) X0D ++ (pP g u2.2.1 X0D ++ (pP g u2.2.2 X0D))) ++ ((pS g u5 (u2.1 0) XS0) ++ ((pS g u8 (u2.1 0) XS0) ++ (pH g u11.1 u11.2 (u2.1 0) XH0))))) H := hP
  have hD : va_D A ([(h0, .inr (5, [.ref (u2.1 0), .ref (u5 0), .ref (u8 0), .null, .null, .null]))] ++ ((pW g u2.1 (u2.2.1 0) (u2.2.2 0) X0D ++ (pP g u2.2.1 X0D ++ (pP g u2.2.2 X0D))) ++ ((pS g u5 (u2.1 0) XS0) ++ ((pS g u8 (u2.1 0) XS0) ++ (pH g u11.1 u11.2 (u2.1 0) XH0))))) := hD
  refine W.widen (k := 59) (n := 4721) (Nat.le_of_ble_eq_true rfl) (Nat.le_of_ble_eq_true rfl) ?_
  rw [← hu12]
  refine va_putF (D := g.1) (ci := 5) (v := .ref (u11.1 0)) (ty := (.object "WordFlasher$History")) (C := RX5) (T := TX5) (N := 6) hx hb hts i_X5 tyX5 tyX5_ok nmX5 hown hK hP hD hS 0 rfl rfl 3 (by decide) (hts (.fieldLink RX5 31 "WordFlasher" "history" "LWordFlasher$History;") (List.mem_of_getElem? (i := 16) rfl)) (fun _ h9 => h9) rfl hin rfl (by decide +kernel) rfl rfl (Nat.le_of_ble_eq_true rfl) dX5_init_57 (fun H locs hP hD hS => ?_)
  have hP : va_P g.1 vwCl ([(h0, .inr (5, [.ref (u2.1 0), .ref (u5 0), .ref (u8 0), .ref (u11.1 0), .null, .null]))] ++ ((pW g u2.1 (u2.2.1 0) (u2.2.2 0) X0D ++ (pP g u2.2.1 X0D ++ (pP g u2.2.2 X0D))) ++ ((pS g u5 (u2.1 0) XS0) ++ ((pS g u8 (u2.1 0) XS0) ++ (pH g u11.1 u11.2 (u2.1 0) XH0))))) H := hP
  have hD : va_D A ([(h0, .inr (5, [.ref (u2.1 0), .ref (u5 0), .ref (u8 0), .ref (u11.1 0), .null, .null]))] ++ ((pW g u2.1 (u2.2.1 0) (u2.2.2 0) X0D ++ (pP g u2.2.1 X0D ++ (pP g u2.2.2 X0D))) ++ ((pS g u5 (u2.1 0) XS0) ++ ((pS g u8 (u2.1 0) XS0) ++ (pH g u11.1 u11.2 (u2.1 0) XH0))))) := hD
  refine lv_aload_n hx hb dX5_init_60 rfl (lv_at hl 0 rfl) ?_
  refine va_new (ci := 1) (fs := [.null, .int 0]) (C := RX1) (T := TX1) (N := 2) hx hb hts i_X1 tyX1 tyX1_ok hown (hts (.classLink RX5 35 RX1) (List.mem_of_getElem? (i := 17) rfl)) (hts (.instantiable RX1 2) (List.mem_of_getElem? (i := 18) rfl)) (hts (.initialized RX1) (List.mem_of_getElem? (i := 19) rfl)) hK hP hD hS hA rfl (fun j hj => by rcases (show j = 0 ∨ j = 1 by omega) with rfl | rfl <;> rfl) (Nat.le_of_ble_eq_true rfl) (Nat.le_of_ble_eq_true rfl) dX5_init_61 (fun q13 H hP hD hS => ?_)
  have hP : va_P g.1 vwCl ([(h0, .inr (5, [.ref (u2.1 0), .ref (u5 0), .ref (u8 0), .ref (u11.1 0), .null, .null]))] ++ ((pW g u2.1 (u2.2.1 0) (u2.2.2 0) X0D ++ (pP g u2.2.1 X0D ++ (pP g u2.2.2 X0D))) ++ ((pS g u5 (u2.1 0) XS0) ++ ((pS g u8 (u2.1 0) XS0) ++ ((pH g u11.1 u11.2 (u2.1 0) XH0) ++ [(q13, .inr (1, [.null, .int 0]))]))))) H := hP
  have hD : va_D A ([(h0, .inr (5, [.ref (u2.1 0), .ref (u5 0), .ref (u8 0), .ref (u11.1 0), .null, .null]))] ++ ((pW g u2.1 (u2.2.1 0) (u2.2.2 0) X0D ++ (pP g u2.2.1 X0D ++ (pP g u2.2.2 X0D))) ++ ((pS g u5 (u2.1 0) XS0) ++ ((pS g u8 (u2.1 0) XS0) ++ ((pH g u11.1 u11.2 (u2.1 0) XH0) ++ [(q13, .inr (1, [.null, .int 0]))]))))) := hD
  refine W.widen (k := 60) (n := 4723) (Nat.le_of_ble_eq_true rfl) (Nat.le_of_ble_eq_true rfl) ?_
  refine lv_dup hx hb dX5_init_64 rfl ?_
  refine wr_n (rest := [.ref q13, .ref h0]) (wc := [(q13, .inr (1, [.null, .int 0]))]) (wr := ([(h0, .inr (5, [.ref (u2.1 0), .ref (u5 0), .ref (u8 0), .ref (u11.1 0), .null, .null]))] ++ ((pW g u2.1 (u2.2.1 0) (u2.2.2 0) X0D ++ (pP g u2.2.1 X0D ++ (pP g u2.2.2 X0D))) ++ ((pS g u5 (u2.1 0) XS0) ++ ((pS g u8 (u2.1 0) XS0) ++ (pH g u11.1 u11.2 (u2.1 0) XH0)))))) (w1 := fun (u : (Nat → Nat)) => pO g u X0D) (mc := 1) (ms := 60) hP hD hS hA [60] [0, 1, 2, 3, 4, 5, 6, 7, 8, 9, 10, 11, 12, 13, 14, 15, 16, 17, 18, 19, 20, 21, 22, 23, 24, 25, 26, 27, 28, 29, 30, 31, 32, 33, 34, 35, 36, 37, 38, 39, 40, 41, 42, 43, 44, 45, 46, 47, 48, 49, 50, 51, 52, 53, 54, 55, 56, 57, 58, 59] rfl rfl (by decide) (by decide) (rnI (As := []) (E := (fun _ => True)) (fun _ _ _ _ h => h) ⟨hx, hb, hml, hown, hts⟩ (c_X1_init l g q13 _) (cwI 0 hts gX5_init_X1_init rfl rfl rfl (hts (.initialized RX1) (List.mem_of_getElem? (i := 19) rfl)) (hts (.methodLink RX5 37 yX1_init) (List.mem_of_getElem? (i := 73) rfl)) (hts (.instanceMethod yX1_init) (List.mem_of_getElem? (i := 74) rfl)) rfl (by decide +kernel) ⟨Nat.le_of_ble_eq_true rfl, Nat.le_of_ble_eq_true rfl⟩) hKW hP hD [60] (by decide) rfl (fun _ _ _ => trivial) rfl hl.1 rfl (lv_room (Nat.le_of_ble_eq_true rfl)) dX5_init_65 ⟨Nat.le_of_ble_eq_true rfl, Nat.le_of_ble_eq_true rfl⟩) (fun u14 H locs hu15 hP hD hS => ?_)
  have hu15e := hu15
  have hP : va_P g.1 vwCl ([(h0, .inr (5, [.ref (u2.1 0), .ref (u5 0), .ref (u8 0), .ref (u11.1 0), .null, .null]))] ++ ((pW g u2.1 (u2.2.1 0) (u2.2.2 0) X0D ++ (pP g u2.2.1 X0D ++ (pP g u2.2.2 X0D))) ++ ((pS g u5 (u2.1 0) XS0) ++ ((pS g u8 (u2.1 0) XS0) ++ ((pH g u11.1 u11.2 (u2.1 0) XH0) ++ (pO g u14 X0D)))))) H := hP
  have hD : va_D A ([(h0, .inr (5, [.ref (u2.1 0), .ref (u5 0), .ref (u8 0), .ref (u11.1 0), .null, .null]))] ++ ((pW g u2.1 (u2.2.1 0) (u2.2.2 0) X0D ++ (pP g u2.2.1 X0D ++ (pP g u2.2.2 X0D))) ++ ((pS g u5 (u2.1 0) XS0) ++ ((pS g u8 (u2.1 0) XS0) ++ ((pH g u11.1 u11.2 (u2.1 0) XH0) ++ (pO g u14 X0D)))))) := hD
  refine W.widen (k := 61) (n := 4783) (Nat.le_of_ble_eq_true rfl) (Nat.le_of_ble_eq_true rfl) ?_
  rw [← hu15]
  refine va_putF (D := g.1) (ci := 5) (v := .ref (u14 0)) (ty := (.object "WordFlasher$Orders")) (C := RX5) (T := TX5) (N := 6) hx hb hts i_X5 tyX5 tyX5_ok nmX5 hown hK hP hD hS 0 rfl rfl 4 (by decide) (hts (.fieldLink RX5 38 "WordFlasher" "orders" "LWordFlasher$Orders;") (List.mem_of_getElem? (i := 20) rfl)) (fun _ h9 => h9) rfl hin rfl (by decide +kernel) rfl rfl (Nat.le_of_ble_eq_true rfl) dX5_init_68 (fun H locs hP hD hS => ?_)
  have hP : va_P g.1 vwCl ([(h0, .inr (5, [.ref (u2.1 0), .ref (u5 0), .ref (u8 0), .ref (u11.1 0), .ref (u14 0), .null]))] ++ ((pW g u2.1 (u2.2.1 0) (u2.2.2 0) X0D ++ (pP g u2.2.1 X0D ++ (pP g u2.2.2 X0D))) ++ ((pS g u5 (u2.1 0) XS0) ++ ((pS g u8 (u2.1 0) XS0) ++ ((pH g u11.1 u11.2 (u2.1 0) XH0) ++ (pO g u14 X0D)))))) H := hP
  have hD : va_D A ([(h0, .inr (5, [.ref (u2.1 0), .ref (u5 0), .ref (u8 0), .ref (u11.1 0), .ref (u14 0), .null]))] ++ ((pW g u2.1 (u2.2.1 0) (u2.2.2 0) X0D ++ (pP g u2.2.1 X0D ++ (pP g u2.2.2 X0D))) ++ ((pS g u5 (u2.1 0) XS0) ++ ((pS g u8 (u2.1 0) XS0) ++ ((pH g u11.1 u11.2 (u2.1 0) XH0) ++ (pO g u14 X0D)))))) := hD
  refine lv_aload_n hx hb dX5_init_71 rfl (lv_at hl 0 rfl) ?_
  refine lv_sipush (v := 150) hx hb dX5_init_72 (by decide) ?_
  refine nwA (atype := .int) hx hb (hts (.arrayClass .int) (List.mem_of_getElem? (i := 21) rfl)) rfl rfl hK 0 rfl rfl hP hD hS hA (by decide) (N' := 150) (by decide) (Nat.le_of_ble_eq_true rfl) (Nat.le_of_ble_eq_true rfl) (Nat.le_of_ble_eq_true rfl) dX5_init_75 (fun q16 H hP hD hS => ?_)
  have hP : va_P g.1 vwCl ([(h0, .inr (5, [.ref (u2.1 0), .ref (u5 0), .ref (u8 0), .ref (u11.1 0), .ref (u14 0), .null]))] ++ ((pW g u2.1 (u2.2.1 0) (u2.2.2 0) X0D ++ (pP g u2.2.1 X0D ++ (pP g u2.2.2 X0D))) ++ ((pS g u5 (u2.1 0) XS0) ++ ((pS g u8 (u2.1 0) XS0) ++ ((pH g u11.1 u11.2 (u2.1 0) XH0) ++ ((pO g u14 X0D) ++ [(q16, .inl (g.2.1, 150, .inl (fun _ => 0)))])))))) H := hP
  have hD : va_D A ([(h0, .inr (5, [.ref (u2.1 0), .ref (u5 0), .ref (u8 0), .ref (u11.1 0), .ref (u14 0), .null]))] ++ ((pW g u2.1 (u2.2.1 0) (u2.2.2 0) X0D ++ (pP g u2.2.1 X0D ++ (pP g u2.2.2 X0D))) ++ ((pS g u5 (u2.1 0) XS0) ++ ((pS g u8 (u2.1 0) XS0) ++ ((pH g u11.1 u11.2 (u2.1 0) XH0) ++ ((pO g u14 X0D) ++ [(q16, .inl (g.2.1, 150, .inl (fun _ => 0)))])))))) := hD
  refine W.widen (k := 62) (n := 4933) (Nat.le_of_ble_eq_true rfl) (Nat.le_of_ble_eq_true rfl) ?_
  refine va_putF (D := g.1) (ci := 5) (v := .ref q16) (ty := (.array .int)) (C := RX5) (T := TX5) (N := 6) hx hb hts i_X5 tyX5 tyX5_ok nmX5 hown hK hP hD hS 0 rfl rfl 5 (by decide) (hts (.fieldLink RX5 42 "WordFlasher" "times" "[I") (List.mem_of_getElem? (i := 22) rfl)) (fun _ h9 => h9) rfl hin rfl (by decide +kernel) rfl rfl (Nat.le_of_ble_eq_true rfl) dX5_init_77 (fun H locs hP hD hS => ?_)
  have hP : va_P g.1 vwCl ([(h0, .inr (5, [.ref (u2.1 0), .ref (u5 0), .ref (u8 0), .ref (u11.1 0), .ref (u14 0), .ref q16]))] ++ ((pW g u2.1 (u2.2.1 0) (u2.2.2 0) X0D ++ (pP g u2.2.1 X0D ++ (pP g u2.2.2 X0D))) ++ ((pS g u5 (u2.1 0) XS0) ++ ((pS g u8 (u2.1 0) XS0) ++ ((pH g u11.1 u11.2 (u2.1 0) XH0) ++ ((pO g u14 X0D) ++ [(q16, .inl (g.2.1, 150, .inl (fun _ => 0)))])))))) H := hP
  have hD : va_D A ([(h0, .inr (5, [.ref (u2.1 0), .ref (u5 0), .ref (u8 0), .ref (u11.1 0), .ref (u14 0), .ref q16]))] ++ ((pW g u2.1 (u2.2.1 0) (u2.2.2 0) X0D ++ (pP g u2.2.1 X0D ++ (pP g u2.2.2 X0D))) ++ ((pS g u5 (u2.1 0) XS0) ++ ((pS g u8 (u2.1 0) XS0) ++ ((pH g u11.1 u11.2 (u2.1 0) XH0) ++ ((pO g u14 X0D) ++ [(q16, .inl (g.2.1, 150, .inl (fun _ => 0)))])))))) := hD
  refine W.widen (k := 62) (n := 4933) (Nat.le_of_ble_eq_true rfl) (Nat.le_of_ble_eq_true rfl) ?_
  have hP := hP.sub (ws' := w5 g (lsA [h0, q16]) u5 u8 u2.1 u2.2.1 u2.2.2 u14 u11.1 u11.2 X0D XS0 XS0 X0D X0D X0D X0D XH0) [0, 62, 16, 17, 18, 19, 20, 21, 22, 23, 24, 25, 26, 27, 28, 29, 1, 2, 3, 4, 5, 6, 7, 8, 9, 10, 11, 12, 13, 14, 15, 60, 61, 30, 31, 32, 33, 34, 35, 36, 37, 38, 39, 40, 41, 42, 43, 44, 45, 46, 47, 48, 49, 50, 51, 52, 53, 54, 55, 56, 57, 58, 59] rfl
  have hD := hD.sub (ws' := w5 g (lsA [h0, q16]) u5 u8 u2.1 u2.2.1 u2.2.2 u14 u11.1 u11.2 X0D XS0 XS0 X0D X0D X0D X0D XH0) [0, 62, 16, 17, 18, 19, 20, 21, 22, 23, 24, 25, 26, 27, 28, 29, 1, 2, 3, 4, 5, 6, 7, 8, 9, 10, 11, 12, 13, 14, 15, 60, 61, 30, 31, 32, 33, 34, 35, 36, 37, 38, 39, 40, 41, 42, 43, 44, 45, 46, 47, 48, 49, 50, 51, 52, 53, 54, 55, 56, 57, 58, 59] (by decide) rfl
  rw [← hQ0]; exact W.vret hx hb hr (fun t ht hW => ⟨⟨(lsA [h0, q16], u5, u8, u2.1, u2.2.1, u2.2.2, u14, u11.1, u11.2), rfl, rfl, by dsimp only; rw [ht]; exact ⟨hP, hD⟩⟩, hS.F ht⟩) hS.2.2 dX5_init_80
