/-! the history: four states, their order, how many are kept -/
abbrev HD : Type := (Nat → Nat) × DM × (Nat → DM)
abbrev pSf (a : Nat → Nat) (w : Nat) (X : DM) : List Value := [.ref w, .ref (a 1), .int (X 2 0), .ref (a 2), .ref (a 3), .ref (a 4), .int (X 6 0), .int (X 7 0), .ref (a 5), .int (X 9 0), .ref (a 6), .int (X 11 0), .int (X 12 0), .int (X 13 0), .int (X 14 0)]
abbrev pHo (g : GG) (a : Nat → Nat) (q : Nat → Option Nat) (k : Int32) : va_W := [(a 0, .inr (0, [.ref (a 1), .int k])), (a 1, .inl (g.2.2.2.2, 4, .inr (.inr (.inr (.inr q)))))]
abbrev pHs (g : GG) (b : Nat → Nat → Nat) (w : Nat) (B : Nat → DM) : va_W := pS g (b 0) w (B 0) ++ (pS g (b 1) w (B 1) ++ (pS g (b 2) w (B 2) ++ pS g (b 3) w (B 3)))
abbrev qH (b : Nat → Nat → Nat) (o : Nat → Nat) : Nat → Option Nat := fun i => some (b (o i) 0)
abbrev pH (g : GG) (a : Nat → Nat) (b : Nat → Nat → Nat) (w : Nat) (X : HD) : va_W := pHo g a (qH b X.1) (X.2.1 1 0) ++ pHs g b w X.2.2
abbrev okH (X : HD) : Prop := X.1 0 < 4 ∧ X.1 1 < 4 ∧ X.1 2 < 4 ∧ X.1 3 < 4
def rotH (o : Nat → Nat) : Nat → Nat := fun i => if i = 0 then o 1 else if i = 1 then o 2 else if i = 2 then o 3 else if i = 3 then o 0 else o i
def fX0_dropOldest (X : HD) : HD := (rotH X.1, va_up X.2.1 1 (fun _ => 3), X.2.2)
def fX0_keep (XT : DM) (X : HD) : Option HD :=
  if okH X then
    (sl (if X.2.1 1 0 < 4 then X else fX0_dropOldest X) fun X1 =>
    if ¬ (X1.2.1 1 0 < 0 ∨ 4 ≤ (X1.2.1 1 0).toNatClampNeg) then
      (sl (X1.1 (X1.2.1 1 0).toNatClampNeg) fun j =>
      bnd (fX3_copy (X1.2.2 j) XT) fun S => some (X1.1, va_up X1.2.1 1 (fun _ => X1.2.1 1 0 + 1), va_up X1.2.2 j S))
    else none) else none
def fX0_restore (XT : DM) (X : HD) : Option (DM × HD) :=
  if okH X then
    (if ¬ (X.2.1 1 0 - 1 < 0 ∨ 4 ≤ (X.2.1 1 0 - 1).toNatClampNeg) then
      (bnd (fX3_copy XT (X.2.2 (X.1 (X.2.1 1 0 - 1).toNatClampNeg))) fun S => some (S, X.1, va_up X.2.1 1 (fun _ => X.2.1 1 0 - 1), X.2.2))
    else none) else none
theorem pH_st (g : GG) (a : Nat → Nat) (q : Nat → Option Nat) (k : Int32) (b : Nat → Nat → Nat) (w : Nat) (B : Nat → DM) (T : va_W) (j : Nat) (hj : j < 4) : ((pHo g a q k ++ pHs g b w B) ++ T)[2 + 7 * j]? = some (b j 0, .inr (3, pSf (b j) w (B j))) := by
  rcases (show j = 0 ∨ j = 1 ∨ j = 2 ∨ j = 3 by omega) with rfl | rfl | rfl | rfl <;> rfl
theorem okH_at {X : HD} (h : okH X) {i : Int32} (hi : vp_in i 4) : X.1 i.toNatClampNeg < 4 := by
  obtain ⟨j, hj, rfl⟩ := vp_in_of hi (by decide)
  rw [nI_clamp (by omega)]
  obtain ⟨h0, h1, h2, h3⟩ := h
  rcases (show j = 0 ∨ j = 1 ∨ j = 2 ∨ j = 3 by omega) with rfl | rfl | rfl | rfl <;> assumption
theorem rot_q (b : Nat → Nat → Nat) (o : Nat → Nat) : va_up (va_up (va_up (va_up (qH b o) 0 (some (b (o 1) 0))) 1 (some (b (o 2) 0))) 2 (some (b (o 3) 0))) 3 (some (b (o 0) 0)) = qH b (rotH o) := by
  funext i
  simp only [va_up, qH, rotH]
  by_cases h3 : i = 3
  · subst h3; simp
  · by_cases h2 : i = 2
    · subst h2; simp
    · by_cases h1 : i = 1
      · subst h1; simp
      · by_cases h0 : i = 0
        · subst h0; simp
        · simp [h3, h2, h1, h0]
theorem vp4_nle {i : Int32} (h : vp_in i 4) : ¬ (4 : Int32) ≤ i := by
  obtain ⟨j, hj, rfl⟩ := vp_in_of h (by decide)
  intro h4
  exact absurd h4 (by rw [show (4 : Int32) = nI 4 from rfl, nI_leI (by omega) (by omega)]; omega)
section CALLQ
variable {p : Program} {l : Launch} {e : Env} {R : Room} {s : State} {m : MethodId} {args : Array Value} {below : List Frame} {meth : Method} {c : Code} {H H0 : Heap} {locs : List Loc} {cells slots : Nat} {Q : State → Prop} {A : Nat → Prop}
variable {y : MethodName} {bytes cc : ByteArray} {maxL nL n index : Nat} {ret : Option FieldType} {ws : List Cond} {rm : Room} {Ts : List Cond} {own C host : String} {b : Addr} {As rest : List Value} {g : GG} {ws0 wc wc' ws2 : va_W} {pc : Nat} {ls : Array Slot} {st0 : List Value}
theorem rqV {r : Option Nat} (S : CallFix p m c cc nL s args Ts own) (hM : Met l y ws rm (va_Pc (.ref b :: As) (fun U => va_P g.1 vwCl wc U.heap ∧ KW g U)) (va_Sq (fun r' => r' = r)) 0 0 (fun _ => False)) (cw : CallW R s args own C index y bytes maxL ret ws rm 0 0 n) (hK : KW g s) (hP : va_P g.1 vwCl ws0 H) (isC : List Nat) (hC : isC.map (fun i => ws0[i]?) = wc.map some) (hr : ∃ cellB : Cell, H[b]? = some cellB ∧ cellB.vm.isStatics = false ∧ s.vm.findClass C = some cellB.cls) (hn : As.length = n) (hsize : ls.size = nL) (hst : st0 = As.reverse ++ .ref b :: rest) (hW : 2 * (F0 m pc ls st0).monitorRoom + (rest.map fun v => v.category).sum ≤ 8) (hdg : decode cc pc = .ok (.invokevirtual index, 3)) (hf : cells ≤ R.cells ∧ slots ≤ R.slots)
    (kk : W p l e R s m args below meth c H locs cells slots Q (F0 m (pc + 3) ls (va_rf r :: rest))) : W p l e R s m args below meth c H locs cells slots Q (F0 m pc ls st0) :=
  va_csq (W.runV S hM cw ⟨fbR, hr, fun U hU hW => ⟨rfl, by rw [hU]; exact hP.subm isC hC, KW.warm hW hK⟩⟩ rfl hn hsize hst hW hdg hf) (fun r' hr' => hr' ▸ kk)
end CALLQ

abbrev rmX0_stateAt : Room := { frames := 0, cells := 0, slots := 0, locals := 0 }
set_option maxHeartbeats 8000000 in
set_option maxRecDepth 100000 in
theorem c_X0_stateAt (l : Launch) (g : GG) (aH : Nat → Nat) (q : Nat → Option Nat) (k : Int32) (p1 : Int32) (hin : vp_in p1 4) : Met l yX0_stateAt wsX0_stateAt rmX0_stateAt (va_Pc [.ref (aH 0), .int p1] (fun U => va_P g.1 vwCl (pHo g aH q k) U.heap ∧ KW g U)) (va_Sq (fun r' => r' = q p1.toNatClampNeg)) 0 0 (fun _ => False) := by
  refine Met.ofW (cc := cX0_stateAt) (maxL := 2) (ret := (some (.object "WordFlasher$State"))) (by decide) rfl ?_
  intro p e s m args below meth c s₁ B hml hv
  obtain ⟨hargs, hP, hKW⟩ := hv
  have hK := hKW.1
  have hx := B.exec
  have hb := B.bytes
  have hr := B.returns
  have hts := atoms_spec (ws := wsX0_stateAt) B.pre
  have hown : s.vm.findClass RX0 = some m.cls := findClass_of_methodNamed B.named
  have hlocks := B.notSynchronized
  have i_X0 : ∀ w ∈ wsX00, w ∈ wsX0_stateAt := fun w h => List.mem_cons_of_mem _ (List.mem_append_right _ h)
  have hent : entryFrame m args 2 = F0 m 0 ((lg_sl ([.ref (aH 0), .int p1]) ++ List.replicate (2 - (lg_sl ([.ref (aH 0), .int p1])).length) Slot.unset).toArray) [] := by rw [hargs]; exact lg_entry_eq _ _ _
  rw [hent]
  have hl := lv_entry ([.ref (aH 0), .int p1]) (n := 2) (Nat.le_of_ble_eq_true rfl)
  generalize (lg_sl ([.ref (aH 0), .int p1]) ++ List.replicate (2 - (lg_sl ([.ref (aH 0), .int p1])).length) Slot.unset).toArray = ls at hl ⊢
  have hl : lv_has ls 2 [(0, .ref (aH 0)), (1, .int p1)] := hl
  generalize hQ0 : MQ below _ _ _ _ _ _ = Q0
  refine lv_iload_n hx hb dX0_stateAt_0 rfl (lv_at hl 1 rfl) ?_
  refine lv_if_lt (tgt := 22) hx hb dX0_stateAt_1 (by decide) (fun c1 => absurd (Or.inl c1) hin) (fun c1 => ?_)
  refine lv_iload_n hx hb dX0_stateAt_4 rfl (lv_at hl 1 rfl) ?_
  refine lv_aload_n hx hb dX0_stateAt_5 rfl (lv_at hl 0 rfl) ?_
  refine va_get (D := g.1) (ci := 0) (v := .ref (aH 1)) (C := RX0) (T := TX0) (N := 2) hx hb hts i_X0 hown hK hP 0 rfl rfl 0 (by decide) (hts (.fieldLink RX0 11 "WordFlasher$History" "states" "[LWordFlasher$State;") (List.mem_of_getElem? (i := 1) rfl)) (fun _ h9 => h9) rfl dX0_stateAt_6 ?_
  refine va_alen (v := 4) hx hb hK hP 1 3 rfl rfl rfl dX0_stateAt_9 ?_
  refine lv_icmp_ge (tgt := 22) hx hb dX0_stateAt_10 (by decide) (fun c2 => absurd c2 (vp4_nle hin)) (fun c2 => ?_)
  refine lv_aload_n hx hb dX0_stateAt_13 rfl (lv_at hl 0 rfl) ?_
  refine va_get (D := g.1) (ci := 0) (v := .ref (aH 1)) (C := RX0) (T := TX0) (N := 2) hx hb hts i_X0 hown hK hP 0 rfl rfl 0 (by decide) (hts (.fieldLink RX0 11 "WordFlasher$History" "states" "[LWordFlasher$State;") (List.mem_of_getElem? (i := 1) rfl)) (fun _ h9 => h9) rfl dX0_stateAt_14 ?_
  refine lv_iload_n hx hb dX0_stateAt_17 rfl (lv_at hl 1 rfl) ?_
  refine va_aldq hx hb hK hP 1 3 rfl rfl hin dX0_stateAt_18 ?_
  refine lv_goto (tgt := 23) hx hb dX0_stateAt_19 (by decide) ?_
  rw [← hQ0]
  refine W.aret (v := va_rf (q p1.toNatClampNeg)) (rt := .object "WordFlasher$State") hx hb hr (Or.inl ⟨_, rfl⟩) ?_ (fun t ht hW => ⟨_, rfl, rfl, ht⟩) (fun q h => by cases h) dX0_stateAt_23
  cases q p1.toNatClampNeg with
  | none => exact Or.inl rfl
  | some x => exact Or.inr ⟨x, rfl⟩

abbrev rmX0_dropOldest : Room := { frames := 1, cells := 0, slots := 0, locals := 21 }
set_option maxHeartbeats 8000000 in
set_option maxRecDepth 100000 in
theorem c_X0_dropOldest (l : Launch) (g : GG) (aH : Nat → Nat) (aB : Nat → Nat → Nat) (w sz : Nat) (X : HD) (hok : okH X) : Met l yX0_dropOldest wsX0_dropOldest rmX0_dropOldest (va_Pc [.ref (aH 0)] (fun U => U.heap.size = sz ∧ va_P g.1 vwCl (pH g aH aB w X) U.heap ∧ KW g U ∧ va_D (fun _ => True) (pH g aH aB w X))) (va_Qv (fun (_ : Unit) => True) (fun (_ : Unit) t => va_P g.1 vwCl (pH g aH aB w (fX0_dropOldest X)) t.heap) (va_A (pH g aH aB w X) sz)) 0 0 (va_A (pH g aH aB w X) sz) := by
  refine Met.ofW (cc := cX0_dropOldest) (maxL := 3) (ret := none) (by decide) rfl ?_
  intro p e s m args below meth c s₁ B hml hv
  obtain ⟨hargs, hsz, hP, hKW, hD0⟩ := hv
  have hK := hKW.1
  have hx := B.exec
  have hb := B.bytes
  have hr := B.returns
  have hts := atoms_spec (ws := wsX0_dropOldest) B.pre
  have hown : s.vm.findClass RX0 = some m.cls := findClass_of_methodNamed B.named
  have hlocks := B.notSynchronized
  subst hsz
  have hD := hD0.self (sz := s.heap.size)
  generalize hAe : va_A (pH g aH aB w X) s.heap.size = A at hD ⊢
  have hA : ∀ q : Nat, s.heap.size ≤ q → A q := fun q h => by rw [← hAe]; exact Or.inr h
  have hS : va_S A s.heap s.heap [] := va_S.rf
  have i_X0 : ∀ w ∈ wsX00, w ∈ wsX0_dropOldest := fun w h => List.mem_cons_of_mem _ (List.mem_append_right _ h)
  have hent : entryFrame m args 3 = F0 m 0 ((lg_sl ([.ref (aH 0)]) ++ List.replicate (3 - (lg_sl ([.ref (aH 0)])).length) Slot.unset).toArray) [] := by rw [hargs]; exact lg_entry_eq _ _ _
  rw [hent]
  have hl := lv_entry ([.ref (aH 0)]) (n := 3) (Nat.le_of_ble_eq_true rfl)
  generalize (lg_sl ([.ref (aH 0)]) ++ List.replicate (3 - (lg_sl ([.ref (aH 0)])).length) Slot.unset).toArray = ls at hl ⊢
  have hl : lv_has ls 3 [(0, .ref (aH 0))] := hl
  generalize hQ0 : MQ below _ _ _ _ _ _ = Q0
  obtain ⟨o0, o1, o2, o3⟩ := id hok
  have hP : va_P g.1 vwCl ((pHo g aH (qH aB X.1) (X.2.1 1 0) ++ pHs g aB w X.2.2) ++ ([] : va_W)) s.heap := hP
  have hD : va_D A ((pHo g aH (qH aB X.1) (X.2.1 1 0) ++ pHs g aB w X.2.2) ++ ([] : va_W)) := hD
  refine lv_aload_n hx hb dX0_dropOldest_0 rfl (lv_at hl 0 rfl) ?_
  refine lv_iconst (v := 0) hx hb dX0_dropOldest_1 (by decide) ?_
  refine rqV (As := [.int 0]) (rest := []) ⟨hx, hb, hml, hown, hts⟩ (c_X0_stateAt l g aH (qH aB X.1) (X.2.1 1 0) 0 (by unfold vp_in; decide)) (cwV 1 hts gX0_dropOldest_X0_stateAt rfl rfl rfl (by decide +kernel) ⟨Nat.le_of_ble_eq_true rfl, Nat.le_of_ble_eq_true rfl⟩) hKW hP [0, 1] rfl (va_recv hK hP (ci := 0) (q0 := 0) rfl rfl) rfl hl.1 rfl (lv_room (Nat.le_of_ble_eq_true rfl)) dX0_dropOldest_2 ⟨Nat.zero_le _, Nat.zero_le _⟩ ?_
  refine W.eq (g2 := F0 m 5 ls [.ref (aB (X.1 0) 0)]) rfl ?_
  refine lv_astore_n (lv' := [(1, .ref (aB (X.1 0) 0)), (0, .ref (aH 0))]) hx hb dX0_dropOldest_5 rfl hl (by decide) rfl (fun ls hl => ?_)
  refine lv_iconst (v := 1) hx hb dX0_dropOldest_6 (by decide) ?_
  refine lv_istore_n (lv' := [(2, .int 1), (1, .ref (aB (X.1 0) 0)), (0, .ref (aH 0))]) hx hb dX0_dropOldest_7 rfl hl (by decide) rfl (fun ls hl => ?_)
  refine lv_iload_n hx hb dX0_dropOldest_8 rfl (lv_at hl 0 rfl) ?_
  refine lv_aload_n hx hb dX0_dropOldest_9 rfl (lv_at hl 2 rfl) ?_
  refine va_get (D := g.1) (ci := 0) (v := .ref (aH 1)) (C := RX0) (T := TX0) (N := 2) hx hb hts i_X0 hown hK hP 0 rfl rfl 0 (by decide) (hts (.fieldLink RX0 11 "WordFlasher$History" "states" "[LWordFlasher$State;") (List.mem_of_getElem? (i := 1) rfl)) (fun _ h9 => h9) rfl dX0_dropOldest_10 ?_
  refine va_alen (v := 4) hx hb hK hP 1 3 rfl rfl rfl dX0_dropOldest_13 ?_
  refine lv_icmp_ge (tgt := 37) hx hb dX0_dropOldest_14 (by decide) (fun c => absurd c (by decide)) (fun c => ?_)
  refine lv_aload_n hx hb dX0_dropOldest_17 rfl (lv_at hl 2 rfl) ?_
  refine va_get (D := g.1) (ci := 0) (v := .ref (aH 1)) (C := RX0) (T := TX0) (N := 2) hx hb hts i_X0 hown hK hP 0 rfl rfl 0 (by decide) (hts (.fieldLink RX0 11 "WordFlasher$History" "states" "[LWordFlasher$State;") (List.mem_of_getElem? (i := 1) rfl)) (fun _ h9 => h9) rfl dX0_dropOldest_18 ?_
  refine lv_iload_n hx hb dX0_dropOldest_21 rfl (lv_at hl 0 rfl) ?_
  refine lv_iconst (v := 1) hx hb dX0_dropOldest_22 (by decide) ?_
  refine lv_isub hx hb dX0_dropOldest_23 ?_
  refine lv_as (y := 0) (by decide) ?_
  refine lv_aload_n hx hb dX0_dropOldest_24 rfl (lv_at hl 2 rfl) ?_
  refine va_get (D := g.1) (ci := 0) (v := .ref (aH 1)) (C := RX0) (T := TX0) (N := 2) hx hb hts i_X0 hown hK hP 0 rfl rfl 0 (by decide) (hts (.fieldLink RX0 11 "WordFlasher$History" "states" "[LWordFlasher$State;") (List.mem_of_getElem? (i := 1) rfl)) (fun _ h9 => h9) rfl dX0_dropOldest_25 ?_
  refine lv_iload_n hx hb dX0_dropOldest_28 rfl (lv_at hl 0 rfl) ?_
  refine va_aldq (i := 1) hx hb hK hP 1 3 rfl rfl (by unfold vp_in; decide) dX0_dropOldest_29 ?_
  refine W.eq (g2 := F0 m 30 ls [.ref (aB (X.1 1) 0), .int 0, .ref (aH 1)]) rfl ?_
  refine va_astq (v := aB (X.1 1) 0) (r := (RX3, TX3, 15)) (i := 0) hx hb hK hP hD hS 1 3 (2 + 7 * X.1 1) 3 rfl rfl (pH_st g aH _ _ aB w X.2.2 [] (X.1 1) o1) rfl (by unfold vp_in; decide) dX0_dropOldest_30 (fun H locs hP hD hS => ?_)
  have hP : va_P g.1 vwCl ((pHo g aH (va_up (qH aB X.1) 0 (some (aB (X.1 1) 0))) (X.2.1 1 0) ++ pHs g aB w X.2.2) ++ ([] : va_W)) H := hP
  have hD : va_D A ((pHo g aH (va_up (qH aB X.1) 0 (some (aB (X.1 1) 0))) (X.2.1 1 0) ++ pHs g aB w X.2.2) ++ ([] : va_W)) := hD
  refine lv_iinc (v := 2) (lv' := [(2, .int 2), (1, .ref (aB (X.1 0) 0)), (0, .ref (aH 0))]) hx hb dX0_dropOldest_31 hl (k := 0) rfl (by decide) (by decide) rfl (fun ls hl => ?_)
  refine lv_goto (tgt := 8) hx hb dX0_dropOldest_34 (by decide) ?_
  refine lv_iload_n hx hb dX0_dropOldest_8 rfl (lv_at hl 0 rfl) ?_
  refine lv_aload_n hx hb dX0_dropOldest_9 rfl (lv_at hl 2 rfl) ?_
  refine va_get (D := g.1) (ci := 0) (v := .ref (aH 1)) (C := RX0) (T := TX0) (N := 2) hx hb hts i_X0 hown hK hP 0 rfl rfl 0 (by decide) (hts (.fieldLink RX0 11 "WordFlasher$History" "states" "[LWordFlasher$State;") (List.mem_of_getElem? (i := 1) rfl)) (fun _ h9 => h9) rfl dX0_dropOldest_10 ?_
  refine va_alen (v := 4) hx hb hK hP 1 3 rfl rfl rfl dX0_dropOldest_13 ?_
  refine lv_icmp_ge (tgt := 37) hx hb dX0_dropOldest_14 (by decide) (fun c => absurd c (by decide)) (fun c => ?_)
  refine lv_aload_n hx hb dX0_dropOldest_17 rfl (lv_at hl 2 rfl) ?_
  refine va_get (D := g.1) (ci := 0) (v := .ref (aH 1)) (C := RX0) (T := TX0) (N := 2) hx hb hts i_X0 hown hK hP 0 rfl rfl 0 (by decide) (hts (.fieldLink RX0 11 "WordFlasher$History" "states" "[LWordFlasher$State;") (List.mem_of_getElem? (i := 1) rfl)) (fun _ h9 => h9) rfl dX0_dropOldest_18 ?_
  refine lv_iload_n hx hb dX0_dropOldest_21 rfl (lv_at hl 0 rfl) ?_
  refine lv_iconst (v := 1) hx hb dX0_dropOldest_22 (by decide) ?_
  refine lv_isub hx hb dX0_dropOldest_23 ?_
  refine lv_as (y := 1) (by decide) ?_
  refine lv_aload_n hx hb dX0_dropOldest_24 rfl (lv_at hl 2 rfl) ?_
  refine va_get (D := g.1) (ci := 0) (v := .ref (aH 1)) (C := RX0) (T := TX0) (N := 2) hx hb hts i_X0 hown hK hP 0 rfl rfl 0 (by decide) (hts (.fieldLink RX0 11 "WordFlasher$History" "states" "[LWordFlasher$State;") (List.mem_of_getElem? (i := 1) rfl)) (fun _ h9 => h9) rfl dX0_dropOldest_25 ?_
  refine lv_iload_n hx hb dX0_dropOldest_28 rfl (lv_at hl 0 rfl) ?_
  refine va_aldq (i := 2) hx hb hK hP 1 3 rfl rfl (by unfold vp_in; decide) dX0_dropOldest_29 ?_
  refine W.eq (g2 := F0 m 30 ls [.ref (aB (X.1 2) 0), .int 1, .ref (aH 1)]) rfl ?_
  refine va_astq (v := aB (X.1 2) 0) (r := (RX3, TX3, 15)) (i := 1) hx hb hK hP hD hS 1 3 (2 + 7 * X.1 2) 3 rfl rfl (pH_st g aH _ _ aB w X.2.2 [] (X.1 2) o2) rfl (by unfold vp_in; decide) dX0_dropOldest_30 (fun H locs hP hD hS => ?_)
  have hP : va_P g.1 vwCl ((pHo g aH (va_up (va_up (qH aB X.1) 0 (some (aB (X.1 1) 0))) 1 (some (aB (X.1 2) 0))) (X.2.1 1 0) ++ pHs g aB w X.2.2) ++ ([] : va_W)) H := hP
  have hD : va_D A ((pHo g aH (va_up (va_up (qH aB X.1) 0 (some (aB (X.1 1) 0))) 1 (some (aB (X.1 2) 0))) (X.2.1 1 0) ++ pHs g aB w X.2.2) ++ ([] : va_W)) := hD
  refine lv_iinc (v := 3) (lv' := [(2, .int 3), (1, .ref (aB (X.1 0) 0)), (0, .ref (aH 0))]) hx hb dX0_dropOldest_31 hl (k := 0) rfl (by decide) (by decide) rfl (fun ls hl => ?_)
  refine lv_goto (tgt := 8) hx hb dX0_dropOldest_34 (by decide) ?_
  refine lv_iload_n hx hb dX0_dropOldest_8 rfl (lv_at hl 0 rfl) ?_
  refine lv_aload_n hx hb dX0_dropOldest_9 rfl (lv_at hl 2 rfl) ?_
  refine va_get (D := g.1) (ci := 0) (v := .ref (aH 1)) (C := RX0) (T := TX0) (N := 2) hx hb hts i_X0 hown hK hP 0 rfl rfl 0 (by decide) (hts (.fieldLink RX0 11 "WordFlasher$History" "states" "[LWordFlasher$State;") (List.mem_of_getElem? (i := 1) rfl)) (fun _ h9 => h9) rfl dX0_dropOldest_10 ?_
  refine va_alen (v := 4) hx hb hK hP 1 3 rfl rfl rfl dX0_dropOldest_13 ?_
  refine lv_icmp_ge (tgt := 37) hx hb dX0_dropOldest_14 (by decide) (fun c => absurd c (by decide)) (fun c => ?_)
  refine lv_aload_n hx hb dX0_dropOldest_17 rfl (lv_at hl 2 rfl) ?_
  refine va_get (D := g.1) (ci := 0) (v := .ref (aH 1)) (C := RX0) (T := TX0) (N := 2) hx hb hts i_X0 hown hK hP 0 rfl rfl 0 (by decide) (hts (.fieldLink RX0 11 "WordFlasher$History" "states" "[LWordFlasher$State;") (List.mem_of_getElem? (i := 1) rfl)) (fun _ h9 => h9) rfl dX0_dropOldest_18 ?_
  refine lv_iload_n hx hb dX0_dropOldest_21 rfl (lv_at hl 0 rfl) ?_
  refine lv_iconst (v := 1) hx hb dX0_dropOldest_22 (by decide) ?_
  refine lv_isub hx hb dX0_dropOldest_23 ?_
  refine lv_as (y := 2) (by decide) ?_
  refine lv_aload_n hx hb dX0_dropOldest_24 rfl (lv_at hl 2 rfl) ?_
  refine va_get (D := g.1) (ci := 0) (v := .ref (aH 1)) (C := RX0) (T := TX0) (N := 2) hx hb hts i_X0 hown hK hP 0 rfl rfl 0 (by decide) (hts (.fieldLink RX0 11 "WordFlasher$History" "states" "[LWordFlasher$State;") (List.mem_of_getElem? (i := 1) rfl)) (fun _ h9 => h9) rfl dX0_dropOldest_25 ?_
  refine lv_iload_n hx hb dX0_dropOldest_28 rfl (lv_at hl 0 rfl) ?_
  refine va_aldq (i := 3) hx hb hK hP 1 3 rfl rfl (by unfold vp_in; decide) dX0_dropOldest_29 ?_
  refine W.eq (g2 := F0 m 30 ls [.ref (aB (X.1 3) 0), .int 2, .ref (aH 1)]) rfl ?_
  refine va_astq (v := aB (X.1 3) 0) (r := (RX3, TX3, 15)) (i := 2) hx hb hK hP hD hS 1 3 (2 + 7 * X.1 3) 3 rfl rfl (pH_st g aH _ _ aB w X.2.2 [] (X.1 3) o3) rfl (by unfold vp_in; decide) dX0_dropOldest_30 (fun H locs hP hD hS => ?_)
  have hP : va_P g.1 vwCl ((pHo g aH (va_up (va_up (va_up (qH aB X.1) 0 (some (aB (X.1 1) 0))) 1 (some (aB (X.1 2) 0))) 2 (some (aB (X.1 3) 0))) (X.2.1 1 0) ++ pHs g aB w X.2.2) ++ ([] : va_W)) H := hP
  have hD : va_D A ((pHo g aH (va_up (va_up (va_up (qH aB X.1) 0 (some (aB (X.1 1) 0))) 1 (some (aB (X.1 2) 0))) 2 (some (aB (X.1 3) 0))) (X.2.1 1 0) ++ pHs g aB w X.2.2) ++ ([] : va_W)) := hD
  refine lv_iinc (v := 4) (lv' := [(2, .int 4), (1, .ref (aB (X.1 0) 0)), (0, .ref (aH 0))]) hx hb dX0_dropOldest_31 hl (k := 0) rfl (by decide) (by decide) rfl (fun ls hl => ?_)
  refine lv_goto (tgt := 8) hx hb dX0_dropOldest_34 (by decide) ?_
  refine lv_iload_n hx hb dX0_dropOldest_8 rfl (lv_at hl 0 rfl) ?_
  refine lv_aload_n hx hb dX0_dropOldest_9 rfl (lv_at hl 2 rfl) ?_
  refine va_get (D := g.1) (ci := 0) (v := .ref (aH 1)) (C := RX0) (T := TX0) (N := 2) hx hb hts i_X0 hown hK hP 0 rfl rfl 0 (by decide) (hts (.fieldLink RX0 11 "WordFlasher$History" "states" "[LWordFlasher$State;") (List.mem_of_getElem? (i := 1) rfl)) (fun _ h9 => h9) rfl dX0_dropOldest_10 ?_
  refine va_alen (v := 4) hx hb hK hP 1 3 rfl rfl rfl dX0_dropOldest_13 ?_
  refine lv_icmp_ge (tgt := 37) hx hb dX0_dropOldest_14 (by decide) (fun c => ?_) (fun c => absurd (by decide) c)
  refine lv_aload_n hx hb dX0_dropOldest_37 rfl (lv_at hl 2 rfl) ?_
  refine va_get (D := g.1) (ci := 0) (v := .ref (aH 1)) (C := RX0) (T := TX0) (N := 2) hx hb hts i_X0 hown hK hP 0 rfl rfl 0 (by decide) (hts (.fieldLink RX0 11 "WordFlasher$History" "states" "[LWordFlasher$State;") (List.mem_of_getElem? (i := 1) rfl)) (fun _ h9 => h9) rfl dX0_dropOldest_38 ?_
  refine va_alen (v := 4) hx hb hK hP 1 3 rfl rfl rfl dX0_dropOldest_41 ?_
  refine lv_if_le (tgt := 58) hx hb dX0_dropOldest_42 (by decide) (fun c => absurd c (by decide)) (fun c => ?_)
  refine lv_aload_n hx hb dX0_dropOldest_45 rfl (lv_at hl 2 rfl) ?_
  refine va_get (D := g.1) (ci := 0) (v := .ref (aH 1)) (C := RX0) (T := TX0) (N := 2) hx hb hts i_X0 hown hK hP 0 rfl rfl 0 (by decide) (hts (.fieldLink RX0 11 "WordFlasher$History" "states" "[LWordFlasher$State;") (List.mem_of_getElem? (i := 1) rfl)) (fun _ h9 => h9) rfl dX0_dropOldest_46 ?_
  refine lv_aload_n hx hb dX0_dropOldest_49 rfl (lv_at hl 2 rfl) ?_
  refine va_get (D := g.1) (ci := 0) (v := .ref (aH 1)) (C := RX0) (T := TX0) (N := 2) hx hb hts i_X0 hown hK hP 0 rfl rfl 0 (by decide) (hts (.fieldLink RX0 11 "WordFlasher$History" "states" "[LWordFlasher$State;") (List.mem_of_getElem? (i := 1) rfl)) (fun _ h9 => h9) rfl dX0_dropOldest_50 ?_
  refine va_alen (v := 4) hx hb hK hP 1 3 rfl rfl rfl dX0_dropOldest_53 ?_
  refine lv_iconst (v := 1) hx hb dX0_dropOldest_54 (by decide) ?_
  refine lv_isub hx hb dX0_dropOldest_55 ?_
  refine lv_as (y := 3) (by decide) ?_
  refine lv_aload_n hx hb dX0_dropOldest_56 rfl (lv_at hl 1 rfl) ?_
  refine va_astq (v := aB (X.1 0) 0) (r := (RX3, TX3, 15)) (i := 3) hx hb hK hP hD hS 1 3 (2 + 7 * X.1 0) 3 rfl rfl (pH_st g aH _ _ aB w X.2.2 [] (X.1 0) o0) rfl (by unfold vp_in; decide) dX0_dropOldest_57 (fun H locs hP hD hS => ?_)
  have hP : va_P g.1 vwCl ((pHo g aH (va_up (va_up (va_up (va_up (qH aB X.1) 0 (some (aB (X.1 1) 0))) 1 (some (aB (X.1 2) 0))) 2 (some (aB (X.1 3) 0))) 3 (some (aB (X.1 0) 0))) (X.2.1 1 0) ++ pHs g aB w X.2.2) ++ ([] : va_W)) H := hP
  have hD : va_D A ((pHo g aH (va_up (va_up (va_up (va_up (qH aB X.1) 0 (some (aB (X.1 1) 0))) 1 (some (aB (X.1 2) 0))) 2 (some (aB (X.1 3) 0))) 3 (some (aB (X.1 0) 0))) (X.2.1 1 0) ++ pHs g aB w X.2.2) ++ ([] : va_W)) := hD
  rw [rot_q] at hP hD
  refine lv_aload_n hx hb dX0_dropOldest_58 rfl (lv_at hl 2 rfl) ?_
  refine lv_iconst (v := 3) hx hb dX0_dropOldest_59 (by decide) ?_
  refine va_put (D := g.1) (ci := 0) (v := .int 3) (ty := .int) (C := RX0) (T := TX0) (N := 2) hx hb hts i_X0 tyX0 tyX0_ok nmX0 hown hK hP hD hS 0 rfl rfl 1 (by decide) (hts (.fieldLink RX0 20 "WordFlasher$History" "many" "I") (List.mem_of_getElem? (i := 2) rfl)) (fun _ h9 => h9) rfl (by decide +kernel) rfl rfl (Nat.le_of_ble_eq_true rfl) dX0_dropOldest_60 (fun H locs hP hD hS => ?_)
  have hP : va_P g.1 vwCl (pH g aH aB w (fX0_dropOldest X)) H := hP
  rw [← hQ0]; exact W.vret hx hb hr (fun t ht hW => ⟨⟨(), rfl, trivial, by dsimp only; rw [ht]; exact hP⟩, hS.F ht⟩) hS.2.2 dX0_dropOldest_63

abbrev rmX0_restore : Room := { frames := 3, cells := 0, slots := 0, locals := 82 }
set_option maxHeartbeats 8000000 in
set_option maxRecDepth 100000 in
theorem c_X0_restore (l : Launch) (g : GG) (aT : Nat → Nat) (aW : Nat → Nat) (aP aQ : Nat → Nat) (aH : Nat → Nat) (aB : Nat → Nat → Nat) (sz : Nat) (XT : DM) (X : HD) (XTz : DM) (Xz : HD) (hf : fX0_restore XT X = some (XTz, Xz)) : Met l yX0_restore wsX0_restore rmX0_restore (va_Pc [.ref (aH 0), .ref (aT 0)] (fun U => U.heap.size = sz ∧ va_P g.1 vwCl (pS g aT (aW 0) XT ++ (pH g aH aB (aW 0) X)) U.heap ∧ KW g U ∧ va_D (fun _ => True) (pS g aT (aW 0) XT ++ (pH g aH aB (aW 0) X)))) (va_Qv (fun (_ : Unit) => True) (fun (_ : Unit) t => va_P g.1 vwCl (pS g aT (aW 0) XTz ++ (pH g aH aB (aW 0) Xz)) t.heap) (va_A (pS g aT (aW 0) XT ++ (pH g aH aB (aW 0) X)) sz)) 0 0 (va_A (pS g aT (aW 0) XT ++ (pH g aH aB (aW 0) X)) sz) := by
  refine Met.ofW (cc := cX0_restore) (maxL := 3) (ret := none) (by decide) rfl ?_
  intro p e s m args below meth c s₁ B hml hv
  obtain ⟨hargs, hsz, hP, hKW, hD0⟩ := hv
  have hK := hKW.1
  have hx := B.exec
  have hb := B.bytes
  have hr := B.returns
  have hts := atoms_spec (ws := wsX0_restore) B.pre
  have hown : s.vm.findClass RX0 = some m.cls := findClass_of_methodNamed B.named
  have hlocks := B.notSynchronized
  subst hsz
  have hD := hD0.self (sz := s.heap.size)
  generalize hAe : va_A (pS g aT (aW 0) XT ++ (pH g aH aB (aW 0) X)) s.heap.size = A at hD ⊢
  have hA : ∀ q : Nat, s.heap.size ≤ q → A q := fun q h => by rw [← hAe]; exact Or.inr h
  have hS : va_S A s.heap s.heap [] := va_S.rf
  have i_X0 : ∀ w ∈ wsX00, w ∈ wsX0_restore := fun w h => List.mem_cons_of_mem _ (List.mem_append_left _ (List.mem_append_right _ h))
  have hent : entryFrame m args 3 = F0 m 0 ((lg_sl ([.ref (aH 0), .ref (aT 0)]) ++ List.replicate (3 - (lg_sl ([.ref (aH 0), .ref (aT 0)])).length) Slot.unset).toArray) [] := by rw [hargs]; exact lg_entry_eq _ _ _
  rw [hent]
  have hl := lv_entry ([.ref (aH 0), .ref (aT 0)]) (n := 3) (Nat.le_of_ble_eq_true rfl)
  generalize (lg_sl ([.ref (aH 0), .ref (aT 0)]) ++ List.replicate (3 - (lg_sl ([.ref (aH 0), .ref (aT 0)])).length) Slot.unset).toArray = ls at hl ⊢
  have hl : lv_has ls 3 [(0, .ref (aH 0)), (1, .ref (aT 0))] := hl
  generalize hQ0 : MQ below _ _ _ _ _ _ = Q0
  unfold fX0_restore at hf
  by_cases hok : okH X
  case neg => rw [if_neg hok] at hf; cases hf
  have hf := ite_t hf hok
  have hok1 := hok
  by_cases hin : ¬ (X.2.1 1 0 - 1 < 0 ∨ 4 ≤ (X.2.1 1 0 - 1).toNatClampNeg)
  case neg => rw [if_neg hin] at hf; cases hf
  have hf := ite_t hf hin
  refine lv_aload_n hx hb dX0_restore_0 rfl (lv_at hl 0 rfl) ?_
  refine lv_aload_n hx hb dX0_restore_1 rfl (lv_at hl 0 rfl) ?_
  refine va_get (D := g.1) (ci := 0) (v := .int (X.2.1 1 0)) (C := RX0) (T := TX0) (N := 2) hx hb hts i_X0 hown hK hP 7 rfl rfl 1 (by decide) (hts (.fieldLink RX0 20 "WordFlasher$History" "many" "I") (List.mem_of_getElem? (i := 1) rfl)) (fun _ h9 => h9) rfl dX0_restore_2 ?_
  refine lv_iconst (v := 1) hx hb dX0_restore_5 (by decide) ?_
  refine lv_isub hx hb dX0_restore_6 ?_
  refine rqV (As := [.int (X.2.1 1 0 - 1)]) (rest := []) ⟨hx, hb, hml, hown, hts⟩ (c_X0_stateAt l g aH (qH aB X.1) (X.2.1 1 0) (X.2.1 1 0 - 1) hin) (cwV 1 hts gX0_restore_X0_stateAt rfl rfl rfl (by decide +kernel) ⟨Nat.le_of_ble_eq_true rfl, Nat.le_of_ble_eq_true rfl⟩) hKW hP [7, 8] rfl (va_recv hK hP (ci := 0) (q0 := 7) rfl rfl) rfl hl.1 rfl (lv_room (Nat.le_of_ble_eq_true rfl)) dX0_restore_7 ⟨Nat.zero_le _, Nat.zero_le _⟩ ?_
  have hj4 := okH_at hok1 hin
  refine W.eq (g2 := F0 m 10 ls [.ref (aB (X.1 ((X.2.1 1 0 - 1)).toNatClampNeg) 0)]) rfl ?_
  generalize X.1 ((X.2.1 1 0 - 1)).toNatClampNeg = j at hf hj4 ⊢
  rcases (show j = 0 ∨ j = 1 ∨ j = 2 ∨ j = 3 by omega) with rfl | rfl | rfl | rfl
  · obtain ⟨S1, hcp, hf⟩ := bnd_el hf
    refine lv_astore_n (lv' := [(2, .ref (aB 0 0)), (0, .ref (aH 0)), (1, .ref (aT 0))]) hx hb dX0_restore_10 rfl hl (by decide) rfl (fun ls hl => ?_)
    refine lv_aload_n hx hb dX0_restore_11 rfl (lv_at hl 0 rfl) ?_
    refine lv_ifnull hx hb dX0_restore_12 ?_
    refine lv_aload_n hx hb dX0_restore_15 rfl (lv_at hl 2 rfl) ?_
    refine lv_aload_n hx hb dX0_restore_16 rfl (lv_at hl 0 rfl) ?_
    refine wr_v (rest := []) (wc := (pS g aT (aW 0) XT ++ (pS g (aB 0) (aW 0) (X.2.2 0)))) (wc' := (pS g aT (aW 0) S1 ++ (pS g (aB 0) (aW 0) (X.2.2 0)))) (ws2 := (pS g aT (aW 0) S1 ++ (pH g aH aB (aW 0) (X.1, X.2.1, X.2.2)))) hP hD hS hA [0, 1, 2, 3, 4, 5, 6, 9, 10, 11, 12, 13, 14, 15] rfl rfl (by rfl) (rnV (As := [.ref (aB 0 0)]) ⟨hx, hb, hml, hown, hts⟩ (c_X3_copy l g aT (aB 0) aW aP aQ _ _ _ _ hcp) (cwV 1 hts gX0_restore_X3_copy rfl rfl rfl (by decide +kernel) ⟨Nat.le_of_ble_eq_true rfl, Nat.le_of_ble_eq_true rfl⟩) hKW hP hD [0, 1, 2, 3, 4, 5, 6, 9, 10, 11, 12, 13, 14, 15] (by decide) rfl (va_recv hK hP (ci := 3) (q0 := 0) rfl rfl) rfl hl.1 rfl (lv_room (Nat.le_of_ble_eq_true rfl)) dX0_restore_17 ⟨Nat.zero_le _, Nat.zero_le _⟩) (fun H locs hP hD hS => ?_)
    refine lv_aload_n hx hb dX0_restore_20 rfl (lv_at hl 1 rfl) ?_
    refine lv_dup hx hb dX0_restore_21 rfl ?_
    refine va_get (D := g.1) (ci := 0) (v := .int (X.2.1 1 0)) (C := RX0) (T := TX0) (N := 2) hx hb hts i_X0 hown hK hP 7 rfl rfl 1 (by decide) (hts (.fieldLink RX0 20 "WordFlasher$History" "many" "I") (List.mem_of_getElem? (i := 1) rfl)) (fun _ h9 => h9) rfl dX0_restore_22 ?_
    refine lv_iconst (v := 1) hx hb dX0_restore_25 (by decide) ?_
    refine lv_isub hx hb dX0_restore_26 ?_
    refine va_put (D := g.1) (ci := 0) (v := .int (X.2.1 1 0 - 1)) (ty := .int) (C := RX0) (T := TX0) (N := 2) hx hb hts i_X0 tyX0 tyX0_ok nmX0 hown hK hP hD hS 7 rfl rfl 1 (by decide) (hts (.fieldLink RX0 20 "WordFlasher$History" "many" "I") (List.mem_of_getElem? (i := 1) rfl)) (fun _ h9 => h9) rfl (by decide +kernel) rfl rfl (Nat.le_of_ble_eq_true rfl) dX0_restore_27 (fun H locs hP hD hS => ?_)
    have er0 := Option.some.inj hf
    obtain ⟨er0, er1⟩ := Prod.mk.inj er0
    have hP : va_P g.1 vwCl (pS g aT (aW 0) S1 ++ (pH g aH aB (aW 0) (X.1, va_up X.2.1 1 (fun _ => X.2.1 1 0 - 1), X.2.2))) H := hP
    rw [← hQ0]; exact W.vret hx hb hr (fun t ht hW => ⟨⟨(), rfl, trivial, by dsimp only; rw [ht, ← er0, ← er1]; exact hP⟩, hS.F ht⟩) hS.2.2 dX0_restore_30
  · obtain ⟨S1, hcp, hf⟩ := bnd_el hf
    refine lv_astore_n (lv' := [(2, .ref (aB 1 0)), (0, .ref (aH 0)), (1, .ref (aT 0))]) hx hb dX0_restore_10 rfl hl (by decide) rfl (fun ls hl => ?_)
    refine lv_aload_n hx hb dX0_restore_11 rfl (lv_at hl 0 rfl) ?_
    refine lv_ifnull hx hb dX0_restore_12 ?_
    refine lv_aload_n hx hb dX0_restore_15 rfl (lv_at hl 2 rfl) ?_
    refine lv_aload_n hx hb dX0_restore_16 rfl (lv_at hl 0 rfl) ?_
    refine wr_v (rest := []) (wc := (pS g aT (aW 0) XT ++ (pS g (aB 1) (aW 0) (X.2.2 1)))) (wc' := (pS g aT (aW 0) S1 ++ (pS g (aB 1) (aW 0) (X.2.2 1)))) (ws2 := (pS g aT (aW 0) S1 ++ (pH g aH aB (aW 0) (X.1, X.2.1, X.2.2)))) hP hD hS hA [0, 1, 2, 3, 4, 5, 6, 16, 17, 18, 19, 20, 21, 22] rfl rfl (by rfl) (rnV (As := [.ref (aB 1 0)]) ⟨hx, hb, hml, hown, hts⟩ (c_X3_copy l g aT (aB 1) aW aP aQ _ _ _ _ hcp) (cwV 1 hts gX0_restore_X3_copy rfl rfl rfl (by decide +kernel) ⟨Nat.le_of_ble_eq_true rfl, Nat.le_of_ble_eq_true rfl⟩) hKW hP hD [0, 1, 2, 3, 4, 5, 6, 16, 17, 18, 19, 20, 21, 22] (by decide) rfl (va_recv hK hP (ci := 3) (q0 := 0) rfl rfl) rfl hl.1 rfl (lv_room (Nat.le_of_ble_eq_true rfl)) dX0_restore_17 ⟨Nat.zero_le _, Nat.zero_le _⟩) (fun H locs hP hD hS => ?_)
    refine lv_aload_n hx hb dX0_restore_20 rfl (lv_at hl 1 rfl) ?_
    refine lv_dup hx hb dX0_restore_21 rfl ?_
    refine va_get (D := g.1) (ci := 0) (v := .int (X.2.1 1 0)) (C := RX0) (T := TX0) (N := 2) hx hb hts i_X0 hown hK hP 7 rfl rfl 1 (by decide) (hts (.fieldLink RX0 20 "WordFlasher$History" "many" "I") (List.mem_of_getElem? (i := 1) rfl)) (fun _ h9 => h9) rfl dX0_restore_22 ?_
    refine lv_iconst (v := 1) hx hb dX0_restore_25 (by decide) ?_
    refine lv_isub hx hb dX0_restore_26 ?_
    refine va_put (D := g.1) (ci := 0) (v := .int (X.2.1 1 0 - 1)) (ty := .int) (C := RX0) (T := TX0) (N := 2) hx hb hts i_X0 tyX0 tyX0_ok nmX0 hown hK hP hD hS 7 rfl rfl 1 (by decide) (hts (.fieldLink RX0 20 "WordFlasher$History" "many" "I") (List.mem_of_getElem? (i := 1) rfl)) (fun _ h9 => h9) rfl (by decide +kernel) rfl rfl (Nat.le_of_ble_eq_true rfl) dX0_restore_27 (fun H locs hP hD hS => ?_)
    have er0 := Option.some.inj hf
    obtain ⟨er0, er1⟩ := Prod.mk.inj er0
    have hP : va_P g.1 vwCl (pS g aT (aW 0) S1 ++ (pH g aH aB (aW 0) (X.1, va_up X.2.1 1 (fun _ => X.2.1 1 0 - 1), X.2.2))) H := hP
    rw [← hQ0]; exact W.vret hx hb hr (fun t ht hW => ⟨⟨(), rfl, trivial, by dsimp only; rw [ht, ← er0, ← er1]; exact hP⟩, hS.F ht⟩) hS.2.2 dX0_restore_30
  · obtain ⟨S1, hcp, hf⟩ := bnd_el hf
    refine lv_astore_n (lv' := [(2, .ref (aB 2 0)), (0, .ref (aH 0)), (1, .ref (aT 0))]) hx hb dX0_restore_10 rfl hl (by decide) rfl (fun ls hl => ?_)
    refine lv_aload_n hx hb dX0_restore_11 rfl (lv_at hl 0 rfl) ?_
    refine lv_ifnull hx hb dX0_restore_12 ?_
    refine lv_aload_n hx hb dX0_restore_15 rfl (lv_at hl 2 rfl) ?_
    refine lv_aload_n hx hb dX0_restore_16 rfl (lv_at hl 0 rfl) ?_
    refine wr_v (rest := []) (wc := (pS g aT (aW 0) XT ++ (pS g (aB 2) (aW 0) (X.2.2 2)))) (wc' := (pS g aT (aW 0) S1 ++ (pS g (aB 2) (aW 0) (X.2.2 2)))) (ws2 := (pS g aT (aW 0) S1 ++ (pH g aH aB (aW 0) (X.1, X.2.1, X.2.2)))) hP hD hS hA [0, 1, 2, 3, 4, 5, 6, 23, 24, 25, 26, 27, 28, 29] rfl rfl (by rfl) (rnV (As := [.ref (aB 2 0)]) ⟨hx, hb, hml, hown, hts⟩ (c_X3_copy l g aT (aB 2) aW aP aQ _ _ _ _ hcp) (cwV 1 hts gX0_restore_X3_copy rfl rfl rfl (by decide +kernel) ⟨Nat.le_of_ble_eq_true rfl, Nat.le_of_ble_eq_true rfl⟩) hKW hP hD [0, 1, 2, 3, 4, 5, 6, 23, 24, 25, 26, 27, 28, 29] (by decide) rfl (va_recv hK hP (ci := 3) (q0 := 0) rfl rfl) rfl hl.1 rfl (lv_room (Nat.le_of_ble_eq_true rfl)) dX0_restore_17 ⟨Nat.zero_le _, Nat.zero_le _⟩) (fun H locs hP hD hS => ?_)
    refine lv_aload_n hx hb dX0_restore_20 rfl (lv_at hl 1 rfl) ?_
    refine lv_dup hx hb dX0_restore_21 rfl ?_
    refine va_get (D := g.1) (ci := 0) (v := .int (X.2.1 1 0)) (C := RX0) (T := TX0) (N := 2) hx hb hts i_X0 hown hK hP 7 rfl rfl 1 (by decide) (hts (.fieldLink RX0 20 "WordFlasher$History" "many" "I") (List.mem_of_getElem? (i := 1) rfl)) (fun _ h9 => h9) rfl dX0_restore_22 ?_
    refine lv_iconst (v := 1) hx hb dX0_restore_25 (by decide) ?_
    refine lv_isub hx hb dX0_restore_26 ?_
    refine va_put (D := g.1) (ci := 0) (v := .int (X.2.1 1 0 - 1)) (ty := .int) (C := RX0) (T := TX0) (N := 2) hx hb hts i_X0 tyX0 tyX0_ok nmX0 hown hK hP hD hS 7 rfl rfl 1 (by decide) (hts (.fieldLink RX0 20 "WordFlasher$History" "many" "I") (List.mem_of_getElem? (i := 1) rfl)) (fun _ h9 => h9) rfl (by decide +kernel) rfl rfl (Nat.le_of_ble_eq_true rfl) dX0_restore_27 (fun H locs hP hD hS => ?_)
    have er0 := Option.some.inj hf
    obtain ⟨er0, er1⟩ := Prod.mk.inj er0
    have hP : va_P g.1 vwCl (pS g aT (aW 0) S1 ++ (pH g aH aB (aW 0) (X.1, va_up X.2.1 1 (fun _ => X.2.1 1 0 - 1), X.2.2))) H := hP
    rw [← hQ0]; exact W.vret hx hb hr (fun t ht hW => ⟨⟨(), rfl, trivial, by dsimp only; rw [ht, ← er0, ← er1]; exact hP⟩, hS.F ht⟩) hS.2.2 dX0_restore_30
  · obtain ⟨S1, hcp, hf⟩ := bnd_el hf
    refine lv_astore_n (lv' := [(2, .ref (aB 3 0)), (0, .ref (aH 0)), (1, .ref (aT 0))]) hx hb dX0_restore_10 rfl hl (by decide) rfl (fun ls hl => ?_)
    refine lv_aload_n hx hb dX0_restore_11 rfl (lv_at hl 0 rfl) ?_
    refine lv_ifnull hx hb dX0_restore_12 ?_
    refine lv_aload_n hx hb dX0_restore_15 rfl (lv_at hl 2 rfl) ?_
    refine lv_aload_n hx hb dX0_restore_16 rfl (lv_at hl 0 rfl) ?_
    refine wr_v (rest := []) (wc := (pS g aT (aW 0) XT ++ (pS g (aB 3) (aW 0) (X.2.2 3)))) (wc' := (pS g aT (aW 0) S1 ++ (pS g (aB 3) (aW 0) (X.2.2 3)))) (ws2 := (pS g aT (aW 0) S1 ++ (pH g aH aB (aW 0) (X.1, X.2.1, X.2.2)))) hP hD hS hA [0, 1, 2, 3, 4, 5, 6, 30, 31, 32, 33, 34, 35, 36] rfl rfl (by rfl) (rnV (As := [.ref (aB 3 0)]) ⟨hx, hb, hml, hown, hts⟩ (c_X3_copy l g aT (aB 3) aW aP aQ _ _ _ _ hcp) (cwV 1 hts gX0_restore_X3_copy rfl rfl rfl (by decide +kernel) ⟨Nat.le_of_ble_eq_true rfl, Nat.le_of_ble_eq_true rfl⟩) hKW hP hD [0, 1, 2, 3, 4, 5, 6, 30, 31, 32, 33, 34, 35, 36] (by decide) rfl (va_recv hK hP (ci := 3) (q0 := 0) rfl rfl) rfl hl.1 rfl (lv_room (Nat.le_of_ble_eq_true rfl)) dX0_restore_17 ⟨Nat.zero_le _, Nat.zero_le _⟩) (fun H locs hP hD hS => ?_)
    refine lv_aload_n hx hb dX0_restore_20 rfl (lv_at hl 1 rfl) ?_
    refine lv_dup hx hb dX0_restore_21 rfl ?_
    refine va_get (D := g.1) (ci := 0) (v := .int (X.2.1 1 0)) (C := RX0) (T := TX0) (N := 2) hx hb hts i_X0 hown hK hP 7 rfl rfl 1 (by decide) (hts (.fieldLink RX0 20 "WordFlasher$History" "many" "I") (List.mem_of_getElem? (i := 1) rfl)) (fun _ h9 => h9) rfl dX0_restore_22 ?_
    refine lv_iconst (v := 1) hx hb dX0_restore_25 (by decide) ?_
    refine lv_isub hx hb dX0_restore_26 ?_
    refine va_put (D := g.1) (ci := 0) (v := .int (X.2.1 1 0 - 1)) (ty := .int) (C := RX0) (T := TX0) (N := 2) hx hb hts i_X0 tyX0 tyX0_ok nmX0 hown hK hP hD hS 7 rfl rfl 1 (by decide) (hts (.fieldLink RX0 20 "WordFlasher$History" "many" "I") (List.mem_of_getElem? (i := 1) rfl)) (fun _ h9 => h9) rfl (by decide +kernel) rfl rfl (Nat.le_of_ble_eq_true rfl) dX0_restore_27 (fun H locs hP hD hS => ?_)
    have er0 := Option.some.inj hf
    obtain ⟨er0, er1⟩ := Prod.mk.inj er0
    have hP : va_P g.1 vwCl (pS g aT (aW 0) S1 ++ (pH g aH aB (aW 0) (X.1, va_up X.2.1 1 (fun _ => X.2.1 1 0 - 1), X.2.2))) H := hP
    rw [← hQ0]; exact W.vret hx hb hr (fun t ht hW => ⟨⟨(), rfl, trivial, by dsimp only; rw [ht, ← er0, ← er1]; exact hP⟩, hS.F ht⟩) hS.2.2 dX0_restore_30

abbrev rmX0_keep : Room := { frames := 3, cells := 0, slots := 0, locals := 83 }
set_option maxHeartbeats 8000000 in
set_option maxRecDepth 100000 in
theorem c_X0_keep (l : Launch) (g : GG) (aT : Nat → Nat) (aW : Nat → Nat) (aP aQ : Nat → Nat) (aH : Nat → Nat) (aB : Nat → Nat → Nat) (sz : Nat) (XT : DM) (X : HD) (Xz : HD) (hf : fX0_keep XT X = some Xz) : Met l yX0_keep wsX0_keep rmX0_keep (va_Pc [.ref (aH 0), .ref (aT 0)] (fun U => U.heap.size = sz ∧ va_P g.1 vwCl (pS g aT (aW 0) XT ++ (pH g aH aB (aW 0) X)) U.heap ∧ KW g U ∧ va_D (fun _ => True) (pS g aT (aW 0) XT ++ (pH g aH aB (aW 0) X)))) (va_Qv (fun (_ : Unit) => True) (fun (_ : Unit) t => va_P g.1 vwCl (pS g aT (aW 0) XT ++ (pH g aH aB (aW 0) Xz)) t.heap) (va_A (pS g aT (aW 0) XT ++ (pH g aH aB (aW 0) X)) sz)) 0 0 (va_A (pS g aT (aW 0) XT ++ (pH g aH aB (aW 0) X)) sz) := by
  refine Met.ofW (cc := cX0_keep) (maxL := 3) (ret := none) (by decide) rfl ?_
  intro p e s m args below meth c s₁ B hml hv
  obtain ⟨hargs, hsz, hP, hKW, hD0⟩ := hv
  have hK := hKW.1
  have hx := B.exec
  have hb := B.bytes
  have hr := B.returns
  have hts := atoms_spec (ws := wsX0_keep) B.pre
  have hown : s.vm.findClass RX0 = some m.cls := findClass_of_methodNamed B.named
  have hlocks := B.notSynchronized
  subst hsz
  have hD := hD0.self (sz := s.heap.size)
  generalize hAe : va_A (pS g aT (aW 0) XT ++ (pH g aH aB (aW 0) X)) s.heap.size = A at hD ⊢
  have hA : ∀ q : Nat, s.heap.size ≤ q → A q := fun q h => by rw [← hAe]; exact Or.inr h
  have hS : va_S A s.heap s.heap [] := va_S.rf
  have i_X0 : ∀ w ∈ wsX00, w ∈ wsX0_keep := fun w h => List.mem_cons_of_mem _ (List.mem_append_left _ (List.mem_append_right _ h))
  have hent : entryFrame m args 3 = F0 m 0 ((lg_sl ([.ref (aH 0), .ref (aT 0)]) ++ List.replicate (3 - (lg_sl ([.ref (aH 0), .ref (aT 0)])).length) Slot.unset).toArray) [] := by rw [hargs]; exact lg_entry_eq _ _ _
  rw [hent]
  have hl := lv_entry ([.ref (aH 0), .ref (aT 0)]) (n := 3) (Nat.le_of_ble_eq_true rfl)
  generalize (lg_sl ([.ref (aH 0), .ref (aT 0)]) ++ List.replicate (3 - (lg_sl ([.ref (aH 0), .ref (aT 0)])).length) Slot.unset).toArray = ls at hl ⊢
  have hl : lv_has ls 3 [(0, .ref (aH 0)), (1, .ref (aT 0))] := hl
  generalize hQ0 : MQ below _ _ _ _ _ _ = Q0
  unfold fX0_keep at hf
  by_cases hok : okH X
  case neg => rw [if_neg hok] at hf; cases hf
  have hf := ite_t hf hok
  obtain ⟨X9, eX9, hf⟩ := sl_el hf
  have J_12 : ∀ (X1 : HD) (H : Heap) (locs : List Loc) (ls : Array Slot), okH X1 → va_P g.1 vwCl (pS g aT (aW 0) XT ++ (pH g aH aB (aW 0) X1)) H → va_D A (pS g aT (aW 0) XT ++ (pH g aH aB (aW 0) X1)) → va_S A s.heap H locs → lv_has ls 3 [(0, .ref (aH 0)), (1, .ref (aT 0))] → (if ¬ (X1.2.1 1 0 < 0 ∨ 4 ≤ (X1.2.1 1 0).toNatClampNeg) then (sl (X1.1 (X1.2.1 1 0).toNatClampNeg) fun j => bnd (fX3_copy (X1.2.2 j) XT) fun S => some (X1.1, va_up X1.2.1 1 (fun _ => X1.2.1 1 0 + 1), va_up X1.2.2 j S)) else none) = some Xz → W p l e (headSpec wsX0_keep rmX0_keep).room s m args below meth c H locs 0 0 Q0 (F0 m 12 ls []) := by
    intro X1 H locs ls hok1 hP hD hS hl hf
    by_cases hin : ¬ (X1.2.1 1 0 < 0 ∨ 4 ≤ (X1.2.1 1 0).toNatClampNeg)
    case neg => rw [if_neg hin] at hf; cases hf
    have hf := ite_t hf hin
    unfold sl at hf
    refine lv_aload_n hx hb dX0_keep_12 rfl (lv_at hl 0 rfl) ?_
    refine lv_aload_n hx hb dX0_keep_13 rfl (lv_at hl 0 rfl) ?_
    refine va_get (D := g.1) (ci := 0) (v := .int (X1.2.1 1 0)) (C := RX0) (T := TX0) (N := 2) hx hb hts i_X0 hown hK hP 7 rfl rfl 1 (by decide) (hts (.fieldLink RX0 20 "WordFlasher$History" "many" "I") (List.mem_of_getElem? (i := 1) rfl)) (fun _ h9 => h9) rfl dX0_keep_14 ?_
    refine rqV (As := [.int (X1.2.1 1 0)]) (rest := []) ⟨hx, hb, hml, hown, hts⟩ (c_X0_stateAt l g aH (qH aB X1.1) (X1.2.1 1 0) (X1.2.1 1 0) hin) (cwV 1 hts gX0_keep_X0_stateAt rfl rfl rfl (by decide +kernel) ⟨Nat.le_of_ble_eq_true rfl, Nat.le_of_ble_eq_true rfl⟩) hKW hP [7, 8] rfl (va_recv hK hP (ci := 0) (q0 := 7) rfl rfl) rfl hl.1 rfl (lv_room (Nat.le_of_ble_eq_true rfl)) dX0_keep_17 ⟨Nat.zero_le _, Nat.zero_le _⟩ ?_
    have hj4 := okH_at hok1 hin
    refine W.eq (g2 := F0 m 20 ls [.ref (aB (X1.1 ((X1.2.1 1 0)).toNatClampNeg) 0)]) rfl ?_
    generalize X1.1 ((X1.2.1 1 0)).toNatClampNeg = j at hf hj4 ⊢
    rcases (show j = 0 ∨ j = 1 ∨ j = 2 ∨ j = 3 by omega) with rfl | rfl | rfl | rfl
    · obtain ⟨S1, hcp, hf⟩ := bnd_el hf
      refine lv_astore_n (lv' := [(2, .ref (aB 0 0)), (0, .ref (aH 0)), (1, .ref (aT 0))]) hx hb dX0_keep_20 rfl hl (by decide) rfl (fun ls hl => ?_)
      refine lv_aload_n hx hb dX0_keep_21 rfl (lv_at hl 0 rfl) ?_
      refine lv_ifnull hx hb dX0_keep_22 ?_
      refine lv_aload_n hx hb dX0_keep_25 rfl (lv_at hl 0 rfl) ?_
      refine lv_aload_n hx hb dX0_keep_26 rfl (lv_at hl 2 rfl) ?_
      refine wr_v (rest := []) (wc := (pS g (aB 0) (aW 0) (X1.2.2 0) ++ (pS g aT (aW 0) XT))) (wc' := (pS g (aB 0) (aW 0) S1 ++ (pS g aT (aW 0) XT))) (ws2 := (pS g aT (aW 0) XT ++ (pH g aH aB (aW 0) (X1.1, X1.2.1, va_up X1.2.2 0 S1)))) hP hD hS hA [9, 10, 11, 12, 13, 14, 15, 0, 1, 2, 3, 4, 5, 6] rfl rfl (by rfl) (rnV (As := [.ref (aT 0)]) ⟨hx, hb, hml, hown, hts⟩ (c_X3_copy l g (aB 0) aT aW aP aQ _ _ _ _ hcp) (cwV 1 hts gX0_keep_X3_copy rfl rfl rfl (by decide +kernel) ⟨Nat.le_of_ble_eq_true rfl, Nat.le_of_ble_eq_true rfl⟩) hKW hP hD [9, 10, 11, 12, 13, 14, 15, 0, 1, 2, 3, 4, 5, 6] (by decide) rfl (va_recv hK hP (ci := 3) (q0 := 9) rfl rfl) rfl hl.1 rfl (lv_room (Nat.le_of_ble_eq_true rfl)) dX0_keep_27 ⟨Nat.zero_le _, Nat.zero_le _⟩) (fun H locs hP hD hS => ?_)
      refine lv_aload_n hx hb dX0_keep_30 rfl (lv_at hl 1 rfl) ?_
      refine lv_dup hx hb dX0_keep_31 rfl ?_
      refine va_get (D := g.1) (ci := 0) (v := .int (X1.2.1 1 0)) (C := RX0) (T := TX0) (N := 2) hx hb hts i_X0 hown hK hP 7 rfl rfl 1 (by decide) (hts (.fieldLink RX0 20 "WordFlasher$History" "many" "I") (List.mem_of_getElem? (i := 1) rfl)) (fun _ h9 => h9) rfl dX0_keep_32 ?_
      refine lv_iconst (v := 1) hx hb dX0_keep_35 (by decide) ?_
      refine lv_iadd hx hb dX0_keep_36 ?_
      refine va_put (D := g.1) (ci := 0) (v := .int (X1.2.1 1 0 + 1)) (ty := .int) (C := RX0) (T := TX0) (N := 2) hx hb hts i_X0 tyX0 tyX0_ok nmX0 hown hK hP hD hS 7 rfl rfl 1 (by decide) (hts (.fieldLink RX0 20 "WordFlasher$History" "many" "I") (List.mem_of_getElem? (i := 1) rfl)) (fun _ h9 => h9) rfl (by decide +kernel) rfl rfl (Nat.le_of_ble_eq_true rfl) dX0_keep_37 (fun H locs hP hD hS => ?_)
      have er0 := Option.some.inj hf
      have hP : va_P g.1 vwCl (pS g aT (aW 0) XT ++ (pH g aH aB (aW 0) (X1.1, va_up X1.2.1 1 (fun _ => X1.2.1 1 0 + 1), va_up X1.2.2 0 S1))) H := hP
      rw [← hQ0]; exact W.vret hx hb hr (fun t ht hW => ⟨⟨(), rfl, trivial, by dsimp only; rw [ht, ← er0]; exact hP⟩, hS.F ht⟩) hS.2.2 dX0_keep_40
    · obtain ⟨S1, hcp, hf⟩ := bnd_el hf
      refine lv_astore_n (lv' := [(2, .ref (aB 1 0)), (0, .ref (aH 0)), (1, .ref (aT 0))]) hx hb dX0_keep_20 rfl hl (by decide) rfl (fun ls hl => ?_)
      refine lv_aload_n hx hb dX0_keep_21 rfl (lv_at hl 0 rfl) ?_
      refine lv_ifnull hx hb dX0_keep_22 ?_
      refine lv_aload_n hx hb dX0_keep_25 rfl (lv_at hl 0 rfl) ?_
      refine lv_aload_n hx hb dX0_keep_26 rfl (lv_at hl 2 rfl) ?_
      refine wr_v (rest := []) (wc := (pS g (aB 1) (aW 0) (X1.2.2 1) ++ (pS g aT (aW 0) XT))) (wc' := (pS g (aB 1) (aW 0) S1 ++ (pS g aT (aW 0) XT))) (ws2 := (pS g aT (aW 0) XT ++ (pH g aH aB (aW 0) (X1.1, X1.2.1, va_up X1.2.2 1 S1)))) hP hD hS hA [16, 17, 18, 19, 20, 21, 22, 0, 1, 2, 3, 4, 5, 6] rfl rfl (by rfl) (rnV (As := [.ref (aT 0)]) ⟨hx, hb, hml, hown, hts⟩ (c_X3_copy l g (aB 1) aT aW aP aQ _ _ _ _ hcp) (cwV 1 hts gX0_keep_X3_copy rfl rfl rfl (by decide +kernel) ⟨Nat.le_of_ble_eq_true rfl, Nat.le_of_ble_eq_true rfl⟩) hKW hP hD [16, 17, 18, 19, 20, 21, 22, 0, 1, 2, 3, 4, 5, 6] (by decide) rfl (va_recv hK hP (ci := 3) (q0 := 16) rfl rfl) rfl hl.1 rfl (lv_room (Nat.le_of_ble_eq_true rfl)) dX0_keep_27 ⟨Nat.zero_le _, Nat.zero_le _⟩) (fun H locs hP hD hS => ?_)
      refine lv_aload_n hx hb dX0_keep_30 rfl (lv_at hl 1 rfl) ?_
      refine lv_dup hx hb dX0_keep_31 rfl ?_
      refine va_get (D := g.1) (ci := 0) (v := .int (X1.2.1 1 0)) (C := RX0) (T := TX0) (N := 2) hx hb hts i_X0 hown hK hP 7 rfl rfl 1 (by decide) (hts (.fieldLink RX0 20 "WordFlasher$History" "many" "I") (List.mem_of_getElem? (i := 1) rfl)) (fun _ h9 => h9) rfl dX0_keep_32 ?_
      refine lv_iconst (v := 1) hx hb dX0_keep_35 (by decide) ?_
      refine lv_iadd hx hb dX0_keep_36 ?_
      refine va_put (D := g.1) (ci := 0) (v := .int (X1.2.1 1 0 + 1)) (ty := .int) (C := RX0) (T := TX0) (N := 2) hx hb hts i_X0 tyX0 tyX0_ok nmX0 hown hK hP hD hS 7 rfl rfl 1 (by decide) (hts (.fieldLink RX0 20 "WordFlasher$History" "many" "I") (List.mem_of_getElem? (i := 1) rfl)) (fun _ h9 => h9) rfl (by decide +kernel) rfl rfl (Nat.le_of_ble_eq_true rfl) dX0_keep_37 (fun H locs hP hD hS => ?_)
      have er0 := Option.some.inj hf
      have hP : va_P g.1 vwCl (pS g aT (aW 0) XT ++ (pH g aH aB (aW 0) (X1.1, va_up X1.2.1 1 (fun _ => X1.2.1 1 0 + 1), va_up X1.2.2 1 S1))) H := hP
      rw [← hQ0]; exact W.vret hx hb hr (fun t ht hW => ⟨⟨(), rfl, trivial, by dsimp only; rw [ht, ← er0]; exact hP⟩, hS.F ht⟩) hS.2.2 dX0_keep_40
    · obtain ⟨S1, hcp, hf⟩ := bnd_el hf
      refine lv_astore_n (lv' := [(2, .ref (aB 2 0)), (0, .ref (aH 0)), (1, .ref (aT 0))]) hx hb dX0_keep_20 rfl hl (by decide) rfl (fun ls hl => ?_)
      refine lv_aload_n hx hb dX0_keep_21 rfl (lv_at hl 0 rfl) ?_
      refine lv_ifnull hx hb dX0_keep_22 ?_
      refine lv_aload_n hx hb dX0_keep_25 rfl (lv_at hl 0 rfl) ?_
      refine lv_aload_n hx hb dX0_keep_26 rfl (lv_at hl 2 rfl) ?_
      refine wr_v (rest := []) (wc := (pS g (aB 2) (aW 0) (X1.2.2 2) ++ (pS g aT (aW 0) XT))) (wc' := (pS g (aB 2) (aW 0) S1 ++ (pS g aT (aW 0) XT))) (ws2 := (pS g aT (aW 0) XT ++ (pH g aH aB (aW 0) (X1.1, X1.2.1, va_up X1.2.2 2 S1)))) hP hD hS hA [23, 24, 25, 26, 27, 28, 29, 0, 1, 2, 3, 4, 5, 6] rfl rfl (by rfl) (rnV (As := [.ref (aT 0)]) ⟨hx, hb, hml, hown, hts⟩ (c_X3_copy l g (aB 2) aT aW aP aQ _ _ _ _ hcp) (cwV 1 hts gX0_keep_X3_copy rfl rfl rfl (by decide +kernel) ⟨Nat.le_of_ble_eq_true rfl, Nat.le_of_ble_eq_true rfl⟩) hKW hP hD [23, 24, 25, 26, 27, 28, 29, 0, 1, 2, 3, 4, 5, 6] (by decide) rfl (va_recv hK hP (ci := 3) (q0 := 23) rfl rfl) rfl hl.1 rfl (lv_room (Nat.le_of_ble_eq_true rfl)) dX0_keep_27 ⟨Nat.zero_le _, Nat.zero_le _⟩) (fun H locs hP hD hS => ?_)
      refine lv_aload_n hx hb dX0_keep_30 rfl (lv_at hl 1 rfl) ?_
      refine lv_dup hx hb dX0_keep_31 rfl ?_
      refine va_get (D := g.1) (ci := 0) (v := .int (X1.2.1 1 0)) (C := RX0) (T := TX0) (N := 2) hx hb hts i_X0 hown hK hP 7 rfl rfl 1 (by decide) (hts (.fieldLink RX0 20 "WordFlasher$History" "many" "I") (List.mem_of_getElem? (i := 1) rfl)) (fun _ h9 => h9) rfl dX0_keep_32 ?_
      refine lv_iconst (v := 1) hx hb dX0_keep_35 (by decide) ?_
      refine lv_iadd hx hb dX0_keep_36 ?_
      refine va_put (D := g.1) (ci := 0) (v := .int (X1.2.1 1 0 + 1)) (ty := .int) (C := RX0) (T := TX0) (N := 2) hx hb hts i_X0 tyX0 tyX0_ok nmX0 hown hK hP hD hS 7 rfl rfl 1 (by decide) (hts (.fieldLink RX0 20 "WordFlasher$History" "many" "I") (List.mem_of_getElem? (i := 1) rfl)) (fun _ h9 => h9) rfl (by decide +kernel) rfl rfl (Nat.le_of_ble_eq_true rfl) dX0_keep_37 (fun H locs hP hD hS => ?_)
      have er0 := Option.some.inj hf
      have hP : va_P g.1 vwCl (pS g aT (aW 0) XT ++ (pH g aH aB (aW 0) (X1.1, va_up X1.2.1 1 (fun _ => X1.2.1 1 0 + 1), va_up X1.2.2 2 S1))) H := hP
      rw [← hQ0]; exact W.vret hx hb hr (fun t ht hW => ⟨⟨(), rfl, trivial, by dsimp only; rw [ht, ← er0]; exact hP⟩, hS.F ht⟩) hS.2.2 dX0_keep_40
    · obtain ⟨S1, hcp, hf⟩ := bnd_el hf
      refine lv_astore_n (lv' := [(2, .ref (aB 3 0)), (0, .ref (aH 0)), (1, .ref (aT 0))]) hx hb dX0_keep_20 rfl hl (by decide) rfl (fun ls hl => ?_)
      refine lv_aload_n hx hb dX0_keep_21 rfl (lv_at hl 0 rfl) ?_
      refine lv_ifnull hx hb dX0_keep_22 ?_
      refine lv_aload_n hx hb dX0_keep_25 rfl (lv_at hl 0 rfl) ?_
      refine lv_aload_n hx hb dX0_keep_26 rfl (lv_at hl 2 rfl) ?_
      refine wr_v (rest := []) (wc := (pS g (aB 3) (aW 0) (X1.2.2 3) ++ (pS g aT (aW 0) XT))) (wc' := (pS g (aB 3) (aW 0) S1 ++ (pS g aT (aW 0) XT))) (ws2 := (pS g aT (aW 0) XT ++ (pH g aH aB (aW 0) (X1.1, X1.2.1, va_up X1.2.2 3 S1)))) hP hD hS hA [30, 31, 32, 33, 34, 35, 36, 0, 1, 2, 3, 4, 5, 6] rfl rfl (by rfl) (rnV (As := [.ref (aT 0)]) ⟨hx, hb, hml, hown, hts⟩ (c_X3_copy l g (aB 3) aT aW aP aQ _ _ _ _ hcp) (cwV 1 hts gX0_keep_X3_copy rfl rfl rfl (by decide +kernel) ⟨Nat.le_of_ble_eq_true rfl, Nat.le_of_ble_eq_true rfl⟩) hKW hP hD [30, 31, 32, 33, 34, 35, 36, 0, 1, 2, 3, 4, 5, 6] (by decide) rfl (va_recv hK hP (ci := 3) (q0 := 30) rfl rfl) rfl hl.1 rfl (lv_room (Nat.le_of_ble_eq_true rfl)) dX0_keep_27 ⟨Nat.zero_le _, Nat.zero_le _⟩) (fun H locs hP hD hS => ?_)
      refine lv_aload_n hx hb dX0_keep_30 rfl (lv_at hl 1 rfl) ?_
      refine lv_dup hx hb dX0_keep_31 rfl ?_
      refine va_get (D := g.1) (ci := 0) (v := .int (X1.2.1 1 0)) (C := RX0) (T := TX0) (N := 2) hx hb hts i_X0 hown hK hP 7 rfl rfl 1 (by decide) (hts (.fieldLink RX0 20 "WordFlasher$History" "many" "I") (List.mem_of_getElem? (i := 1) rfl)) (fun _ h9 => h9) rfl dX0_keep_32 ?_
      refine lv_iconst (v := 1) hx hb dX0_keep_35 (by decide) ?_
      refine lv_iadd hx hb dX0_keep_36 ?_
      refine va_put (D := g.1) (ci := 0) (v := .int (X1.2.1 1 0 + 1)) (ty := .int) (C := RX0) (T := TX0) (N := 2) hx hb hts i_X0 tyX0 tyX0_ok nmX0 hown hK hP hD hS 7 rfl rfl 1 (by decide) (hts (.fieldLink RX0 20 "WordFlasher$History" "many" "I") (List.mem_of_getElem? (i := 1) rfl)) (fun _ h9 => h9) rfl (by decide +kernel) rfl rfl (Nat.le_of_ble_eq_true rfl) dX0_keep_37 (fun H locs hP hD hS => ?_)
      have er0 := Option.some.inj hf
      have hP : va_P g.1 vwCl (pS g aT (aW 0) XT ++ (pH g aH aB (aW 0) (X1.1, va_up X1.2.1 1 (fun _ => X1.2.1 1 0 + 1), va_up X1.2.2 3 S1))) H := hP
      rw [← hQ0]; exact W.vret hx hb hr (fun t ht hW => ⟨⟨(), rfl, trivial, by dsimp only; rw [ht, ← er0]; exact hP⟩, hS.F ht⟩) hS.2.2 dX0_keep_40
  refine lv_aload_n hx hb dX0_keep_0 rfl (lv_at hl 0 rfl) ?_
  refine va_get (D := g.1) (ci := 0) (v := .int (X.2.1 1 0)) (C := RX0) (T := TX0) (N := 2) hx hb hts i_X0 hown hK hP 7 rfl rfl 1 (by decide) (hts (.fieldLink RX0 20 "WordFlasher$History" "many" "I") (List.mem_of_getElem? (i := 1) rfl)) (fun _ h9 => h9) rfl dX0_keep_1 ?_
  refine lv_iconst (v := 4) hx hb dX0_keep_4 (by decide) ?_
  refine lv_icmp_lt (tgt := 12) hx hb dX0_keep_5 (by decide) (fun c1 => ?_) (fun c1 => ?_)
  · rw [if_pos c1] at eX9
    exact J_12 X _ _ ls hok hP hD hS hl (by rw [← eX9]; exact hf)
  · rw [if_neg c1] at eX9
    refine lv_aload_n hx hb dX0_keep_8 rfl (lv_at hl 0 rfl) ?_
    refine wr_v (rest := []) (wc := (pH g aH aB (aW 0) X)) (wc' := (pH g aH aB (aW 0) (fX0_dropOldest X))) (ws2 := (pS g aT (aW 0) XT ++ (pH g aH aB (aW 0) (fX0_dropOldest X)))) hP hD hS hA [7, 8, 9, 10, 11, 12, 13, 14, 15, 16, 17, 18, 19, 20, 21, 22, 23, 24, 25, 26, 27, 28, 29, 30, 31, 32, 33, 34, 35, 36] rfl rfl (by rfl) (rnV (As := []) ⟨hx, hb, hml, hown, hts⟩ (c_X0_dropOldest l g aH aB (aW 0) _ X hok) (cwV 0 hts gX0_keep_X0_dropOldest rfl rfl rfl (by decide +kernel) ⟨Nat.le_of_ble_eq_true rfl, Nat.le_of_ble_eq_true rfl⟩) hKW hP hD [7, 8, 9, 10, 11, 12, 13, 14, 15, 16, 17, 18, 19, 20, 21, 22, 23, 24, 25, 26, 27, 28, 29, 30, 31, 32, 33, 34, 35, 36] (by decide) rfl (va_recv hK hP (ci := 0) (q0 := 7) rfl rfl) rfl hl.1 rfl (lv_room (Nat.le_of_ble_eq_true rfl)) dX0_keep_9 ⟨Nat.zero_le _, Nat.zero_le _⟩) (fun H locs hP hD hS => ?_)
    refine J_12 (fX0_dropOldest X) _ _ ls ?_ hP hD hS hl (by rw [← eX9]; exact hf)
    obtain ⟨o0, o1, o2, o3⟩ := hok
    exact ⟨o1, o2, o3, o0⟩
