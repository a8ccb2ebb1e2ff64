/-! the script's cells -/
theorem va_X.lt {b L : Nat} {xs : Nat → Int32} {U : State} {H : Heap} (h : va_X b L xs U H) : b < H.size := by
  obtain ⟨scr, h1, -⟩ := h
  exact (Array.getElem?_eq_some_iff.mp h1).1
section CALLX
variable {p : Program} {l : Launch} {e : Env} {R : Room} {s : State} {m : MethodId} {args : Array Value} {below : List Frame} {meth : Method} {c : Code} {H H0 : Heap} {locs : List Loc} {cells slots : Nat} {Q : State → Prop} {A : Nat → Prop}
variable {y : MethodName} {bytes cc : ByteArray} {maxL nL n index : Nat} {ret : Option FieldType} {ws : List Cond} {rm : Room} {Ts : List Cond} {own C host : String} {b : Addr} {As rest : List Value} {g : GG} {pc : Nat} {ls : Array Slot} {st0 : List Value}
theorem rdSX {r : Int32} {L : Nat} {xs : Nat → Int32} (S : CallFix p m c cc nL s args Ts own) (hM : Met l y ws rm (va_Pc As (fun U => va_X b L xs U U.heap ∧ KW g U)) (vp_Si (fun r' => r' = r ∧ True)) 0 0 (fun _ => False)) (cw : CallB R s args own index y bytes maxL ret ws rm 0 0 n ∧ (Cond.static y).before args s = true) (hK : KW g s) (hX : va_X b L xs s H) (hn : As.length = n) (hsize : ls.size = nL) (hst : st0 = As.reverse ++ rest) (hW : 2 * (F0 m pc ls st0).monitorRoom + (rest.map fun v => v.category).sum ≤ 8) (hdg : decode cc pc = .ok (.invokestatic index, 3)) (hf : cells ≤ R.cells ∧ slots ≤ R.slots)
    (kk : True → W p l e R s m args below meth c H locs cells slots Q (F0 m (pc + 3) ls (.int r :: rest))) : W p l e R s m args below meth c H locs cells slots Q (F0 m pc ls st0) :=
  vp_callSi (W.runS S hM cw ⟨fun a U gf mk q => ⟨q.1, va_X.moved (u := U) (U := U.calling gf mk a) (Vm.Alike.refl U.vm) q.2.1, KW.same (u := U) (U := U.calling gf mk a) rfl (Vm.Alike.refl U.vm) q.2.2⟩, fun U hU hW => ⟨rfl, by rw [hU]; exact va_X.moved hW.alike hX, KW.warm hW hK⟩⟩ rfl hn hsize hst hW hdg hf) (fun r' hr' => hr'.1 ▸ kk trivial)
end CALLX
abbrev rmL_cell : Room := { frames := 0, cells := 0, slots := 0, locals := 0 }
set_option maxHeartbeats 8000000 in
set_option maxRecDepth 100000 in
theorem c_L_cell (l : Launch) (g : GG) (b1 N1 : Nat) (fr1 : (Nat → Int32)) (p1 : Int32) (r : Int32) (hf : fL_cell N1 fr1 p1 = some r) : Met l yL_cell wsL_cell rmL_cell (va_Pc [.ref b1, .int p1] (fun U => va_X b1 N1 fr1 U U.heap ∧ KW g U)) (vp_Si (fun r' => r' = r ∧ True)) 0 0 (fun _ => False) := by
  refine Met.ofW (cc := cL_cell) (maxL := 2) (ret := (some .int)) (by decide) rfl ?_
  intro p e s m args below meth c s₁ B hml hv
  obtain ⟨hargs, hX, hKW⟩ := hv
  have hK := hKW.1
  have hx := B.exec
  have hb := B.bytes
  have hr := B.returns
  have hts := atoms_spec (ws := wsL_cell) B.pre
  have hown : s.vm.findClass RL = some m.cls := findClass_of_methodNamed B.named
  have hlocks := B.notSynchronized
  have hbl := hX.lt
  have hbA : ¬ (fun _ : Nat => False) b1 := id
  have hS : va_S (fun _ => False) s.heap s.heap [] := va_S.rf
  have hent : entryFrame m args 2 = F0 m 0 ((lg_sl ([.ref b1, .int p1]) ++ List.replicate (2 - (lg_sl ([.ref b1, .int p1])).length) Slot.unset).toArray) [] := by rw [hargs]; exact lg_entry_eq _ _ _
  rw [hent]
  have hl := lv_entry ([.ref b1, .int p1]) (n := 2) (Nat.le_of_ble_eq_true rfl)
  generalize (lg_sl ([.ref b1, .int p1]) ++ List.replicate (2 - (lg_sl ([.ref b1, .int p1])).length) Slot.unset).toArray = ls at hl ⊢
  have hl : lv_has ls 2 [(0, .ref b1), (1, .int p1)] := hl
  generalize hQ0 : MQ below _ _ _ _ _ _ = Q0
  unfold fL_cell at hf
  refine lv_iload_n hx hb dL_cell_0 rfl (lv_at hl 1 rfl) ?_
  refine lv_aload_n hx hb dL_cell_1 rfl (lv_at hl 0 rfl) ?_
  refine va_slen hx hb hX hbl hbA hS dL_cell_2 ?_
  obtain ⟨j19, ej19, hf⟩ := sl_el hf
  have J_19 : ∀ (k0 : Int32) (ls : Array Slot), lv_has ls 2 [] → j19 k0 = some r → W p l e (headSpec wsL_cell rmL_cell).room s m args below meth c s.heap [] 0 0 Q0 (F0 m 19 ls [.int k0]) := by
    intro k0 ls hl hf
    rw [ej19] at hf
    refine lv_ldc (v := 2147483647) hx hb hown (hts (.constant RL 8 (2147483647)) (List.mem_of_getElem? (i := 2) rfl)) dL_cell_19 ?_
    refine lv_iand hx hb dL_cell_21 ?_
    have er0 := Option.some.inj hf
    rw [← hQ0]; exact W.iret (v := (k0 &&& 2147483647)) hx hb hr (fun t ht hW => ⟨(k0 &&& 2147483647), rfl, ⟨er0, trivial⟩, ht⟩) (fun q h => by cases h) dL_cell_22
  refine lv_icmp_ge (tgt := 12) hx hb dL_cell_3 (by decide) (fun c1 => ?_) (fun c1 => ?_)
  · have hf := ite_t hf c1
    refine lv_ldc (v := 15485959) hx hb hown (hts (.constant RL 7 (15485959)) (List.mem_of_getElem? (i := 1) rfl)) dL_cell_12 ?_
    refine lv_iload_n hx hb dL_cell_14 rfl (lv_at hl 1 rfl) ?_
    refine lv_imul hx hb dL_cell_15 ?_
    refine lv_bipush (v := 109) hx hb dL_cell_16 (by decide) ?_
    refine lv_iadd hx hb dL_cell_18 ?_
    exact J_19 ((15485959 * p1) + 109) ls (lv_sub hl [] rfl) hf
  · have hf := ite_f hf c1
    refine lv_aload_n hx hb dL_cell_6 rfl (lv_at hl 0 rfl) ?_
    refine lv_iload_n hx hb dL_cell_7 rfl (lv_at hl 1 rfl) ?_
    obtain ⟨h4, v2, e3, hf⟩ := rdA_el hf
    refine va_sld hx hb hX hbl hbA hS h4 dL_cell_8 ?_
    refine lv_as e3 ?_
    refine lv_goto (tgt := 19) hx hb dL_cell_9 (by decide) ?_
    exact J_19 v2 ls (lv_sub hl [] rfl) hf
