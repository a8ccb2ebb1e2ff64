/-! static arrays that nobody writes -/
def lowS : Nat → Int32 := fun j => if j = 0 then 1 else if j = 1 then 1 else if j = 2 then 100 else if j = 3 then 100 else if j = 4 then 100 else 0
def highS : Nat → Int32 := fun j => if j = 0 then 50 else if j = 1 then 10 else if j = 2 then 400 else if j = 3 then 400 else if j = 4 then 300 else if j = 5 then 50 else 20
def firstS : Nat → Int32 := fun j => if j = 0 then 6 else if j = 1 then 3 else if j = 2 then 150 else if j = 3 then 220 else if j = 4 then 130 else if j = 5 then 10 else 2
def STA (A : Nat → Prop) (tL tH : Nat) (U : State) : Prop := (va_Z RX5 "LOWEST_SETTINGS" "[I" (.ref tL) A U U.heap ∧ va_T .int tL 7 (fun j => .int (lowS j)) A U U.heap) ∧ (va_Z RX5 "HIGHEST_SETTINGS" "[I" (.ref tH) A U U.heap ∧ va_T .int tH 7 (fun j => .int (highS j)) A U U.heap)
section CALLT
variable {p : Program} {l : Launch} {e : Env} {R : Room} {s : State} {m : MethodId} {args : Array Value} {below : List Frame} {meth : Method} {c : Code} {H H0 : Heap} {locs : List Loc} {cells slots : Nat} {Q : State → Prop} {A : Nat → Prop}
variable {y : MethodName} {bytes cc : ByteArray} {maxL nL n index : Nat} {ret : Option FieldType} {ws : List Cond} {rm : Room} {Ts : List Cond} {own C host : String} {b : Addr} {As rest : List Value} {g : GG} {pc : Nat} {ls : Array Slot} {st0 : List Value}
theorem rdST {r : Int32} {N : Nat} {fv : Nat → Value} (S : CallFix p m c cc nL s args Ts own) (hM : Met l y ws rm (va_Pc As (fun U => va_T .int b N fv (fun _ => False) U U.heap ∧ KW g U)) (vp_Si (fun r' => r' = r ∧ True)) 0 0 (fun _ => False)) (cw : CallB R s args own index y bytes maxL ret ws rm 0 0 n ∧ (Cond.static y).before args s = true) (hK : KW g s) (hT : va_T .int b N fv (fun _ => False) s H) (hn : As.length = n) (hsize : ls.size = nL) (hst : st0 = As.reverse ++ rest) (hW : 2 * (F0 m pc ls st0).monitorRoom + (rest.map fun v => v.category).sum ≤ 8) (hdg : decode cc pc = .ok (.invokestatic index, 3)) (hf : cells ≤ R.cells ∧ slots ≤ R.slots)
    (kk : True → W p l e R s m args below meth c H locs cells slots Q (F0 m (pc + 3) ls (.int r :: rest))) : W p l e R s m args below meth c H locs cells slots Q (F0 m pc ls st0) :=
  vp_callSi (W.runS S hM cw ⟨fun a U gf mk q => ⟨q.1, va_T.moved (u := U) (U := U.calling gf mk a) (Vm.Alike.refl U.vm) q.2.1, KW.same (u := U) (U := U.calling gf mk a) rfl (Vm.Alike.refl U.vm) q.2.2⟩, fun U hU hW => ⟨rfl, by rw [hU]; exact va_T.moved hW.alike hT, KW.warm hW hK⟩⟩ rfl hn hsize hst hW hdg hf) (fun r' hr' => hr'.1 ▸ kk trivial)
end CALLT
set_option maxHeartbeats 8000000 in
set_option maxRecDepth 100000 in
theorem c_X5_atT (l : Launch) (g : GG) (b1 N1 : Nat) (fr1 : (Nat → Int32)) (p1 : Int32) (r : Int32) (hf : fX5_at N1 fr1 p1 = some r) : Met l yX5_at wsX5_at rmX5_at (va_Pc [.ref b1, .int p1] (fun U => va_T .int b1 N1 (fun j => .int (fr1 j)) (fun _ => False) U U.heap ∧ KW g U)) (vp_Si (fun r' => r' = r ∧ True)) 0 0 (fun _ => False) := by
  refine Met.ofW (cc := cX5_at) (maxL := 2) (ret := (some .int)) (by decide) rfl ?_
  intro p e s m args below meth c s₁ B hml hv
  obtain ⟨hargs, hT, hKW⟩ := hv
  have hK := hKW.1
  have hx := B.exec
  have hb := B.bytes
  have hr := B.returns
  have hlocks := B.notSynchronized
  have hS : va_S (fun _ => False) s.heap s.heap [] := va_S.rf
  have hent : entryFrame m args 2 = F0 m 0 ((lg_sl ([.ref b1, .int p1]) ++ List.replicate (2 - (lg_sl ([.ref b1, .int p1])).length) Slot.unset).toArray) [] := by rw [hargs]; exact lg_entry_eq _ _ _
  rw [hent]
  have hl := lv_entry ([.ref b1, .int p1]) (n := 2) (Nat.le_of_ble_eq_true rfl)
  generalize (lg_sl ([.ref b1, .int p1]) ++ List.replicate (2 - (lg_sl ([.ref b1, .int p1])).length) Slot.unset).toArray = ls at hl ⊢
  have hl : lv_has ls 2 [(0, .ref b1), (1, .int p1)] := hl
  generalize hQ0 : MQ below _ _ _ _ _ _ = Q0
  unfold fX5_at at hf
  refine lv_iload_n hx hb dX5_at_0 rfl (lv_at hl 1 rfl) ?_
  refine lv_if_lt (tgt := 16) hx hb dX5_at_1 (by decide) (fun c1 => ?_) (fun c1 => ?_)
  · have hf := ite_t hf c1
    refine lv_iconst (v := 0) hx hb dX5_at_16 (by decide) ?_
    have er0 := Option.some.inj hf
    rw [← hQ0]; exact W.iret (v := 0) hx hb hr (fun t ht hW => ⟨0, rfl, ⟨er0, trivial⟩, ht⟩) (fun q h => by cases h) dX5_at_17
  · have hf := ite_f hf c1
    refine lv_iload_n hx hb dX5_at_4 rfl (lv_at hl 1 rfl) ?_
    refine lv_aload_n hx hb dX5_at_5 rfl (lv_at hl 0 rfl) ?_
    refine va_tlen (v := (nI N1)) hx hb hT hS rfl dX5_at_6 ?_
    refine lv_icmp_ge (tgt := 16) hx hb dX5_at_7 (by decide) (fun c2 => ?_) (fun c2 => ?_)
    · have hf := ite_t hf c2
      refine lv_iconst (v := 0) hx hb dX5_at_16 (by decide) ?_
      have er0 := Option.some.inj hf
      rw [← hQ0]; exact W.iret (v := 0) hx hb hr (fun t ht hW => ⟨0, rfl, ⟨er0, trivial⟩, ht⟩) (fun q h => by cases h) dX5_at_17
    · have hf := ite_f hf c2
      refine lv_aload_n hx hb dX5_at_10 rfl (lv_at hl 0 rfl) ?_
      refine lv_iload_n hx hb dX5_at_11 rfl (lv_at hl 1 rfl) ?_
      obtain ⟨h5, v3, e4, hf⟩ := rdA_el hf
      refine va_ti hx hb hT hS h5 rfl dX5_at_12 ?_
      refine lv_as e4 ?_
      refine lv_goto (tgt := 17) hx hb dX5_at_13 (by decide) ?_
      have er0 := Option.some.inj hf
      rw [← hQ0]; exact W.iret (v := v3) hx hb hr (fun t ht hW => ⟨v3, rfl, ⟨er0, trivial⟩, ht⟩) (fun q h => by cases h) dX5_at_17
