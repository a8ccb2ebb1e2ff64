/-! the law's ground -/
section LAWC
variable {p : Program} {l : Launch} {e : Env} {R : Room} {s : State} {m : MethodId} {args : Array Value} {below : List Frame} {meth : Method} {c : Code} {H H0 : Heap} {locs : List Loc} {cells slots : Nat} {Q : State → Prop} {A : Nat → Prop}
variable {y : MethodName} {bytes cc : ByteArray} {maxL nL n index : Nat} {ret : Option FieldType} {ws : List Cond} {rm : Room} {Ts : List Cond} {own C host : String} {b : Addr} {As rest : List Value} {g : GG} {ws0 wc wc' ws2 : va_W} {pc : Nat} {ls : Array Slot} {st0 : List Value}
theorem STA.calling {tL tH : Nat} (a : Array Value) (U : State) (gf : JFrame) (mk : MethodId) (h : STA A tL tH U) : STA A tL tH (U.calling gf mk a) := ⟨⟨va_Z.moved (u := U) (U := U.calling gf mk a) (Vm.Alike.refl U.vm) h.1.1, va_T.moved (u := U) (U := U.calling gf mk a) (Vm.Alike.refl U.vm) h.1.2⟩, ⟨va_Z.moved (u := U) (U := U.calling gf mk a) (Vm.Alike.refl U.vm) h.2.1, va_T.moved (u := U) (U := U.calling gf mk a) (Vm.Alike.refl U.vm) h.2.2⟩⟩
theorem STA.at {B : Nat → Prop} {tL tH : Nat} (hst : STA A tL tH s) (hS : va_S A s.heap H locs) (hAB : ∀ q, B q → A q) : ∀ U : State, U.heap = H → s.WarmedH U.vm → STA B tL tH U := by
  intro U hU hW
  obtain ⟨⟨h1, h2⟩, h3, h4⟩ := hst
  refine ⟨⟨?_, ?_⟩, ?_, ?_⟩
  · rw [hU]; exact va_Z.moved hW.alike ((h1.kept (fun a ha hn => hS.2.1 a ha hn)).narrow hAB)
  · rw [hU]; exact va_T.moved hW.alike ((h2.kept (fun a ha hn => hS.2.1 a ha hn)).narrow hAB)
  · rw [hU]; exact va_Z.moved hW.alike ((h3.kept (fun a ha hn => hS.2.1 a ha hn)).narrow hAB)
  · rw [hU]; exact va_T.moved hW.alike ((h4.kept (fun a ha hn => hS.2.1 a ha hn)).narrow hAB)
theorem rnVE {mc ms : Nat} {Qc : Array Value → State → Outcome → State → Prop} {free : Addr → Prop} {E : State → Prop} (hEc : ∀ (a : Array Value) (U : State) (gf : JFrame) (mk : MethodId), E U → E (U.calling gf mk a)) (S : CallFix p m c cc nL s args Ts own) (hM : Met l y ws rm (va_Pc (.ref b :: As) (fun U => U.heap.size = H.size ∧ va_P g.1 vwCl wc U.heap ∧ KW g U ∧ va_D (fun _ => True) wc ∧ E U)) Qc mc ms free) (cw : CallW R s args own C index y bytes maxL ret ws rm mc ms n) (hK : KW g s) (hP : va_P g.1 vwCl ws0 H) (hD : va_D A ws0) (isC : List Nat) (hnd : va_nd isC = true) (hC : isC.map (fun i => ws0[i]?) = wc.map some) (hE : ∀ U : State, U.heap = H → s.WarmedH U.vm → E U) (hr : ∃ cellB : Cell, H[b]? = some cellB ∧ cellB.vm.isStatics = false ∧ s.vm.findClass C = some cellB.cls) (hn : As.length = n) (hsize : ls.size = nL) (hst : st0 = As.reverse ++ .ref b :: rest) (hW : 2 * (F0 m pc ls st0).monitorRoom + (rest.map fun v => v.category).sum ≤ 8) (hdg : decode cc pc = .ok (.invokevirtual index, 3)) (hf : cells + mc ≤ R.cells ∧ slots + ms ≤ R.slots) :
    va_Run p l e R s m args below meth c H locs cells slots mc ms (F0 m pc ls st0) rest (Qc (Value.ref b :: As).toArray) free :=
  va_runV S hM cw ⟨fun a U gf mk q => ⟨q.1, q.2.1, q.2.2.1, KW.same (u := U) (U := U.calling gf mk a) rfl (Vm.Alike.refl U.vm) q.2.2.2.1, q.2.2.2.2.1, hEc a U gf mk q.2.2.2.2.2⟩, hr, fun U hU hW => ⟨rfl, by rw [hU], by rw [hU]; exact hP.subm isC hC, KW.warm hW hK, (hD.sub isC hnd hC).weaken (fun _ _ _ _ => trivial), hE U hU hW⟩⟩ rfl hn hsize hst hW hdg hf
end LAWC
theorem len_spec {args : Array Value} {s : State} {t : Term} {v : Value} (h : (Term.length t).eval args s none [] s = some v) : ∃ a cell, t.eval args s none [] s = some (.ref a) ∧ s.arrayAt? a = some cell ∧ cell.slots.size < 2147483648 ∧ v = .int cell.slots.size.toInt32 := by
  simp only [Term.eval, Option.bind_eq_bind] at h
  cases ht : t.eval args s none [] s with
  | none => simp [ht] at h
  | some x =>
    cases x <;> simp [ht] at h
    case ref a =>
      obtain ⟨cell, hcell, h⟩ := Option.bind_eq_some_iff.mp h
      by_cases hn : cell.slots.size < 2147483648
      · rw [if_pos hn] at h; cases h; exact ⟨a, cell, rfl, hcell, hn, rfl⟩
      · rw [if_neg hn] at h; cases h
theorem cln_of {args : Array Value} {s : State} {t : Term} {A : Nat → Prop} (hex : (Cond.exactly t "[I").before args s = true) (hlen : (Term.length t).eval args s none [] s = some (.int 7)) (hel : ∀ j : Nat, j < 7 → (Term.elem t (.int (Int32.ofNat j))).eval args s none [] s = some (.int (firstS j))) (hA : ∀ a : Nat, a < s.heap.size → ¬ A a) : ∃ a, t.eval args s none [] s = some (.ref a) ∧ CLN A a s s.heap := by
  obtain ⟨a, cell, ht, hat, hsm, hv⟩ := len_spec hlen
  obtain ⟨hcell, hkn, -, k0, c0, ty0, -, -⟩ := State.arrayAt?_spec hat
  obtain ⟨a', c, cell', k, ht', hfc, hcell', -, hst, hcls, -⟩ := Cond.exactly_spec (show (Cond.exactly t "[I").holds args s none s [] = true from hex)
  cases ht.symm.trans ht'
  cases hcell.symm.trans hcell'
  refine ⟨a, ht, cell, hcell, hkn, (fun k h => by rw [h] at hst; cases hst), (by rw [hcls]; exact hfc), ?_, ?_, hA a (Array.getElem?_eq_some_iff.mp hcell).1⟩
  · have h7 : cell.slots.size.toInt32 = 7 := (Value.int.inj hv).symm
    have := congrArg Int32.toNatClampNeg h7
    rw [show cell.slots.size.toInt32 = nI cell.slots.size from rfl, nI_clamp hsm] at this
    exact this
  · intro j hj
    obtain ⟨a2, i, cell2, h1, h2, h3, h4, h5⟩ := Term.elem_spec (hel j hj)
    cases ht.symm.trans h1
    cases hat.symm.trans h3
    have hi : i = Int32.ofNat j := by
      have e : (Term.int (Int32.ofNat j)).eval args s none [] s = some (.int (Int32.ofNat j)) := rfl
      cases h2.symm.trans e
      rfl
    rw [hi, show Int32.ofNat j = nI j from rfl, nI_clamp (by omega)] at h5
    exact h5
set_option maxRecDepth 20000 in
theorem el_firstS {b : Addr} {s : State} (hs : ∀ c ∈ flatC (Jvm.Cond.and given_1 narrow_1), c.before #[Value.ref b] s = true) : ∀ j : Nat, j < 7 → (Term.elem (Term.static "WordFlasher" "FIRST_SETTINGS" "[I") (.int (Int32.ofNat j))).eval #[Value.ref b] s none [] s = some (.int (firstS j)) := by
  intro j hj
  rcases (show j = 0 ∨ j = 1 ∨ j = 2 ∨ j = 3 ∨ j = 4 ∨ j = 5 ∨ j = 6 by omega) with rfl | rfl | rfl | rfl | rfl | rfl | rfl
  · exact va_eqt (hs (Cond.eq (Term.elem (Term.static "WordFlasher" "FIRST_SETTINGS" "[I") (.int 0)) (.int 6)) (by decide +kernel))
  · exact va_eqt (hs (Cond.eq (Term.elem (Term.static "WordFlasher" "FIRST_SETTINGS" "[I") (.int 1)) (.int 3)) (by decide +kernel))
  · exact va_eqt (hs (Cond.eq (Term.elem (Term.static "WordFlasher" "FIRST_SETTINGS" "[I") (.int 2)) (.int 150)) (by decide +kernel))
  · exact va_eqt (hs (Cond.eq (Term.elem (Term.static "WordFlasher" "FIRST_SETTINGS" "[I") (.int 3)) (.int 220)) (by decide +kernel))
  · exact va_eqt (hs (Cond.eq (Term.elem (Term.static "WordFlasher" "FIRST_SETTINGS" "[I") (.int 4)) (.int 130)) (by decide +kernel))
  · exact va_eqt (hs (Cond.eq (Term.elem (Term.static "WordFlasher" "FIRST_SETTINGS" "[I") (.int 5)) (.int 10)) (by decide +kernel))
  · exact va_eqt (hs (Cond.eq (Term.elem (Term.static "WordFlasher" "FIRST_SETTINGS" "[I") (.int 6)) (.int 2)) (by decide +kernel))
set_option maxRecDepth 20000 in
theorem el_lowS {b : Addr} {s : State} (hs : ∀ c ∈ flatC (Jvm.Cond.and given_1 narrow_1), c.before #[Value.ref b] s = true) : ∀ j : Nat, j < 7 → (Term.elem (Term.static "WordFlasher" "LOWEST_SETTINGS" "[I") (.int (Int32.ofNat j))).eval #[Value.ref b] s none [] s = some (.int (lowS j)) := by
  intro j hj
  rcases (show j = 0 ∨ j = 1 ∨ j = 2 ∨ j = 3 ∨ j = 4 ∨ j = 5 ∨ j = 6 by omega) with rfl | rfl | rfl | rfl | rfl | rfl | rfl
  · exact va_eqt (hs (Cond.eq (Term.elem (Term.static "WordFlasher" "LOWEST_SETTINGS" "[I") (.int 0)) (.int 1)) (by decide +kernel))
  · exact va_eqt (hs (Cond.eq (Term.elem (Term.static "WordFlasher" "LOWEST_SETTINGS" "[I") (.int 1)) (.int 1)) (by decide +kernel))
  · exact va_eqt (hs (Cond.eq (Term.elem (Term.static "WordFlasher" "LOWEST_SETTINGS" "[I") (.int 2)) (.int 100)) (by decide +kernel))
  · exact va_eqt (hs (Cond.eq (Term.elem (Term.static "WordFlasher" "LOWEST_SETTINGS" "[I") (.int 3)) (.int 100)) (by decide +kernel))
  · exact va_eqt (hs (Cond.eq (Term.elem (Term.static "WordFlasher" "LOWEST_SETTINGS" "[I") (.int 4)) (.int 100)) (by decide +kernel))
  · exact va_eqt (hs (Cond.eq (Term.elem (Term.static "WordFlasher" "LOWEST_SETTINGS" "[I") (.int 5)) (.int 0)) (by decide +kernel))
  · exact va_eqt (hs (Cond.eq (Term.elem (Term.static "WordFlasher" "LOWEST_SETTINGS" "[I") (.int 6)) (.int 0)) (by decide +kernel))
set_option maxRecDepth 20000 in
theorem el_highS {b : Addr} {s : State} (hs : ∀ c ∈ flatC (Jvm.Cond.and given_1 narrow_1), c.before #[Value.ref b] s = true) : ∀ j : Nat, j < 7 → (Term.elem (Term.static "WordFlasher" "HIGHEST_SETTINGS" "[I") (.int (Int32.ofNat j))).eval #[Value.ref b] s none [] s = some (.int (highS j)) := by
  intro j hj
  rcases (show j = 0 ∨ j = 1 ∨ j = 2 ∨ j = 3 ∨ j = 4 ∨ j = 5 ∨ j = 6 by omega) with rfl | rfl | rfl | rfl | rfl | rfl | rfl
  · exact va_eqt (hs (Cond.eq (Term.elem (Term.static "WordFlasher" "HIGHEST_SETTINGS" "[I") (.int 0)) (.int 50)) (by decide +kernel))
  · exact va_eqt (hs (Cond.eq (Term.elem (Term.static "WordFlasher" "HIGHEST_SETTINGS" "[I") (.int 1)) (.int 10)) (by decide +kernel))
  · exact va_eqt (hs (Cond.eq (Term.elem (Term.static "WordFlasher" "HIGHEST_SETTINGS" "[I") (.int 2)) (.int 400)) (by decide +kernel))
  · exact va_eqt (hs (Cond.eq (Term.elem (Term.static "WordFlasher" "HIGHEST_SETTINGS" "[I") (.int 3)) (.int 400)) (by decide +kernel))
  · exact va_eqt (hs (Cond.eq (Term.elem (Term.static "WordFlasher" "HIGHEST_SETTINGS" "[I") (.int 4)) (.int 300)) (by decide +kernel))
  · exact va_eqt (hs (Cond.eq (Term.elem (Term.static "WordFlasher" "HIGHEST_SETTINGS" "[I") (.int 5)) (.int 50)) (by decide +kernel))
  · exact va_eqt (hs (Cond.eq (Term.elem (Term.static "WordFlasher" "HIGHEST_SETTINGS" "[I") (.int 6)) (.int 20)) (by decide +kernel))
set_option maxHeartbeats 16000000 in
set_option maxRecDepth 100000 in
theorem statics_at {b : Addr} {s : State} (hgv : (Jvm.Cond.and given_1 narrow_1).before #[Value.ref b] s = true) (hts : ∀ w ∈ lw_tbl, w.before #[Value.ref b] s = true) {A : Nat → Prop} (hA : ∀ a : Nat, a < s.heap.size → ¬ A a) : ∃ tL tH tF : Nat, STA A tL tH s ∧ STF A tF s := by
  have hs := flat_of_before _ hgv
  have hin : (Cond.initialized RX5).before #[Value.ref b] s = true := hts _ (by decide +kernel)
  have l_tF : (Cond.laysStatic RX5 "FIRST_SETTINGS" "[I").before #[Value.ref b] s = true := hts _ (by decide +kernel)
  have n_tF := va_eqt (hs (Cond.eq (Term.length (Term.static "WordFlasher" "FIRST_SETTINGS" "[I")) (.int 7)) (by decide +kernel))
  have a_tF : (Cond.arrayOf (Term.static "WordFlasher" "FIRST_SETTINGS" "[I") .int).before #[Value.ref b] s = true := hs _ (by decide +kernel)
  have l_tL : (Cond.laysStatic RX5 "LOWEST_SETTINGS" "[I").before #[Value.ref b] s = true := hts _ (by decide +kernel)
  have n_tL := va_eqt (hs (Cond.eq (Term.length (Term.static "WordFlasher" "LOWEST_SETTINGS" "[I")) (.int 7)) (by decide +kernel))
  have a_tL : (Cond.arrayOf (Term.static "WordFlasher" "LOWEST_SETTINGS" "[I") .int).before #[Value.ref b] s = true := hs _ (by decide +kernel)
  have l_tH : (Cond.laysStatic RX5 "HIGHEST_SETTINGS" "[I").before #[Value.ref b] s = true := hts _ (by decide +kernel)
  have n_tH := va_eqt (hs (Cond.eq (Term.length (Term.static "WordFlasher" "HIGHEST_SETTINGS" "[I")) (.int 7)) (by decide +kernel))
  have a_tH : (Cond.arrayOf (Term.static "WordFlasher" "HIGHEST_SETTINGS" "[I") .int).before #[Value.ref b] s = true := hs _ (by decide +kernel)
  obtain ⟨tL, eL, TL⟩ := va_Tof (f := fun j => .int (lowS j)) (A := A) (N := 7) (by decide) a_tL n_tL (el_lowS hs) hA
  obtain ⟨tH, eH, TH⟩ := va_Tof (f := fun j => .int (highS j)) (A := A) (N := 7) (by decide) a_tH n_tH (el_highS hs) hA
  obtain ⟨tF, eF, CF⟩ := cln_of (t := (Term.static "WordFlasher" "FIRST_SETTINGS" "[I")) (A := A) (hs (Cond.exactly (Term.static "WordFlasher" "FIRST_SETTINGS" "[I") "[I") (by decide +kernel)) n_tF (el_firstS hs) hA
  exact ⟨tL, tH, tF, ⟨⟨va_Zof l_tL hin eL hA, TL⟩, ⟨va_Zof l_tH hin eH hA, TH⟩⟩, va_Zof l_tF hin eF hA, CF, va_Nw.of rfl (hts (.castable "[I" "java/lang/Cloneable") (by decide +kernel)), va_Nw.of rfl (hts (.fieldLinkNest RX3 19 RX5 "FIRST_SETTINGS" "[I" RX5) (by decide +kernel)), va_AO.of (hts (.arrayOver (.object RX3)) (by decide +kernel))⟩
set_option maxRecDepth 20000 in
theorem nest_in : ∀ w ∈ nestL, w ∈ lw_tbl := by decide +kernel
