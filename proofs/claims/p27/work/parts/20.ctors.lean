/-! constructors: what they make -/
abbrev lsA (l : List Nat) : Nat → Nat := fun i => l.getD i 0
def CLN (A : Nat → Prop) (t : Nat) (U : State) (H : Heap) : Prop := ∃ cell : Cell, H[t]? = some cell ∧ cell.vm ≠ .unknown ∧ (∀ k, cell.vm ≠ .statics k) ∧ U.vm.findClass "[I" = some cell.cls ∧ cell.slots.size = 7 ∧ (∀ j : Nat, j < 7 → cell.slots[j]? = some (.int (firstS j))) ∧ ¬ A t
def STF (A : Nat → Prop) (tF : Nat) (U : State) : Prop := va_Z RX5 "FIRST_SETTINGS" "[I" (.ref tF) A U U.heap ∧ CLN A tF U U.heap ∧ va_Nw (.castable "[I" "java/lang/Cloneable") U ∧ va_Nw (.fieldLinkNest RX3 19 RX5 "FIRST_SETTINGS" "[I" RX5) U ∧ va_AO RX3 U
def X0D : DM := fun _ _ => 0
def XS0 : DM := fun k => if k = 3 then firstS else if k = 4 then (fun j => if j < 3 then 100 else 0) else if k = 6 then (fun _ => -1) else if k = 10 then (fun j => if j < 3 then -1 else 0) else (fun _ => 0)
theorem fill3 (v : Int32) : fX5_fill 10 3 (fun _ => 0) v = some (fun j => if j < 3 then v else 0) := by
  have h : fX5_fill 10 3 (fun _ => 0) v = some (upd (upd (upd (fun _ => 0) 0 v) 1 v) 2 v) := rfl
  rw [h]
  congr 1
  funext j
  simp only [upd]
  by_cases h2 : j = 2
  · subst h2; simp
  · by_cases h1 : j = 1
    · subst h1; simp
    · by_cases h0 : j = 0
      · subst h0; simp
      · rw [if_neg h2, if_neg h1, if_neg h0, if_neg (by omega)]
theorem ra_eq {U : State} {c1 c2 : ClassId} {ty : FieldType} (h1 : va_RA U c1 ty) (h2 : va_RA U c2 ty) : c1 = c2 := by
  cases ty with
  | object C =>
    obtain ⟨-, -, -, -, -, h1⟩ := h1
    obtain ⟨-, -, -, -, -, h2⟩ := h2
    exact Option.some.inj (h1.symm.trans h2)
  | _ => exact Option.some.inj (h1.symm.trans h2)
section CTOR
variable {p : Program} {l : Launch} {e : Env} {R : Room} {s : State} {m : MethodId} {args : Array Value} {below : List Frame} {meth : Method} {c : Code} {H H0 : Heap} {locs : List Loc} {cells slots : Nat} {Q : State → Prop} {A : Nat → Prop}
variable {y : MethodName} {bytes cc : ByteArray} {maxL nL n index : Nat} {ret : Option FieldType} {ws : List Cond} {rm : Room} {Ts : List Cond} {own C host : String} {b : Addr} {As rest : List Value} {g : GG} {ws0 wc wr wc' ws2 : va_W} {pc : Nat} {ls : Array Slot} {st0 : List Value}
theorem nwA {atype : ArrayType} {ty : FieldType} {cG : ClassId} (hx : p.tables.exec = Jvm.exec) (hb : c.code = cc) (harr : (Cond.arrayClass (newarray.typeOf atype)).before args s = true) (hty : newarray.typeOf atype = ty) (hdv : defaultValue ty = .int 0) (hK : va_K g.1 vwCl (tyG g) s) (t0 : Nat) (ht : (tyG g)[t0]? = some (cG, ty)) (ht4 : (tyG g).length = 4) (hP : va_P g.1 vwCl ws0 H) (hD : va_D A ws0) (hS : va_S A H0 H locs) (hA : ∀ q, H0.size ≤ q → A q) {n : Int32} {N' : Nat} (hn : ¬ n < 0) (hN : n.toNatClampNeg = N') (hbytes : N' * componentBytes ty ≤ 536870912) (hcells : cells + 1 ≤ R.cells) (hslots : slots + N' ≤ R.slots) (hdg : decode cc pc = .ok (.newarray atype, 2))
    (kk : ∀ (q : Nat) (H1 : Heap), va_P g.1 vwCl (ws0 ++ [(q, .inl (cG, N', .inl (fun _ => 0)))]) H1 → va_D A (ws0 ++ [(q, .inl (cG, N', .inl (fun _ => 0)))]) → va_S A H0 H1 locs → W p l e R s m args below meth c H1 locs (cells + 1) (slots + N') Q (F0 m (pc + 2) ls (.ref q :: rest))) : W p l e R s m args below meth c H locs cells slots Q (F0 m pc ls (.int n :: rest)) := by
  refine va_newa (a0 := (N', .inl (fun _ => 0))) hx hb harr hty hK hP hD hS hA (fun cA => by rw [hdv]; rfl) hn hN hbytes hcells hslots hdg (fun q cA H1 hK1 hP1 hD1 hS1 => ?_)
  have h4 := (hK1.2 4 (cA, ty) (by rw [List.getElem?_append_right (by omega), ht4]; rfl)).2
  have h0 := (hK.2 t0 _ ht).2
  have := ra_eq h4 h0
  subst this
  exact kk q H1 hP1 hD1 hS1
theorem nwQ (hx : p.tables.exec = Jvm.exec) (hb : c.code = cc) (hown : s.vm.findClass own = some m.cls) (hclink : (Cond.classLink own index RX3).before args s = true) (hover : va_AO RX3 s) (hK : va_K g.1 vwCl (tyG g) s) (hP : va_P g.1 vwCl ws0 H) (hD : va_D A ws0) (hS : va_S A H0 H locs) (hA : ∀ q, H0.size ≤ q → A q) {n : Int32} {N' : Nat} (hn : ¬ n < 0) (hN : n.toNatClampNeg = N') (hbytes : N' * 4 ≤ 536870912) (hcells : cells + 1 ≤ R.cells) (hslots : slots + N' ≤ R.slots) (hdg : decode cc pc = .ok (.anewarray index, 3))
    (kk : ∀ (q : Nat) (H1 : Heap), va_P g.1 vwCl (ws0 ++ [(q, .inl (g.2.2.2.2, N', .inr (.inr (.inr (.inr (fun _ => none))))))]) H1 → va_D A (ws0 ++ [(q, .inl (g.2.2.2.2, N', .inr (.inr (.inr (.inr (fun _ => none))))))]) → va_S A H0 H1 locs → W p l e R s m args below meth c H1 locs (cells + 1) (slots + N') Q (F0 m (pc + 3) ls (.ref q :: rest))) : W p l e R s m args below meth c H locs cells slots Q (F0 m pc ls (.int n :: rest)) := by
  refine va_newq hx hb hown hclink hover hK hP hD hS hA hn hN hbytes hcells hslots hdg (fun q cA H1 hK1 hP1 hD1 hS1 => ?_)
  have h4 := (hK1.2 4 (cA, .object RX3) rfl).2
  have h0 := (hK.2 3 (g.2.2.2.2, .object RX3) rfl).2
  have := ra_eq h4 h0
  subst this
  exact kk q H1 hP1 hD1 hS1
theorem clT {tF : Nat} (hx : p.tables.exec = Jvm.exec) (hb : c.code = cc) (hml : c.maxLocals = ls.size) (hown : s.vm.findClass own = some m.cls)
    (hlink : (Cond.methodLink own index ⟨"[I", "clone", "()Ljava/lang/Object;"⟩).before args s = true) (hsame : (Cond.sameMethod "[I" "java/lang/Object" "clone" "()Ljava/lang/Object;").before args s = true)
    (hnat : (Cond.native ⟨"java/lang/Object", "clone", "()Ljava/lang/Object;"⟩).before args s = true) (hinst : (Cond.instanceMethod ⟨"java/lang/Object", "clone", "()Ljava/lang/Object;"⟩).before args s = true)
    (hsel : (Cond.selects "[I" ⟨"[I", "clone", "()Ljava/lang/Object;"⟩ ⟨"java/lang/Object", "clone", "()Ljava/lang/Object;"⟩).before args s = true) (hcl : va_Nw (.castable "[I" "java/lang/Cloneable") s)
    (hK : va_K g.1 vwCl (tyG g) s) (hP : va_P g.1 vwCl ws0 H) (hD : va_D A ws0) (hS : va_S A s.heap H locs) (hA : ∀ q, s.heap.size ≤ q → A q) (hT : CLN A tF s s.heap)
    (hframes : 1 ≤ R.frames) (hlocals : (rest.map fun v => v.category).sum + 14 ≤ R.locals) (hcells : cells + 1 ≤ R.cells) (hslots : slots + 7 ≤ R.slots) (hdg : decode cc pc = .ok (.invokevirtual index, 3))
    (kk : ∀ (q : Nat) (H1 : Heap), va_P g.1 vwCl (ws0 ++ [(q, .inl (g.2.1, 7, .inl firstS))]) H1 → va_D A (ws0 ++ [(q, .inl (g.2.1, 7, .inl firstS))]) → va_S A s.heap H1 locs →
      W p l e R s m args below meth c H1 locs (cells + 1) (slots + 7) Q (F0 m (pc + 3) ls (.ref q :: rest))) : W p l e R s m args below meth c H locs cells slots Q (F0 m pc ls (.ref tF :: rest)) := by
  obtain ⟨cell, h1, h2, h3, h4, h5, h6, h7⟩ := hT
  have hcI : cell.cls = g.2.1 := by
    have h0 : va_RA s g.2.1 .int := (hK.2 0 (g.2.1, .int) rfl).2
    exact Option.some.inj (h4.symm.trans h0)
  have hcell : H[tF]? = some cell := by rw [hS.2.1 tF (Array.getElem?_eq_some_iff.mp h1).1 h7]; exact h1
  have hE : ({ cls := cell.cls, slots := cell.slots } : Cell) = vp_cell g.2.1 (7, .inl firstS) := by
    have hs : cell.slots = (arrV g.2.1 7 (fun j => .int (firstS j))).slots := by
      apply Array.ext
      · rw [h5, arrV_size]
      · intro i hi1 hi2
        have e1 := h6 i (by omega)
        have e2 := arrV_read g.2.1 (fun j => Value.int (firstS j)) (N := 7) (j := i) (by omega)
        rw [Array.getElem?_eq_getElem hi1] at e1
        rw [Array.getElem?_eq_getElem hi2] at e2
        exact Option.some.inj (e1.trans e2.symm)
    rw [hcI, hs]
    rfl
  obtain ⟨c0, t0', f1, f2, f3⟩ := Cond.castable_spec (va_Nw.use (A := args) rfl hcl)
  cases h4.symm.trans f1
  intro T hT X
  obtain ⟨-, kA, hkA, comp, hkind⟩ := State.isArrayOf_alike X.warmed.alike ((hK.2 0 (g.2.1, .int) rfl).1 0 (fun _ => .null))
  obtain ⟨-, kS, hkS, compS, hkindS⟩ := (hK.2 0 (g.2.1, .int) rfl).1 0 (fun _ => .null)
  obtain ⟨vm', X', st⟩ := X.cloneArray hx hown hlink hsame hnat hinst hsel (a := tF) (cell := cell) (by rw [hT]; exact hcell) h3 h2 h4 f2 f3
    (fun i v hv => by
      have hi : i < 7 := by rw [← h5]; exact (Array.getElem?_eq_some_iff.mp hv).1
      have e1 := h6 i hi
      rw [hv] at e1
      cases e1
      rw [hcI]
      have hk' : T.vm.classes[g.2.1]? = some kA := hkA
      simp [State.fitsSlot, State.slotType?, hk', hkind, fits])
    (g := F0 m pc ls (.ref tF :: rest)) rfl (by rw [hml]) rfl (by rw [hb]; exact hdg) hframes (by show 2 * 0 + _ + 14 ≤ _; omega) hcells (by rw [h5]; exact hslots) (hloader := by rw [hcI]; exact Vm.clonesLoader_of_array hkS hkindS)
  rw [hE, h5] at X'
  generalize hH1 : H.push (vp_cell g.2.1 (7, .inl firstS)) = H1
  have z1 : H1.size = H.size + 1 := by rw [← hH1, Array.size_push]
  have e1 : H1[H.size]? = some (vp_cell g.2.1 (7, .inl firstS)) := by rw [← hH1, Array.getElem?_push_size]
  have o1 : ∀ q : Nat, q < H.size → H1[q]? = H[q]? := fun q hq => by rw [← hH1, Array.getElem?_push, if_neg (Nat.ne_of_lt hq)]
  have hk : ∀ (k : Nat) (y : Nat × va_E), ws0[k]? = some y → H1[y.1]? = H[y.1]? := fun k y hy => o1 y.1 ((hP k y hy).lt)
  obtain ⟨t, b1, b2⟩ := kk H.size H1 ((hP.kept hk).app (fun k y hy => by
      have hz : k < 1 := (List.getElem?_eq_some_iff.mp hy).1
      rw [show k = 0 by omega] at hy
      cases hy
      exact e1)) (hD.push hP rfl (hA _ hS.1)) ⟨Nat.le_trans hS.1 (by omega), fun x h1 h2 => (o1 x (Nat.lt_of_lt_of_le h1 hS.1)).trans (hS.2.1 x h1 h2), hS.2.2⟩ _ (by show T.heap.push _ = H1; rw [hT]; exact hH1) X'
  refine ⟨t, ?_, b2⟩
  have := st t
  rw [hT, hE] at this
  exact this b1
theorem wr_n {σ : Type} {mc ms : Nat} {post : σ → Prop} {w1 : σ → va_W} {aa : Array Value} (hP : va_P g.1 vwCl ws0 H) (hD : va_D A ws0) (hS : va_S A H0 H locs) (hA : ∀ q, H0.size ≤ q → A q) (isC isR : List Nat) (hC : isC.map (fun i => ws0[i]?) = wc.map some) (hR : isR.map (fun i => ws0[i]?) = wr.map some) (hnd : va_nd isR = true) (hdis : ∀ i ∈ isR, i ∉ isC)
    (hr : va_Run p l e R s m args below meth c H locs cells slots mc ms (F0 m pc ls st0) rest (va_Qv post (fun (u : σ) t => va_P g.1 vwCl (w1 u) t.heap ∧ va_D (va_A wc H.size) (w1 u)) (va_A wc H.size) aa) (va_A wc H.size))
    (kk : ∀ (u : σ) (H1 : Heap) (locs1 : List Loc), post u → va_P g.1 vwCl (wr ++ w1 u) H1 → va_D A (wr ++ w1 u) → va_S A H0 H1 locs1 → W p l e R s m args below meth c H1 locs1 (cells + mc) (slots + ms) Q (F0 m (pc + 3) ls rest)) : W p l e R s m args below meth c H locs cells slots Q (F0 m pc ls st0) := by
  have hF := va_free hD hS hA isC hC
  refine va_callv hr hS (fun q _ h => hF q h) hF (fun u t H1 locs1 ht hvm hw hB hz hk1 hS1 => ?_)
  rw [ht] at hB
  obtain ⟨h1, h2⟩ := va_join hP hD isC isR hC hR hnd hdis hk1 hF hB.1 hB.2
  exact kk u H1 locs1 hw h1 h2 hS1
theorem rnI {mc ms : Nat} {Qc : Array Value → State → Outcome → State → Prop} {free : Addr → Prop} {E : State → Prop} (hEc : ∀ (a : Array Value) (U : State) (gf : JFrame) (mk : MethodId), E U → E (U.calling gf mk a)) (S : CallFix p m c cc nL s args Ts own) (hM : Met l y ws rm (va_Pc (.ref b :: As) (fun U => U.heap.size = H.size ∧ va_P g.1 vwCl wc U.heap ∧ KW g U ∧ va_D (fun _ => True) wc ∧ E U)) Qc mc ms free) (cw : CallB R s args own index y bytes maxL none ws rm mc ms n ∧ y.name = "<init>" ∧ (Cond.instanceMethod y).before args s = true) (hK : KW g s) (hP : va_P g.1 vwCl ws0 H) (hD : va_D A ws0) (isC : List Nat) (hnd : va_nd isC = true) (hC : isC.map (fun i => ws0[i]?) = wc.map some) (hE : ∀ U : State, U.heap = H → s.WarmedH U.vm → E U) (hn : As.length = n) (hsize : ls.size = nL) (hst : st0 = As.reverse ++ .ref b :: rest) (hW : 2 * (F0 m pc ls st0).monitorRoom + (rest.map fun v => v.category).sum ≤ 8) (hdg : decode cc pc = .ok (.invokespecial index, 3)) (hf : cells + mc ≤ R.cells ∧ slots + ms ≤ R.slots) :
    va_Run p l e R s m args below meth c H locs cells slots mc ms (F0 m pc ls st0) rest (Qc (Value.ref b :: As).toArray) free :=
  va_runI S hM cw ⟨fun a U gf mk q => ⟨q.1, q.2.1, q.2.2.1, KW.same (u := U) (U := U.calling gf mk a) rfl (Vm.Alike.refl U.vm) q.2.2.2.1, q.2.2.2.2.1, hEc a U gf mk q.2.2.2.2.2⟩, fun U hU hW => ⟨rfl, by rw [hU], by rw [hU]; exact hP.subm isC hC, KW.warm hW hK, (hD.sub isC hnd hC).weaken (fun _ _ _ _ => trivial), hE U hU hW⟩⟩ rfl hn hsize hst hW hdg hf
theorem CLN.moved {t : Nat} {u U : State} {H : Heap} (hvm : u.vm.Alike U.vm) (h : CLN A t u H) : CLN A t U H := by
  obtain ⟨cell, h1, h2, h3, h4, h5⟩ := h
  exact ⟨cell, h1, h2, h3, by rw [hvm.findClass]; exact h4, h5⟩
theorem CLN.kept {t : Nat} {U : State} {H H1 : Heap} (h : CLN A t U H) (hq : ∀ a : Nat, a < H.size → ¬ A a → H1[a]? = H[a]?) : CLN A t U H1 := by
  obtain ⟨cell, h1, h2, h3, h4, h5, h6, h7⟩ := h
  exact ⟨cell, by rw [hq t (Array.getElem?_eq_some_iff.mp h1).1 h7]; exact h1, h2, h3, h4, h5, h6, h7⟩
theorem CLN.narrow {B : Nat → Prop} {t : Nat} {U : State} {H : Heap} (h : CLN A t U H) (hAB : ∀ q, B q → A q) : CLN B t U H := by
  obtain ⟨cell, h1, h2, h3, h4, h5, h6, h7⟩ := h
  exact ⟨cell, h1, h2, h3, h4, h5, h6, fun z => h7 (hAB t z)⟩
theorem STF.calling {tF : Nat} (a : Array Value) (U : State) (gf : JFrame) (mk : MethodId) (h : STF A tF U) : STF A tF (U.calling gf mk a) := ⟨va_Z.moved (u := U) (U := U.calling gf mk a) (Vm.Alike.refl U.vm) h.1, CLN.moved (u := U) (U := U.calling gf mk a) (Vm.Alike.refl U.vm) h.2.1, va_Nw.same (u := U) (U := U.calling gf mk a) rfl rfl h.2.2.1, va_Nw.same (u := U) (U := U.calling gf mk a) rfl rfl h.2.2.2.1, va_AO.moved (u := U) (U := U.calling gf mk a) (Vm.Alike.refl U.vm) h.2.2.2.2⟩
/-- what the constructors ask of the statics, at a call -/
theorem STF.at {B : Nat → Prop} {tF : Nat} (hst : STF A tF s) (hS : va_S A s.heap H locs) (hAB : ∀ q, B q → A q) : ∀ U : State, U.heap = H → s.WarmedH U.vm → STF B tF U := by
  intro U hU hW
  obtain ⟨h1, h2, h3, h4, h5⟩ := hst
  refine ⟨?_, ?_, va_Nw.warmC hW h3, va_Nw.warmF hW h4, ?_⟩
  · rw [hU]; exact va_Z.moved hW.alike ((h1.kept (fun a ha hn => hS.2.1 a ha hn)).narrow hAB)
  · rw [hU]; exact CLN.moved hW.alike ((h2.kept (fun a ha hn => hS.2.1 a ha hn)).narrow hAB)
  · exact va_AO.moved hW.alike h5
end CTOR

abbrev rmX2_init : Room := { frames := 1, cells := 3, slots := 450, locals := 12 }
set_option maxHeartbeats 16000000 in
set_option maxRecDepth 100000 in
theorem c_X2_init (l : Launch) (g : GG) (h0 : Nat) (sz : Nat) : Met l yX2_init wsX2_init rmX2_init (va_Pc [.ref h0] (fun U => U.heap.size = sz ∧ va_P g.1 vwCl [(h0, .inr (2, [.null, .null, .null, .int 0]))] U.heap ∧ KW g U ∧ va_D (fun _ => True) [(h0, .inr (2, [.null, .null, .null, .int 0]))] ∧ True)) (va_Qv (fun (u : (Nat → Nat)) => u 0 = h0) (fun (u : (Nat → Nat)) t => va_P g.1 vwCl (pP g u X0D) t.heap ∧ va_D (va_A [(h0, .inr (2, [.null, .null, .null, .int 0]))] sz) (pP g u X0D)) (va_A [(h0, .inr (2, [.null, .null, .null, .int 0]))] sz)) 3 450 (va_A [(h0, .inr (2, [.null, .null, .null, .int 0]))] sz) := by
  refine Met.ofW (cc := cX2_init) (maxL := 1) (ret := none) (by decide) rfl ?_
  intro p e s m args below meth c s₁ B hml hv
  obtain ⟨hargs, hsz, hP, hKW, hD0, hST⟩ := hv
  have hK := hKW.1
  have hx := B.exec
  have hb := B.bytes
  have hr := B.returns
  have hts := atoms_spec (ws := wsX2_init) B.pre
  have hown : s.vm.findClass RX2 = some m.cls := findClass_of_methodNamed B.named
  have hlocks := B.notSynchronized
  have hin : meth.name = "<init>" := (name_of_methodNamed B.named B.method).1
  subst hsz
  have hD := hD0.self (sz := s.heap.size)
  generalize hAe : va_A [(h0, .inr (2, [.null, .null, .null, .int 0]))] s.heap.size = A at hD hST ⊢
  have hA : ∀ q : Nat, s.heap.size ≤ q → A q := fun q h => by rw [← hAe]; exact Or.inr h
  have hS : va_S A s.heap s.heap [] := va_S.rf
  have i_X2 : ∀ w ∈ wsX20, w ∈ wsX2_init := fun w h => List.mem_cons_of_mem _ (List.mem_append_right _ h)
  have hent : entryFrame m args 1 = F0 m 0 ((lg_sl ([.ref h0]) ++ List.replicate (1 - (lg_sl ([.ref h0])).length) Slot.unset).toArray) [] := by rw [hargs]; exact lg_entry_eq _ _ _
  rw [hent]
  have hl := lv_entry ([.ref h0]) (n := 1) (Nat.le_of_ble_eq_true rfl)
  generalize (lg_sl ([.ref h0]) ++ List.replicate (1 - (lg_sl ([.ref h0])).length) Slot.unset).toArray = ls at hl ⊢
  have hl : lv_has ls 1 [(0, .ref h0)] := hl
  generalize hQ0 : MQ below _ _ _ _ _ _ = Q0
  refine lv_aload_n hx hb dX2_init_0 rfl (lv_at hl 0 rfl) ?_
  refine W.objInit hx hb hown (hts (.methodLink RX2 3 objectInit) (List.mem_of_getElem? (i := 1) rfl)) (hts (.instanceMethod objectInit) (List.mem_of_getElem? (i := 2) rfl)) (hts (.code objectInit ⟨#[0xb1]⟩ 1 none) (List.mem_of_getElem? (i := 3) rfl)) rfl (by rw [hml]; exact hl.1) rfl dX2_init_1 (Nat.le_of_ble_eq_true rfl) (Nat.le_of_ble_eq_true rfl) ?_
  refine W.eq (g2 := F0 m 4 ls []) rfl ?_
  refine lv_aload_n hx hb dX2_init_4 rfl (lv_at hl 0 rfl) ?_
  refine lv_sipush (v := 150) hx hb dX2_init_5 (by decide) ?_
  refine nwA (atype := .int) hx hb (hts (.arrayClass .int) (List.mem_of_getElem? (i := 4) rfl)) rfl rfl hK 0 rfl rfl hP hD hS hA (by decide) (N' := 150) (by decide) (Nat.le_of_ble_eq_true rfl) (Nat.le_of_ble_eq_true rfl) (Nat.le_of_ble_eq_true rfl) dX2_init_8 (fun q1 H hP hD hS => ?_)
  have hP : va_P g.1 vwCl [(h0, .inr (2, [.null, .null, .null, .int 0])), (q1, .inl (g.2.1, 150, .inl (fun _ => 0)))] H := hP
  have hD : va_D A [(h0, .inr (2, [.null, .null, .null, .int 0])), (q1, .inl (g.2.1, 150, .inl (fun _ => 0)))] := hD
  refine W.widen (k := 1) (n := 150) (Nat.le_of_ble_eq_true rfl) (Nat.le_of_ble_eq_true rfl) ?_
  refine va_putF (D := g.1) (ci := 2) (v := .ref q1) (ty := (.array .int)) (C := RX2) (T := TX2) (N := 4) hx hb hts i_X2 tyX2 tyX2_ok nmX2 hown hK hP hD hS 0 rfl rfl 0 (by decide) (hts (.fieldLink RX2 9 "WordFlasher$Spans" "firsts" "[I") (List.mem_of_getElem? (i := 5) rfl)) (fun _ h9 => h9) rfl hin rfl (by decide +kernel) rfl rfl (Nat.le_of_ble_eq_true rfl) dX2_init_10 (fun H locs hP hD hS => ?_)
  have hP : va_P g.1 vwCl [(h0, .inr (2, [.ref q1, .null, .null, .int 0])), (q1, .inl (g.2.1, 150, .inl (fun _ => 0)))] H := hP
  have hD : va_D A [(h0, .inr (2, [.ref q1, .null, .null, .int 0])), (q1, .inl (g.2.1, 150, .inl (fun _ => 0)))] := hD
  refine lv_aload_n hx hb dX2_init_13 rfl (lv_at hl 0 rfl) ?_
  refine lv_sipush (v := 150) hx hb dX2_init_14 (by decide) ?_
  refine nwA (atype := .int) hx hb (hts (.arrayClass .int) (List.mem_of_getElem? (i := 4) rfl)) rfl rfl hK 0 rfl rfl hP hD hS hA (by decide) (N' := 150) (by decide) (Nat.le_of_ble_eq_true rfl) (Nat.le_of_ble_eq_true rfl) (Nat.le_of_ble_eq_true rfl) dX2_init_17 (fun q2 H hP hD hS => ?_)
  have hP : va_P g.1 vwCl [(h0, .inr (2, [.ref q1, .null, .null, .int 0])), (q1, .inl (g.2.1, 150, .inl (fun _ => 0))), (q2, .inl (g.2.1, 150, .inl (fun _ => 0)))] H := hP
  have hD : va_D A [(h0, .inr (2, [.ref q1, .null, .null, .int 0])), (q1, .inl (g.2.1, 150, .inl (fun _ => 0))), (q2, .inl (g.2.1, 150, .inl (fun _ => 0)))] := hD
  refine W.widen (k := 2) (n := 300) (Nat.le_of_ble_eq_true rfl) (Nat.le_of_ble_eq_true rfl) ?_
  refine va_putF (D := g.1) (ci := 2) (v := .ref q2) (ty := (.array .int)) (C := RX2) (T := TX2) (N := 4) hx hb hts i_X2 tyX2 tyX2_ok nmX2 hown hK hP hD hS 0 rfl rfl 1 (by decide) (hts (.fieldLink RX2 15 "WordFlasher$Spans" "lasts" "[I") (List.mem_of_getElem? (i := 6) rfl)) (fun _ h9 => h9) rfl hin rfl (by decide +kernel) rfl rfl (Nat.le_of_ble_eq_true rfl) dX2_init_19 (fun H locs hP hD hS => ?_)
  have hP : va_P g.1 vwCl [(h0, .inr (2, [.ref q1, .ref q2, .null, .int 0])), (q1, .inl (g.2.1, 150, .inl (fun _ => 0))), (q2, .inl (g.2.1, 150, .inl (fun _ => 0)))] H := hP
  have hD : va_D A [(h0, .inr (2, [.ref q1, .ref q2, .null, .int 0])), (q1, .inl (g.2.1, 150, .inl (fun _ => 0))), (q2, .inl (g.2.1, 150, .inl (fun _ => 0)))] := hD
  refine lv_aload_n hx hb dX2_init_22 rfl (lv_at hl 0 rfl) ?_
  refine lv_sipush (v := 150) hx hb dX2_init_23 (by decide) ?_
  refine nwA (atype := .int) hx hb (hts (.arrayClass .int) (List.mem_of_getElem? (i := 4) rfl)) rfl rfl hK 0 rfl rfl hP hD hS hA (by decide) (N' := 150) (by decide) (Nat.le_of_ble_eq_true rfl) (Nat.le_of_ble_eq_true rfl) (Nat.le_of_ble_eq_true rfl) dX2_init_26 (fun q3 H hP hD hS => ?_)
  have hP : va_P g.1 vwCl [(h0, .inr (2, [.ref q1, .ref q2, .null, .int 0])), (q1, .inl (g.2.1, 150, .inl (fun _ => 0))), (q2, .inl (g.2.1, 150, .inl (fun _ => 0))), (q3, .inl (g.2.1, 150, .inl (fun _ => 0)))] H := hP
  have hD : va_D A [(h0, .inr (2, [.ref q1, .ref q2, .null, .int 0])), (q1, .inl (g.2.1, 150, .inl (fun _ => 0))), (q2, .inl (g.2.1, 150, .inl (fun _ => 0))), (q3, .inl (g.2.1, 150, .inl (fun _ => 0)))] := hD
  refine W.widen (k := 3) (n := 450) (Nat.le_of_ble_eq_true rfl) (Nat.le_of_ble_eq_true rfl) ?_
  refine va_putF (D := g.1) (ci := 2) (v := .ref q3) (ty := (.array .int)) (C := RX2) (T := TX2) (N := 4) hx hb hts i_X2 tyX2 tyX2_ok nmX2 hown hK hP hD hS 0 rfl rfl 2 (by decide) (hts (.fieldLink RX2 18 "WordFlasher$Spans" "numbers" "[I") (List.mem_of_getElem? (i := 7) rfl)) (fun _ h9 => h9) rfl hin rfl (by decide +kernel) rfl rfl (Nat.le_of_ble_eq_true rfl) dX2_init_28 (fun H locs hP hD hS => ?_)
  have hP : va_P g.1 vwCl [(h0, .inr (2, [.ref q1, .ref q2, .ref q3, .int 0])), (q1, .inl (g.2.1, 150, .inl (fun _ => 0))), (q2, .inl (g.2.1, 150, .inl (fun _ => 0))), (q3, .inl (g.2.1, 150, .inl (fun _ => 0)))] H := hP
  have hD : va_D A [(h0, .inr (2, [.ref q1, .ref q2, .ref q3, .int 0])), (q1, .inl (g.2.1, 150, .inl (fun _ => 0))), (q2, .inl (g.2.1, 150, .inl (fun _ => 0))), (q3, .inl (g.2.1, 150, .inl (fun _ => 0)))] := hD
  refine W.widen (k := 3) (n := 450) (Nat.le_of_ble_eq_true rfl) (Nat.le_of_ble_eq_true rfl) ?_
  have hD9 := hD
  rw [← hQ0]; exact W.vret hx hb hr (fun t ht hW => ⟨⟨lsA [h0, q1, q2, q3], rfl, rfl, by dsimp only; rw [ht]; exact ⟨hP, hD9⟩⟩, hS.F ht⟩) hS.2.2 dX2_init_31

abbrev rmX1_init : Room := { frames := 1, cells := 1, slots := 60, locals := 12 }
set_option maxHeartbeats 16000000 in
set_option maxRecDepth 100000 in
theorem c_X1_init (l : Launch) (g : GG) (h0 : Nat) (sz : Nat) : Met l yX1_init wsX1_init rmX1_init (va_Pc [.ref h0] (fun U => U.heap.size = sz ∧ va_P g.1 vwCl [(h0, .inr (1, [.null, .int 0]))] U.heap ∧ KW g U ∧ va_D (fun _ => True) [(h0, .inr (1, [.null, .int 0]))] ∧ True)) (va_Qv (fun (u : (Nat → Nat)) => u 0 = h0) (fun (u : (Nat → Nat)) t => va_P g.1 vwCl (pO g u X0D) t.heap ∧ va_D (va_A [(h0, .inr (1, [.null, .int 0]))] sz) (pO g u X0D)) (va_A [(h0, .inr (1, [.null, .int 0]))] sz)) 1 60 (va_A [(h0, .inr (1, [.null, .int 0]))] sz) := by
  refine Met.ofW (cc := cX1_init) (maxL := 1) (ret := none) (by decide) rfl ?_
  intro p e s m args below meth c s₁ B hml hv
  obtain ⟨hargs, hsz, hP, hKW, hD0, hST⟩ := hv
  have hK := hKW.1
  have hx := B.exec
  have hb := B.bytes
  have hr := B.returns
  have hts := atoms_spec (ws := wsX1_init) B.pre
  have hown : s.vm.findClass RX1 = some m.cls := findClass_of_methodNamed B.named
  have hlocks := B.notSynchronized
  have hin : meth.name = "<init>" := (name_of_methodNamed B.named B.method).1
  subst hsz
  have hD := hD0.self (sz := s.heap.size)
  generalize hAe : va_A [(h0, .inr (1, [.null, .int 0]))] s.heap.size = A at hD hST ⊢
  have hA : ∀ q : Nat, s.heap.size ≤ q → A q := fun q h => by rw [← hAe]; exact Or.inr h
  have hS : va_S A s.heap s.heap [] := va_S.rf
  have i_X1 : ∀ w ∈ wsX10, w ∈ wsX1_init := fun w h => List.mem_cons_of_mem _ (List.mem_append_right _ h)
  have hent : entryFrame m args 1 = F0 m 0 ((lg_sl ([.ref h0]) ++ List.replicate (1 - (lg_sl ([.ref h0])).length) Slot.unset).toArray) [] := by rw [hargs]; exact lg_entry_eq _ _ _
  rw [hent]
  have hl := lv_entry ([.ref h0]) (n := 1) (Nat.le_of_ble_eq_true rfl)
  generalize (lg_sl ([.ref h0]) ++ List.replicate (1 - (lg_sl ([.ref h0])).length) Slot.unset).toArray = ls at hl ⊢
  have hl : lv_has ls 1 [(0, .ref h0)] := hl
  generalize hQ0 : MQ below _ _ _ _ _ _ = Q0
  refine lv_aload_n hx hb dX1_init_0 rfl (lv_at hl 0 rfl) ?_
  refine W.objInit hx hb hown (hts (.methodLink RX1 3 objectInit) (List.mem_of_getElem? (i := 1) rfl)) (hts (.instanceMethod objectInit) (List.mem_of_getElem? (i := 2) rfl)) (hts (.code objectInit ⟨#[0xb1]⟩ 1 none) (List.mem_of_getElem? (i := 3) rfl)) rfl (by rw [hml]; exact hl.1) rfl dX1_init_1 (Nat.le_of_ble_eq_true rfl) (Nat.le_of_ble_eq_true rfl) ?_
  refine W.eq (g2 := F0 m 4 ls []) rfl ?_
  refine lv_aload_n hx hb dX1_init_4 rfl (lv_at hl 0 rfl) ?_
  refine lv_bipush (v := 60) hx hb dX1_init_5 (by decide) ?_
  refine nwA (atype := .int) hx hb (hts (.arrayClass .int) (List.mem_of_getElem? (i := 4) rfl)) rfl rfl hK 0 rfl rfl hP hD hS hA (by decide) (N' := 60) (by decide) (Nat.le_of_ble_eq_true rfl) (Nat.le_of_ble_eq_true rfl) (Nat.le_of_ble_eq_true rfl) dX1_init_7 (fun q1 H hP hD hS => ?_)
  have hP : va_P g.1 vwCl [(h0, .inr (1, [.null, .int 0])), (q1, .inl (g.2.1, 60, .inl (fun _ => 0)))] H := hP
  have hD : va_D A [(h0, .inr (1, [.null, .int 0])), (q1, .inl (g.2.1, 60, .inl (fun _ => 0)))] := hD
  refine W.widen (k := 1) (n := 60) (Nat.le_of_ble_eq_true rfl) (Nat.le_of_ble_eq_true rfl) ?_
  refine va_putF (D := g.1) (ci := 1) (v := .ref q1) (ty := (.array .int)) (C := RX1) (T := TX1) (N := 2) hx hb hts i_X1 tyX1 tyX1_ok nmX1 hown hK hP hD hS 0 rfl rfl 0 (by decide) (hts (.fieldLink RX1 9 "WordFlasher$Orders" "characters" "[I") (List.mem_of_getElem? (i := 5) rfl)) (fun _ h9 => h9) rfl hin rfl (by decide +kernel) rfl rfl (Nat.le_of_ble_eq_true rfl) dX1_init_9 (fun H locs hP hD hS => ?_)
  have hP : va_P g.1 vwCl [(h0, .inr (1, [.ref q1, .int 0])), (q1, .inl (g.2.1, 60, .inl (fun _ => 0)))] H := hP
  have hD : va_D A [(h0, .inr (1, [.ref q1, .int 0])), (q1, .inl (g.2.1, 60, .inl (fun _ => 0)))] := hD
  refine W.widen (k := 1) (n := 60) (Nat.le_of_ble_eq_true rfl) (Nat.le_of_ble_eq_true rfl) ?_
  have hD9 := hD
  rw [← hQ0]; exact W.vret hx hb hr (fun t ht hW => ⟨⟨lsA [h0, q1], rfl, rfl, by dsimp only; rw [ht]; exact ⟨hP, hD9⟩⟩, hS.F ht⟩) hS.2.2 dX1_init_12

abbrev rmX3_init : Room := { frames := 1, cells := 6, slots := 468, locals := 22 }
set_option maxHeartbeats 16000000 in
set_option maxRecDepth 100000 in
theorem c_X3_init (l : Launch) (g : GG) (h0 w tF : Nat) (sz : Nat) : Met l yX3_init wsX3_init rmX3_init (va_Pc [.ref h0, .ref w] (fun U => U.heap.size = sz ∧ va_P g.1 vwCl [(h0, .inr (3, [.null, .null, .int 0, .null, .null, .null, .int 0, .int 0, .null, .int 0, .null, .int 0, .int 0, .int 0, .int 0]))] U.heap ∧ KW g U ∧ va_D (fun _ => True) [(h0, .inr (3, [.null, .null, .int 0, .null, .null, .null, .int 0, .int 0, .null, .int 0, .null, .int 0, .int 0, .int 0, .int 0]))] ∧ STF (va_A [(h0, .inr (3, [.null, .null, .int 0, .null, .null, .null, .int 0, .int 0, .null, .int 0, .null, .int 0, .int 0, .int 0, .int 0]))] sz) tF U)) (va_Qv (fun (u : (Nat → Nat)) => u 0 = h0) (fun (u : (Nat → Nat)) t => va_P g.1 vwCl (pS g u w XS0) t.heap ∧ va_D (va_A [(h0, .inr (3, [.null, .null, .int 0, .null, .null, .null, .int 0, .int 0, .null, .int 0, .null, .int 0, .int 0, .int 0, .int 0]))] sz) (pS g u w XS0)) (va_A [(h0, .inr (3, [.null, .null, .int 0, .null, .null, .null, .int 0, .int 0, .null, .int 0, .null, .int 0, .int 0, .int 0, .int 0]))] sz)) 6 468 (va_A [(h0, .inr (3, [.null, .null, .int 0, .null, .null, .null, .int 0, .int 0, .null, .int 0, .null, .int 0, .int 0, .int 0, .int 0]))] sz) := by
  refine Met.ofW (cc := cX3_init) (maxL := 2) (ret := none) (by decide) rfl ?_
  intro p e s m args below meth c s₁ B hml hv
  obtain ⟨hargs, hsz, hP, hKW, hD0, hST⟩ := hv
  have hK := hKW.1
  have hx := B.exec
  have hb := B.bytes
  have hr := B.returns
  have hts := atoms_spec (ws := wsX3_init) B.pre
  have hown : s.vm.findClass RX3 = some m.cls := findClass_of_methodNamed B.named
  have hlocks := B.notSynchronized
  have hin : meth.name = "<init>" := (name_of_methodNamed B.named B.method).1
  subst hsz
  have hD := hD0.self (sz := s.heap.size)
  generalize hAe : va_A [(h0, .inr (3, [.null, .null, .int 0, .null, .null, .null, .int 0, .int 0, .null, .int 0, .null, .int 0, .int 0, .int 0, .int 0]))] s.heap.size = A at hD hST ⊢
  have hA : ∀ q : Nat, s.heap.size ≤ q → A q := fun q h => by rw [← hAe]; exact Or.inr h
  have hS : va_S A s.heap s.heap [] := va_S.rf
  have i_X3 : ∀ w ∈ wsX30, w ∈ wsX3_init := fun w h => List.mem_cons_of_mem _ (List.mem_append_right _ h)
  have hent : entryFrame m args 2 = F0 m 0 ((lg_sl ([.ref h0, .ref w]) ++ List.replicate (2 - (lg_sl ([.ref h0, .ref w])).length) Slot.unset).toArray) [] := by rw [hargs]; exact lg_entry_eq _ _ _
  rw [hent]
  have hl := lv_entry ([.ref h0, .ref w]) (n := 2) (Nat.le_of_ble_eq_true rfl)
  generalize (lg_sl ([.ref h0, .ref w]) ++ List.replicate (2 - (lg_sl ([.ref h0, .ref w])).length) Slot.unset).toArray = ls at hl ⊢
  have hl : lv_has ls 2 [(0, .ref h0), (1, .ref w)] := hl
  generalize hQ0 : MQ below _ _ _ _ _ _ = Q0
  refine lv_aload_n hx hb dX3_init_0 rfl (lv_at hl 0 rfl) ?_
  refine W.objInit hx hb hown (hts (.methodLink RX3 3 objectInit) (List.mem_of_getElem? (i := 1) rfl)) (hts (.instanceMethod objectInit) (List.mem_of_getElem? (i := 2) rfl)) (hts (.code objectInit ⟨#[0xb1]⟩ 1 none) (List.mem_of_getElem? (i := 3) rfl)) rfl (by rw [hml]; exact hl.1) rfl dX3_init_1 (Nat.le_of_ble_eq_true rfl) (Nat.le_of_ble_eq_true rfl) ?_
  refine W.eq (g2 := F0 m 4 ls []) rfl ?_
  refine lv_aload_n hx hb dX3_init_4 rfl (lv_at hl 0 rfl) ?_
  refine lv_aload_n hx hb dX3_init_5 rfl (lv_at hl 1 rfl) ?_
  refine va_putF (D := g.1) (ci := 3) (v := .ref w) (ty := (.object "WordFlasher$Words")) (C := RX3) (T := TX3) (N := 15) hx hb hts i_X3 tyX3 tyX3_ok nmX3 hown hK hP hD hS 0 rfl rfl 0 (by decide) (hts (.fieldLink RX3 9 "WordFlasher$State" "words" "LWordFlasher$Words;") (List.mem_of_getElem? (i := 4) rfl)) (fun _ h9 => h9) rfl hin rfl (by decide +kernel) rfl rfl (Nat.le_of_ble_eq_true rfl) dX3_init_6 (fun H locs hP hD hS => ?_)
  have hP : va_P g.1 vwCl [(h0, .inr (3, [.ref w, .null, .int 0, .null, .null, .null, .int 0, .int 0, .null, .int 0, .null, .int 0, .int 0, .int 0, .int 0]))] H := hP
  have hD : va_D A [(h0, .inr (3, [.ref w, .null, .int 0, .null, .null, .null, .int 0, .int 0, .null, .int 0, .null, .int 0, .int 0, .int 0, .int 0]))] := hD
  refine lv_aload_n hx hb dX3_init_9 rfl (lv_at hl 0 rfl) ?_
  refine lv_sipush (v := 300) hx hb dX3_init_10 (by decide) ?_
  refine nwA (atype := .int) hx hb (hts (.arrayClass .int) (List.mem_of_getElem? (i := 5) rfl)) rfl rfl hK 0 rfl rfl hP hD hS hA (by decide) (N' := 300) (by decide) (Nat.le_of_ble_eq_true rfl) (Nat.le_of_ble_eq_true rfl) (Nat.le_of_ble_eq_true rfl) dX3_init_13 (fun q1 H hP hD hS => ?_)
  have hP : va_P g.1 vwCl [(h0, .inr (3, [.ref w, .null, .int 0, .null, .null, .null, .int 0, .int 0, .null, .int 0, .null, .int 0, .int 0, .int 0, .int 0])), (q1, .inl (g.2.1, 300, .inl (fun _ => 0)))] H := hP
  have hD : va_D A [(h0, .inr (3, [.ref w, .null, .int 0, .null, .null, .null, .int 0, .int 0, .null, .int 0, .null, .int 0, .int 0, .int 0, .int 0])), (q1, .inl (g.2.1, 300, .inl (fun _ => 0)))] := hD
  refine W.widen (k := 1) (n := 300) (Nat.le_of_ble_eq_true rfl) (Nat.le_of_ble_eq_true rfl) ?_
  refine va_putF (D := g.1) (ci := 3) (v := .ref q1) (ty := (.array .int)) (C := RX3) (T := TX3) (N := 15) hx hb hts i_X3 tyX3 tyX3_ok nmX3 hown hK hP hD hS 0 rfl rfl 1 (by decide) (hts (.fieldLink RX3 15 "WordFlasher$State" "text" "[I") (List.mem_of_getElem? (i := 6) rfl)) (fun _ h9 => h9) rfl hin rfl (by decide +kernel) rfl rfl (Nat.le_of_ble_eq_true rfl) dX3_init_15 (fun H locs hP hD hS => ?_)
  have hP : va_P g.1 vwCl [(h0, .inr (3, [.ref w, .ref q1, .int 0, .null, .null, .null, .int 0, .int 0, .null, .int 0, .null, .int 0, .int 0, .int 0, .int 0])), (q1, .inl (g.2.1, 300, .inl (fun _ => 0)))] H := hP
  have hD : va_D A [(h0, .inr (3, [.ref w, .ref q1, .int 0, .null, .null, .null, .int 0, .int 0, .null, .int 0, .null, .int 0, .int 0, .int 0, .int 0])), (q1, .inl (g.2.1, 300, .inl (fun _ => 0)))] := hD
  refine lv_aload_n hx hb dX3_init_18 rfl (lv_at hl 0 rfl) ?_
  refine va_getsN hx hb hST.1 hS hown (va_Nw.use rfl hST.2.2.2.1) (fun _ h9 => h9) dX3_init_19 ?_
  refine clT hx hb (hml.trans hl.1.symm) hown (hts (.methodLink RX3 22 ⟨"[I", "clone", "()Ljava/lang/Object;"⟩) (List.mem_of_getElem? (i := 7) rfl)) (hts (.sameMethod "[I" "java/lang/Object" "clone" "()Ljava/lang/Object;") (List.mem_of_getElem? (i := 8) rfl)) (hts (.native ⟨"java/lang/Object", "clone", "()Ljava/lang/Object;"⟩) (List.mem_of_getElem? (i := 9) rfl)) (hts (.instanceMethod ⟨"java/lang/Object", "clone", "()Ljava/lang/Object;"⟩) (List.mem_of_getElem? (i := 10) rfl)) (hts (.selects "[I" ⟨"[I", "clone", "()Ljava/lang/Object;"⟩ ⟨"java/lang/Object", "clone", "()Ljava/lang/Object;"⟩) (List.mem_of_getElem? (i := 11) rfl)) hST.2.2.1 hK hP hD hS hA hST.2.1 (Nat.le_of_ble_eq_true rfl) (Nat.le_of_ble_eq_true rfl) (Nat.le_of_ble_eq_true rfl) (Nat.le_of_ble_eq_true rfl) dX3_init_22 (fun q2 H hP hD hS => ?_)
  have hP : va_P g.1 vwCl [(h0, .inr (3, [.ref w, .ref q1, .int 0, .null, .null, .null, .int 0, .int 0, .null, .int 0, .null, .int 0, .int 0, .int 0, .int 0])), (q1, .inl (g.2.1, 300, .inl (fun _ => 0))), (q2, .inl (g.2.1, 7, .inl firstS))] H := hP
  have hD : va_D A [(h0, .inr (3, [.ref w, .ref q1, .int 0, .null, .null, .null, .int 0, .int 0, .null, .int 0, .null, .int 0, .int 0, .int 0, .int 0])), (q1, .inl (g.2.1, 300, .inl (fun _ => 0))), (q2, .inl (g.2.1, 7, .inl firstS))] := hD
  refine W.widen (k := 2) (n := 307) (Nat.le_of_ble_eq_true rfl) (Nat.le_of_ble_eq_true rfl) ?_
  refine va_castA hx hb hown (hts (.classLink RX3 23 "[I") (List.mem_of_getElem? (i := 12) rfl)) hP 2 rfl (hK.2 0 (g.2.1, .int) rfl).2 dX3_init_25 ?_
  refine va_putF (D := g.1) (ci := 3) (v := .ref q2) (ty := (.array .int)) (C := RX3) (T := TX3) (N := 15) hx hb hts i_X3 tyX3 tyX3_ok nmX3 hown hK hP hD hS 0 rfl rfl 3 (by decide) (hts (.fieldLink RX3 27 "WordFlasher$State" "settings" "[I") (List.mem_of_getElem? (i := 13) rfl)) (fun _ h9 => h9) rfl hin rfl (by decide +kernel) rfl rfl (Nat.le_of_ble_eq_true rfl) dX3_init_28 (fun H locs hP hD hS => ?_)
  have hP : va_P g.1 vwCl [(h0, .inr (3, [.ref w, .ref q1, .int 0, .ref q2, .null, .null, .int 0, .int 0, .null, .int 0, .null, .int 0, .int 0, .int 0, .int 0])), (q1, .inl (g.2.1, 300, .inl (fun _ => 0))), (q2, .inl (g.2.1, 7, .inl firstS))] H := hP
  have hD : va_D A [(h0, .inr (3, [.ref w, .ref q1, .int 0, .ref q2, .null, .null, .int 0, .int 0, .null, .int 0, .null, .int 0, .int 0, .int 0, .int 0])), (q1, .inl (g.2.1, 300, .inl (fun _ => 0))), (q2, .inl (g.2.1, 7, .inl firstS))] := hD
  refine lv_aload_n hx hb dX3_init_31 rfl (lv_at hl 0 rfl) ?_
  refine lv_iconst (v := 3) hx hb dX3_init_32 (by decide) ?_
  refine nwA (atype := .int) hx hb (hts (.arrayClass .int) (List.mem_of_getElem? (i := 5) rfl)) rfl rfl hK 0 rfl rfl hP hD hS hA (by decide) (N' := 3) (by decide) (Nat.le_of_ble_eq_true rfl) (Nat.le_of_ble_eq_true rfl) (Nat.le_of_ble_eq_true rfl) dX3_init_33 (fun q3 H hP hD hS => ?_)
  have hP : va_P g.1 vwCl [(h0, .inr (3, [.ref w, .ref q1, .int 0, .ref q2, .null, .null, .int 0, .int 0, .null, .int 0, .null, .int 0, .int 0, .int 0, .int 0])), (q1, .inl (g.2.1, 300, .inl (fun _ => 0))), (q2, .inl (g.2.1, 7, .inl firstS)), (q3, .inl (g.2.1, 3, .inl (fun _ => 0)))] H := hP
  have hD : va_D A [(h0, .inr (3, [.ref w, .ref q1, .int 0, .ref q2, .null, .null, .int 0, .int 0, .null, .int 0, .null, .int 0, .int 0, .int 0, .int 0])), (q1, .inl (g.2.1, 300, .inl (fun _ => 0))), (q2, .inl (g.2.1, 7, .inl firstS)), (q3, .inl (g.2.1, 3, .inl (fun _ => 0)))] := hD
  refine W.widen (k := 3) (n := 310) (Nat.le_of_ble_eq_true rfl) (Nat.le_of_ble_eq_true rfl) ?_
  refine va_putF (D := g.1) (ci := 3) (v := .ref q3) (ty := (.array .int)) (C := RX3) (T := TX3) (N := 15) hx hb hts i_X3 tyX3 tyX3_ok nmX3 hown hK hP hD hS 0 rfl rfl 4 (by decide) (hts (.fieldLink RX3 30 "WordFlasher$State" "speeds" "[I") (List.mem_of_getElem? (i := 14) rfl)) (fun _ h9 => h9) rfl hin rfl (by decide +kernel) rfl rfl (Nat.le_of_ble_eq_true rfl) dX3_init_35 (fun H locs hP hD hS => ?_)
  have hP : va_P g.1 vwCl [(h0, .inr (3, [.ref w, .ref q1, .int 0, .ref q2, .ref q3, .null, .int 0, .int 0, .null, .int 0, .null, .int 0, .int 0, .int 0, .int 0])), (q1, .inl (g.2.1, 300, .inl (fun _ => 0))), (q2, .inl (g.2.1, 7, .inl firstS)), (q3, .inl (g.2.1, 3, .inl (fun _ => 0)))] H := hP
  have hD : va_D A [(h0, .inr (3, [.ref w, .ref q1, .int 0, .ref q2, .ref q3, .null, .int 0, .int 0, .null, .int 0, .null, .int 0, .int 0, .int 0, .int 0])), (q1, .inl (g.2.1, 300, .inl (fun _ => 0))), (q2, .inl (g.2.1, 7, .inl firstS)), (q3, .inl (g.2.1, 3, .inl (fun _ => 0)))] := hD
  refine lv_aload_n hx hb dX3_init_38 rfl (lv_at hl 0 rfl) ?_
  refine lv_sipush (v := 150) hx hb dX3_init_39 (by decide) ?_
  refine nwA (atype := .int) hx hb (hts (.arrayClass .int) (List.mem_of_getElem? (i := 5) rfl)) rfl rfl hK 0 rfl rfl hP hD hS hA (by decide) (N' := 150) (by decide) (Nat.le_of_ble_eq_true rfl) (Nat.le_of_ble_eq_true rfl) (Nat.le_of_ble_eq_true rfl) dX3_init_42 (fun q4 H hP hD hS => ?_)
  have hP : va_P g.1 vwCl [(h0, .inr (3, [.ref w, .ref q1, .int 0, .ref q2, .ref q3, .null, .int 0, .int 0, .null, .int 0, .null, .int 0, .int 0, .int 0, .int 0])), (q1, .inl (g.2.1, 300, .inl (fun _ => 0))), (q2, .inl (g.2.1, 7, .inl firstS)), (q3, .inl (g.2.1, 3, .inl (fun _ => 0))), (q4, .inl (g.2.1, 150, .inl (fun _ => 0)))] H := hP
  have hD : va_D A [(h0, .inr (3, [.ref w, .ref q1, .int 0, .ref q2, .ref q3, .null, .int 0, .int 0, .null, .int 0, .null, .int 0, .int 0, .int 0, .int 0])), (q1, .inl (g.2.1, 300, .inl (fun _ => 0))), (q2, .inl (g.2.1, 7, .inl firstS)), (q3, .inl (g.2.1, 3, .inl (fun _ => 0))), (q4, .inl (g.2.1, 150, .inl (fun _ => 0)))] := hD
  refine W.widen (k := 4) (n := 460) (Nat.le_of_ble_eq_true rfl) (Nat.le_of_ble_eq_true rfl) ?_
  refine va_putF (D := g.1) (ci := 3) (v := .ref q4) (ty := (.array .int)) (C := RX3) (T := TX3) (N := 15) hx hb hts i_X3 tyX3 tyX3_ok nmX3 hown hK hP hD hS 0 rfl rfl 5 (by decide) (hts (.fieldLink RX3 33 "WordFlasher$State" "notes" "[I") (List.mem_of_getElem? (i := 15) rfl)) (fun _ h9 => h9) rfl hin rfl (by decide +kernel) rfl rfl (Nat.le_of_ble_eq_true rfl) dX3_init_44 (fun H locs hP hD hS => ?_)
  have hP : va_P g.1 vwCl [(h0, .inr (3, [.ref w, .ref q1, .int 0, .ref q2, .ref q3, .ref q4, .int 0, .int 0, .null, .int 0, .null, .int 0, .int 0, .int 0, .int 0])), (q1, .inl (g.2.1, 300, .inl (fun _ => 0))), (q2, .inl (g.2.1, 7, .inl firstS)), (q3, .inl (g.2.1, 3, .inl (fun _ => 0))), (q4, .inl (g.2.1, 150, .inl (fun _ => 0)))] H := hP
  have hD : va_D A [(h0, .inr (3, [.ref w, .ref q1, .int 0, .ref q2, .ref q3, .ref q4, .int 0, .int 0, .null, .int 0, .null, .int 0, .int 0, .int 0, .int 0])), (q1, .inl (g.2.1, 300, .inl (fun _ => 0))), (q2, .inl (g.2.1, 7, .inl firstS)), (q3, .inl (g.2.1, 3, .inl (fun _ => 0))), (q4, .inl (g.2.1, 150, .inl (fun _ => 0)))] := hD
  refine lv_aload_n hx hb dX3_init_47 rfl (lv_at hl 0 rfl) ?_
  refine lv_iconst (v := 5) hx hb dX3_init_48 (by decide) ?_
  refine nwA (atype := .int) hx hb (hts (.arrayClass .int) (List.mem_of_getElem? (i := 5) rfl)) rfl rfl hK 0 rfl rfl hP hD hS hA (by decide) (N' := 5) (by decide) (Nat.le_of_ble_eq_true rfl) (Nat.le_of_ble_eq_true rfl) (Nat.le_of_ble_eq_true rfl) dX3_init_49 (fun q5 H hP hD hS => ?_)
  have hP : va_P g.1 vwCl [(h0, .inr (3, [.ref w, .ref q1, .int 0, .ref q2, .ref q3, .ref q4, .int 0, .int 0, .null, .int 0, .null, .int 0, .int 0, .int 0, .int 0])), (q1, .inl (g.2.1, 300, .inl (fun _ => 0))), (q2, .inl (g.2.1, 7, .inl firstS)), (q3, .inl (g.2.1, 3, .inl (fun _ => 0))), (q4, .inl (g.2.1, 150, .inl (fun _ => 0))), (q5, .inl (g.2.1, 5, .inl (fun _ => 0)))] H := hP
  have hD : va_D A [(h0, .inr (3, [.ref w, .ref q1, .int 0, .ref q2, .ref q3, .ref q4, .int 0, .int 0, .null, .int 0, .null, .int 0, .int 0, .int 0, .int 0])), (q1, .inl (g.2.1, 300, .inl (fun _ => 0))), (q2, .inl (g.2.1, 7, .inl firstS)), (q3, .inl (g.2.1, 3, .inl (fun _ => 0))), (q4, .inl (g.2.1, 150, .inl (fun _ => 0))), (q5, .inl (g.2.1, 5, .inl (fun _ => 0)))] := hD
  refine W.widen (k := 5) (n := 465) (Nat.le_of_ble_eq_true rfl) (Nat.le_of_ble_eq_true rfl) ?_
  refine va_putF (D := g.1) (ci := 3) (v := .ref q5) (ty := (.array .int)) (C := RX3) (T := TX3) (N := 15) hx hb hts i_X3 tyX3 tyX3_ok nmX3 hown hK hP hD hS 0 rfl rfl 8 (by decide) (hts (.fieldLink RX3 36 "WordFlasher$State" "places" "[I") (List.mem_of_getElem? (i := 16) rfl)) (fun _ h9 => h9) rfl hin rfl (by decide +kernel) rfl rfl (Nat.le_of_ble_eq_true rfl) dX3_init_51 (fun H locs hP hD hS => ?_)
  have hP : va_P g.1 vwCl [(h0, .inr (3, [.ref w, .ref q1, .int 0, .ref q2, .ref q3, .ref q4, .int 0, .int 0, .ref q5, .int 0, .null, .int 0, .int 0, .int 0, .int 0])), (q1, .inl (g.2.1, 300, .inl (fun _ => 0))), (q2, .inl (g.2.1, 7, .inl firstS)), (q3, .inl (g.2.1, 3, .inl (fun _ => 0))), (q4, .inl (g.2.1, 150, .inl (fun _ => 0))), (q5, .inl (g.2.1, 5, .inl (fun _ => 0)))] H := hP
  have hD : va_D A [(h0, .inr (3, [.ref w, .ref q1, .int 0, .ref q2, .ref q3, .ref q4, .int 0, .int 0, .ref q5, .int 0, .null, .int 0, .int 0, .int 0, .int 0])), (q1, .inl (g.2.1, 300, .inl (fun _ => 0))), (q2, .inl (g.2.1, 7, .inl firstS)), (q3, .inl (g.2.1, 3, .inl (fun _ => 0))), (q4, .inl (g.2.1, 150, .inl (fun _ => 0))), (q5, .inl (g.2.1, 5, .inl (fun _ => 0)))] := hD
  refine lv_aload_n hx hb dX3_init_54 rfl (lv_at hl 0 rfl) ?_
  refine lv_iconst (v := 3) hx hb dX3_init_55 (by decide) ?_
  refine nwA (atype := .int) hx hb (hts (.arrayClass .int) (List.mem_of_getElem? (i := 5) rfl)) rfl rfl hK 0 rfl rfl hP hD hS hA (by decide) (N' := 3) (by decide) (Nat.le_of_ble_eq_true rfl) (Nat.le_of_ble_eq_true rfl) (Nat.le_of_ble_eq_true rfl) dX3_init_56 (fun q6 H hP hD hS => ?_)
  have hP : va_P g.1 vwCl [(h0, .inr (3, [.ref w, .ref q1, .int 0, .ref q2, .ref q3, .ref q4, .int 0, .int 0, .ref q5, .int 0, .null, .int 0, .int 0, .int 0, .int 0])), (q1, .inl (g.2.1, 300, .inl (fun _ => 0))), (q2, .inl (g.2.1, 7, .inl firstS)), (q3, .inl (g.2.1, 3, .inl (fun _ => 0))), (q4, .inl (g.2.1, 150, .inl (fun _ => 0))), (q5, .inl (g.2.1, 5, .inl (fun _ => 0))), (q6, .inl (g.2.1, 3, .inl (fun _ => 0)))] H := hP
  have hD : va_D A [(h0, .inr (3, [.ref w, .ref q1, .int 0, .ref q2, .ref q3, .ref q4, .int 0, .int 0, .ref q5, .int 0, .null, .int 0, .int 0, .int 0, .int 0])), (q1, .inl (g.2.1, 300, .inl (fun _ => 0))), (q2, .inl (g.2.1, 7, .inl firstS)), (q3, .inl (g.2.1, 3, .inl (fun _ => 0))), (q4, .inl (g.2.1, 150, .inl (fun _ => 0))), (q5, .inl (g.2.1, 5, .inl (fun _ => 0))), (q6, .inl (g.2.1, 3, .inl (fun _ => 0)))] := hD
  refine W.widen (k := 6) (n := 468) (Nat.le_of_ble_eq_true rfl) (Nat.le_of_ble_eq_true rfl) ?_
  refine va_putF (D := g.1) (ci := 3) (v := .ref q6) (ty := (.array .int)) (C := RX3) (T := TX3) (N := 15) hx hb hts i_X3 tyX3 tyX3_ok nmX3 hown hK hP hD hS 0 rfl rfl 10 (by decide) (hts (.fieldLink RX3 39 "WordFlasher$State" "latest" "[I") (List.mem_of_getElem? (i := 17) rfl)) (fun _ h9 => h9) rfl hin rfl (by decide +kernel) rfl rfl (Nat.le_of_ble_eq_true rfl) dX3_init_58 (fun H locs hP hD hS => ?_)
  have hP : va_P g.1 vwCl [(h0, .inr (3, [.ref w, .ref q1, .int 0, .ref q2, .ref q3, .ref q4, .int 0, .int 0, .ref q5, .int 0, .ref q6, .int 0, .int 0, .int 0, .int 0])), (q1, .inl (g.2.1, 300, .inl (fun _ => 0))), (q2, .inl (g.2.1, 7, .inl firstS)), (q3, .inl (g.2.1, 3, .inl (fun _ => 0))), (q4, .inl (g.2.1, 150, .inl (fun _ => 0))), (q5, .inl (g.2.1, 5, .inl (fun _ => 0))), (q6, .inl (g.2.1, 3, .inl (fun _ => 0)))] H := hP
  have hD : va_D A [(h0, .inr (3, [.ref w, .ref q1, .int 0, .ref q2, .ref q3, .ref q4, .int 0, .int 0, .ref q5, .int 0, .ref q6, .int 0, .int 0, .int 0, .int 0])), (q1, .inl (g.2.1, 300, .inl (fun _ => 0))), (q2, .inl (g.2.1, 7, .inl firstS)), (q3, .inl (g.2.1, 3, .inl (fun _ => 0))), (q4, .inl (g.2.1, 150, .inl (fun _ => 0))), (q5, .inl (g.2.1, 5, .inl (fun _ => 0))), (q6, .inl (g.2.1, 3, .inl (fun _ => 0)))] := hD
  refine lv_aload_n hx hb dX3_init_61 rfl (lv_at hl 0 rfl) ?_
  refine va_get (D := g.1) (ci := 3) (v := .ref q3) (C := RX3) (T := TX3) (N := 15) hx hb hts i_X3 hown hK hP 0 rfl rfl 4 (by decide) (hts (.fieldLink RX3 30 "WordFlasher$State" "speeds" "[I") (List.mem_of_getElem? (i := 14) rfl)) (fun _ h9 => h9) rfl dX3_init_62 ?_
  refine lv_bipush (v := 100) hx hb dX3_init_65 (by decide) ?_
  refine wr_v (rest := []) (wc := (pR g q3 3 (fun _ => 0))) (wc' := (pR g q3 3 (fun j => if j < 3 then 100 else 0))) (ws2 := [(h0, .inr (3, [.ref w, .ref q1, .int 0, .ref q2, .ref q3, .ref q4, .int 0, .int 0, .ref q5, .int 0, .ref q6, .int 0, .int 0, .int 0, .int 0])), (q1, .inl (g.2.1, 300, .inl (fun _ => 0))), (q2, .inl (g.2.1, 7, .inl firstS)), (q3, .inl (g.2.1, 3, .inl (fun j => if j < 3 then 100 else 0))), (q4, .inl (g.2.1, 150, .inl (fun _ => 0))), (q5, .inl (g.2.1, 5, .inl (fun _ => 0))), (q6, .inl (g.2.1, 3, .inl (fun _ => 0)))]) hP hD hS hA [3] rfl rfl (by rfl) (rnN (As := [.ref q3, .int 100]) ⟨hx, hb, hml, hown, hts⟩ (c_X5_fill l g q3 3 _ 10 _ _ _ (fill3 100)) ⟨va_cnB 2 hts gX3_init_X5_fill_n42 rfl rfl rfl (hKW.2 _ (List.mem_of_getElem? (i := 8) rfl)) (hts (.initialized RX5) (List.mem_of_getElem? (i := 20) rfl)) (by decide +kernel) ⟨Nat.le_of_ble_eq_true rfl, Nat.le_of_ble_eq_true rfl⟩, (hts (.static yX5_fill) (List.mem_of_getElem? (i := 19) rfl)), trivial⟩ hKW hP hD [3] (by decide) rfl rfl hl.1 rfl (lv_room (Nat.le_of_ble_eq_true rfl)) dX3_init_67 ⟨Nat.le_of_ble_eq_true rfl, Nat.le_of_ble_eq_true rfl⟩) (fun H locs hP hD hS => ?_)
  refine lv_aload_n hx hb dX3_init_70 rfl (lv_at hl 0 rfl) ?_
  refine va_get (D := g.1) (ci := 3) (v := .ref q6) (C := RX3) (T := TX3) (N := 15) hx hb hts i_X3 hown hK hP 0 rfl rfl 10 (by decide) (hts (.fieldLink RX3 39 "WordFlasher$State" "latest" "[I") (List.mem_of_getElem? (i := 17) rfl)) (fun _ h9 => h9) rfl dX3_init_71 ?_
  refine lv_iconst (v := (-1)) hx hb dX3_init_74 (by decide) ?_
  refine wr_v (rest := []) (wc := (pR g q6 3 (fun _ => 0))) (wc' := (pR g q6 3 (fun j => if j < 3 then (-1) else 0))) (ws2 := [(h0, .inr (3, [.ref w, .ref q1, .int 0, .ref q2, .ref q3, .ref q4, .int 0, .int 0, .ref q5, .int 0, .ref q6, .int 0, .int 0, .int 0, .int 0])), (q1, .inl (g.2.1, 300, .inl (fun _ => 0))), (q2, .inl (g.2.1, 7, .inl firstS)), (q3, .inl (g.2.1, 3, .inl (fun j => if j < 3 then 100 else 0))), (q4, .inl (g.2.1, 150, .inl (fun _ => 0))), (q5, .inl (g.2.1, 5, .inl (fun _ => 0))), (q6, .inl (g.2.1, 3, .inl (fun j => if j < 3 then (-1) else 0)))]) hP hD hS hA [6] rfl rfl (by rfl) (rnN (As := [.ref q6, .int (-1)]) ⟨hx, hb, hml, hown, hts⟩ (c_X5_fill l g q6 3 _ 10 _ _ _ (fill3 (-1))) ⟨va_cnB 2 hts gX3_init_X5_fill_n42 rfl rfl rfl (hKW.2 _ (List.mem_of_getElem? (i := 8) rfl)) (hts (.initialized RX5) (List.mem_of_getElem? (i := 20) rfl)) (by decide +kernel) ⟨Nat.le_of_ble_eq_true rfl, Nat.le_of_ble_eq_true rfl⟩, (hts (.static yX5_fill) (List.mem_of_getElem? (i := 19) rfl)), trivial⟩ hKW hP hD [6] (by decide) rfl rfl hl.1 rfl (lv_room (Nat.le_of_ble_eq_true rfl)) dX3_init_75 ⟨Nat.le_of_ble_eq_true rfl, Nat.le_of_ble_eq_true rfl⟩) (fun H locs hP hD hS => ?_)
  refine lv_aload_n hx hb dX3_init_78 rfl (lv_at hl 0 rfl) ?_
  refine lv_iconst (v := (-1)) hx hb dX3_init_79 (by decide) ?_
  refine va_put (D := g.1) (ci := 3) (v := .int (-1)) (ty := .int) (C := RX3) (T := TX3) (N := 15) hx hb hts i_X3 tyX3 tyX3_ok nmX3 hown hK hP hD hS 0 rfl rfl 6 (by decide) (hts (.fieldLink RX3 46 "WordFlasher$State" "present" "I") (List.mem_of_getElem? (i := 18) rfl)) (fun _ h9 => h9) rfl (by decide +kernel) rfl rfl (Nat.le_of_ble_eq_true rfl) dX3_init_80 (fun H locs hP hD hS => ?_)
  have hP : va_P g.1 vwCl [(h0, .inr (3, [.ref w, .ref q1, .int 0, .ref q2, .ref q3, .ref q4, .int (-1), .int 0, .ref q5, .int 0, .ref q6, .int 0, .int 0, .int 0, .int 0])), (q1, .inl (g.2.1, 300, .inl (fun _ => 0))), (q2, .inl (g.2.1, 7, .inl firstS)), (q3, .inl (g.2.1, 3, .inl (fun j => if j < 3 then 100 else 0))), (q4, .inl (g.2.1, 150, .inl (fun _ => 0))), (q5, .inl (g.2.1, 5, .inl (fun _ => 0))), (q6, .inl (g.2.1, 3, .inl (fun j => if j < 3 then (-1) else 0)))] H := hP
  have hD : va_D A [(h0, .inr (3, [.ref w, .ref q1, .int 0, .ref q2, .ref q3, .ref q4, .int (-1), .int 0, .ref q5, .int 0, .ref q6, .int 0, .int 0, .int 0, .int 0])), (q1, .inl (g.2.1, 300, .inl (fun _ => 0))), (q2, .inl (g.2.1, 7, .inl firstS)), (q3, .inl (g.2.1, 3, .inl (fun j => if j < 3 then 100 else 0))), (q4, .inl (g.2.1, 150, .inl (fun _ => 0))), (q5, .inl (g.2.1, 5, .inl (fun _ => 0))), (q6, .inl (g.2.1, 3, .inl (fun j => if j < 3 then (-1) else 0)))] := hD
  refine W.widen (k := 6) (n := 468) (Nat.le_of_ble_eq_true rfl) (Nat.le_of_ble_eq_true rfl) ?_
  have hD9 := hD
  rw [← hQ0]; exact W.vret hx hb hr (fun t ht hW => ⟨⟨lsA [h0, q1, q2, q3, q4, q5, q6], rfl, rfl, by dsimp only; rw [ht]; exact ⟨hP, hD9⟩⟩, hS.F ht⟩) hS.2.2 dX3_init_83

abbrev rmX4_init : Room := { frames := 2, cells := 14, slots := 1808, locals := 32 }
set_option maxHeartbeats 16000000 in
set_option maxRecDepth 100000 in
theorem c_X4_init (l : Launch) (g : GG) (h0 : Nat) (sz : Nat) : Met l yX4_init wsX4_init rmX4_init (va_Pc [.ref h0] (fun U => U.heap.size = sz ∧ va_P g.1 vwCl [(h0, .inr (4, [.null, .null, .null, .null, .null, .null, .null, .null, .int 0]))] U.heap ∧ KW g U ∧ va_D (fun _ => True) [(h0, .inr (4, [.null, .null, .null, .null, .null, .null, .null, .null, .int 0]))] ∧ True)) (va_Qv (fun (u : (Nat → Nat) × (Nat → Nat) × (Nat → Nat)) => u.1 0 = h0) (fun (u : (Nat → Nat) × (Nat → Nat) × (Nat → Nat)) t => va_P g.1 vwCl (pW g u.1 (u.2.1 0) (u.2.2 0) X0D ++ (pP g u.2.1 X0D ++ (pP g u.2.2 X0D))) t.heap ∧ va_D (va_A [(h0, .inr (4, [.null, .null, .null, .null, .null, .null, .null, .null, .int 0]))] sz) (pW g u.1 (u.2.1 0) (u.2.2 0) X0D ++ (pP g u.2.1 X0D ++ (pP g u.2.2 X0D)))) (va_A [(h0, .inr (4, [.null, .null, .null, .null, .null, .null, .null, .null, .int 0]))] sz)) 14 1808 (va_A [(h0, .inr (4, [.null, .null, .null, .null, .null, .null, .null, .null, .int 0]))] sz) := by
  refine Met.ofW (cc := cX4_init) (maxL := 1) (ret := none) (by decide) rfl ?_
  intro p e s m args below meth c s₁ B hml hv
  obtain ⟨hargs, hsz, hP, hKW, hD0, hST⟩ := hv
  have hK := hKW.1
  have hx := B.exec
  have hb := B.bytes
  have hr := B.returns
  have hts := atoms_spec (ws := wsX4_init) B.pre
  have hown : s.vm.findClass RX4 = some m.cls := findClass_of_methodNamed B.named
  have hlocks := B.notSynchronized
  have hin : meth.name = "<init>" := (name_of_methodNamed B.named B.method).1
  subst hsz
  have hD := hD0.self (sz := s.heap.size)
  generalize hAe : va_A [(h0, .inr (4, [.null, .null, .null, .null, .null, .null, .null, .null, .int 0]))] s.heap.size = A at hD hST ⊢
  have hA : ∀ q : Nat, s.heap.size ≤ q → A q := fun q h => by rw [← hAe]; exact Or.inr h
  have hS : va_S A s.heap s.heap [] := va_S.rf
  have i_X4 : ∀ w ∈ wsX40, w ∈ wsX4_init := fun w h => List.mem_cons_of_mem _ (List.mem_append_left _ (List.mem_append_right _ h))
  have i_X2 : ∀ w ∈ wsX20, w ∈ wsX4_init := fun w h => List.mem_cons_of_mem _ (List.mem_append_right _ h)
  have hent : entryFrame m args 1 = F0 m 0 ((lg_sl ([.ref h0]) ++ List.replicate (1 - (lg_sl ([.ref h0])).length) Slot.unset).toArray) [] := by rw [hargs]; exact lg_entry_eq _ _ _
  rw [hent]
  have hl := lv_entry ([.ref h0]) (n := 1) (Nat.le_of_ble_eq_true rfl)
  generalize (lg_sl ([.ref h0]) ++ List.replicate (1 - (lg_sl ([.ref h0])).length) Slot.unset).toArray = ls at hl ⊢
  have hl : lv_has ls 1 [(0, .ref h0)] := hl
  generalize hQ0 : MQ below _ _ _ _ _ _ = Q0
  refine lv_aload_n hx hb dX4_init_0 rfl (lv_at hl 0 rfl) ?_
  refine W.objInit hx hb hown (hts (.methodLink RX4 3 objectInit) (List.mem_of_getElem? (i := 1) rfl)) (hts (.instanceMethod objectInit) (List.mem_of_getElem? (i := 2) rfl)) (hts (.code objectInit ⟨#[0xb1]⟩ 1 none) (List.mem_of_getElem? (i := 3) rfl)) rfl (by rw [hml]; exact hl.1) rfl dX4_init_1 (Nat.le_of_ble_eq_true rfl) (Nat.le_of_ble_eq_true rfl) ?_
  refine W.eq (g2 := F0 m 4 ls []) rfl ?_
  refine lv_aload_n hx hb dX4_init_4 rfl (lv_at hl 0 rfl) ?_
  refine lv_sipush (v := 150) hx hb dX4_init_5 (by decide) ?_
  refine nwA (atype := .int) hx hb (hts (.arrayClass .int) (List.mem_of_getElem? (i := 4) rfl)) rfl rfl hK 0 rfl rfl hP hD hS hA (by decide) (N' := 150) (by decide) (Nat.le_of_ble_eq_true rfl) (Nat.le_of_ble_eq_true rfl) (Nat.le_of_ble_eq_true rfl) dX4_init_8 (fun q1 H hP hD hS => ?_)
  have hP : va_P g.1 vwCl [(h0, .inr (4, [.null, .null, .null, .null, .null, .null, .null, .null, .int 0])), (q1, .inl (g.2.1, 150, .inl (fun _ => 0)))] H := hP
  have hD : va_D A [(h0, .inr (4, [.null, .null, .null, .null, .null, .null, .null, .null, .int 0])), (q1, .inl (g.2.1, 150, .inl (fun _ => 0)))] := hD
  refine W.widen (k := 1) (n := 150) (Nat.le_of_ble_eq_true rfl) (Nat.le_of_ble_eq_true rfl) ?_
  refine va_putF (D := g.1) (ci := 4) (v := .ref q1) (ty := (.array .int)) (C := RX4) (T := TX4) (N := 9) hx hb hts i_X4 tyX4 tyX4_ok nmX4 hown hK hP hD hS 0 rfl rfl 0 (by decide) (hts (.fieldLink RX4 9 "WordFlasher$Words" "starts" "[I") (List.mem_of_getElem? (i := 5) rfl)) (fun _ h9 => h9) rfl hin rfl (by decide +kernel) rfl rfl (Nat.le_of_ble_eq_true rfl) dX4_init_10 (fun H locs hP hD hS => ?_)
  have hP : va_P g.1 vwCl [(h0, .inr (4, [.ref q1, .null, .null, .null, .null, .null, .null, .null, .int 0])), (q1, .inl (g.2.1, 150, .inl (fun _ => 0)))] H := hP
  have hD : va_D A [(h0, .inr (4, [.ref q1, .null, .null, .null, .null, .null, .null, .null, .int 0])), (q1, .inl (g.2.1, 150, .inl (fun _ => 0)))] := hD
  refine lv_aload_n hx hb dX4_init_13 rfl (lv_at hl 0 rfl) ?_
  refine lv_sipush (v := 150) hx hb dX4_init_14 (by decide) ?_
  refine nwA (atype := .int) hx hb (hts (.arrayClass .int) (List.mem_of_getElem? (i := 4) rfl)) rfl rfl hK 0 rfl rfl hP hD hS hA (by decide) (N' := 150) (by decide) (Nat.le_of_ble_eq_true rfl) (Nat.le_of_ble_eq_true rfl) (Nat.le_of_ble_eq_true rfl) dX4_init_17 (fun q2 H hP hD hS => ?_)
  have hP : va_P g.1 vwCl [(h0, .inr (4, [.ref q1, .null, .null, .null, .null, .null, .null, .null, .int 0])), (q1, .inl (g.2.1, 150, .inl (fun _ => 0))), (q2, .inl (g.2.1, 150, .inl (fun _ => 0)))] H := hP
  have hD : va_D A [(h0, .inr (4, [.ref q1, .null, .null, .null, .null, .null, .null, .null, .int 0])), (q1, .inl (g.2.1, 150, .inl (fun _ => 0))), (q2, .inl (g.2.1, 150, .inl (fun _ => 0)))] := hD
  refine W.widen (k := 2) (n := 300) (Nat.le_of_ble_eq_true rfl) (Nat.le_of_ble_eq_true rfl) ?_
  refine va_putF (D := g.1) (ci := 4) (v := .ref q2) (ty := (.array .int)) (C := RX4) (T := TX4) (N := 9) hx hb hts i_X4 tyX4 tyX4_ok nmX4 hown hK hP hD hS 0 rfl rfl 1 (by decide) (hts (.fieldLink RX4 15 "WordFlasher$Words" "sizes" "[I") (List.mem_of_getElem? (i := 6) rfl)) (fun _ h9 => h9) rfl hin rfl (by decide +kernel) rfl rfl (Nat.le_of_ble_eq_true rfl) dX4_init_19 (fun H locs hP hD hS => ?_)
  have hP : va_P g.1 vwCl [(h0, .inr (4, [.ref q1, .ref q2, .null, .null, .null, .null, .null, .null, .int 0])), (q1, .inl (g.2.1, 150, .inl (fun _ => 0))), (q2, .inl (g.2.1, 150, .inl (fun _ => 0)))] H := hP
  have hD : va_D A [(h0, .inr (4, [.ref q1, .ref q2, .null, .null, .null, .null, .null, .null, .int 0])), (q1, .inl (g.2.1, 150, .inl (fun _ => 0))), (q2, .inl (g.2.1, 150, .inl (fun _ => 0)))] := hD
  refine lv_aload_n hx hb dX4_init_22 rfl (lv_at hl 0 rfl) ?_
  refine lv_sipush (v := 150) hx hb dX4_init_23 (by decide) ?_
  refine nwA (atype := .int) hx hb (hts (.arrayClass .int) (List.mem_of_getElem? (i := 4) rfl)) rfl rfl hK 0 rfl rfl hP hD hS hA (by decide) (N' := 150) (by decide) (Nat.le_of_ble_eq_true rfl) (Nat.le_of_ble_eq_true rfl) (Nat.le_of_ble_eq_true rfl) dX4_init_26 (fun q3 H hP hD hS => ?_)
  have hP : va_P g.1 vwCl [(h0, .inr (4, [.ref q1, .ref q2, .null, .null, .null, .null, .null, .null, .int 0])), (q1, .inl (g.2.1, 150, .inl (fun _ => 0))), (q2, .inl (g.2.1, 150, .inl (fun _ => 0))), (q3, .inl (g.2.1, 150, .inl (fun _ => 0)))] H := hP
  have hD : va_D A [(h0, .inr (4, [.ref q1, .ref q2, .null, .null, .null, .null, .null, .null, .int 0])), (q1, .inl (g.2.1, 150, .inl (fun _ => 0))), (q2, .inl (g.2.1, 150, .inl (fun _ => 0))), (q3, .inl (g.2.1, 150, .inl (fun _ => 0)))] := hD
  refine W.widen (k := 3) (n := 450) (Nat.le_of_ble_eq_true rfl) (Nat.le_of_ble_eq_true rfl) ?_
  refine va_putF (D := g.1) (ci := 4) (v := .ref q3) (ty := (.array .int)) (C := RX4) (T := TX4) (N := 9) hx hb hts i_X4 tyX4 tyX4_ok nmX4 hown hK hP hD hS 0 rfl rfl 2 (by decide) (hts (.fieldLink RX4 18 "WordFlasher$Words" "lengths" "[I") (List.mem_of_getElem? (i := 7) rfl)) (fun _ h9 => h9) rfl hin rfl (by decide +kernel) rfl rfl (Nat.le_of_ble_eq_true rfl) dX4_init_28 (fun H locs hP hD hS => ?_)
  have hP : va_P g.1 vwCl [(h0, .inr (4, [.ref q1, .ref q2, .ref q3, .null, .null, .null, .null, .null, .int 0])), (q1, .inl (g.2.1, 150, .inl (fun _ => 0))), (q2, .inl (g.2.1, 150, .inl (fun _ => 0))), (q3, .inl (g.2.1, 150, .inl (fun _ => 0)))] H := hP
  have hD : va_D A [(h0, .inr (4, [.ref q1, .ref q2, .ref q3, .null, .null, .null, .null, .null, .int 0])), (q1, .inl (g.2.1, 150, .inl (fun _ => 0))), (q2, .inl (g.2.1, 150, .inl (fun _ => 0))), (q3, .inl (g.2.1, 150, .inl (fun _ => 0)))] := hD
  refine lv_aload_n hx hb dX4_init_31 rfl (lv_at hl 0 rfl) ?_
  refine lv_sipush (v := 150) hx hb dX4_init_32 (by decide) ?_
  refine nwA (atype := .int) hx hb (hts (.arrayClass .int) (List.mem_of_getElem? (i := 4) rfl)) rfl rfl hK 0 rfl rfl hP hD hS hA (by decide) (N' := 150) (by decide) (Nat.le_of_ble_eq_true rfl) (Nat.le_of_ble_eq_true rfl) (Nat.le_of_ble_eq_true rfl) dX4_init_35 (fun q4 H hP hD hS => ?_)
  have hP : va_P g.1 vwCl [(h0, .inr (4, [.ref q1, .ref q2, .ref q3, .null, .null, .null, .null, .null, .int 0])), (q1, .inl (g.2.1, 150, .inl (fun _ => 0))), (q2, .inl (g.2.1, 150, .inl (fun _ => 0))), (q3, .inl (g.2.1, 150, .inl (fun _ => 0))), (q4, .inl (g.2.1, 150, .inl (fun _ => 0)))] H := hP
  have hD : va_D A [(h0, .inr (4, [.ref q1, .ref q2, .ref q3, .null, .null, .null, .null, .null, .int 0])), (q1, .inl (g.2.1, 150, .inl (fun _ => 0))), (q2, .inl (g.2.1, 150, .inl (fun _ => 0))), (q3, .inl (g.2.1, 150, .inl (fun _ => 0))), (q4, .inl (g.2.1, 150, .inl (fun _ => 0)))] := hD
  refine W.widen (k := 4) (n := 600) (Nat.le_of_ble_eq_true rfl) (Nat.le_of_ble_eq_true rfl) ?_
  refine va_putF (D := g.1) (ci := 4) (v := .ref q4) (ty := (.array .int)) (C := RX4) (T := TX4) (N := 9) hx hb hts i_X4 tyX4 tyX4_ok nmX4 hown hK hP hD hS 0 rfl rfl 3 (by decide) (hts (.fieldLink RX4 21 "WordFlasher$Words" "closings" "[I") (List.mem_of_getElem? (i := 8) rfl)) (fun _ h9 => h9) rfl hin rfl (by decide +kernel) rfl rfl (Nat.le_of_ble_eq_true rfl) dX4_init_37 (fun H locs hP hD hS => ?_)
  have hP : va_P g.1 vwCl [(h0, .inr (4, [.ref q1, .ref q2, .ref q3, .ref q4, .null, .null, .null, .null, .int 0])), (q1, .inl (g.2.1, 150, .inl (fun _ => 0))), (q2, .inl (g.2.1, 150, .inl (fun _ => 0))), (q3, .inl (g.2.1, 150, .inl (fun _ => 0))), (q4, .inl (g.2.1, 150, .inl (fun _ => 0)))] H := hP
  have hD : va_D A [(h0, .inr (4, [.ref q1, .ref q2, .ref q3, .ref q4, .null, .null, .null, .null, .int 0])), (q1, .inl (g.2.1, 150, .inl (fun _ => 0))), (q2, .inl (g.2.1, 150, .inl (fun _ => 0))), (q3, .inl (g.2.1, 150, .inl (fun _ => 0))), (q4, .inl (g.2.1, 150, .inl (fun _ => 0)))] := hD
  refine lv_aload_n hx hb dX4_init_40 rfl (lv_at hl 0 rfl) ?_
  refine lv_sipush (v := 150) hx hb dX4_init_41 (by decide) ?_
  refine nwA (atype := .int) hx hb (hts (.arrayClass .int) (List.mem_of_getElem? (i := 4) rfl)) rfl rfl hK 0 rfl rfl hP hD hS hA (by decide) (N' := 150) (by decide) (Nat.le_of_ble_eq_true rfl) (Nat.le_of_ble_eq_true rfl) (Nat.le_of_ble_eq_true rfl) dX4_init_44 (fun q5 H hP hD hS => ?_)
  have hP : va_P g.1 vwCl [(h0, .inr (4, [.ref q1, .ref q2, .ref q3, .ref q4, .null, .null, .null, .null, .int 0])), (q1, .inl (g.2.1, 150, .inl (fun _ => 0))), (q2, .inl (g.2.1, 150, .inl (fun _ => 0))), (q3, .inl (g.2.1, 150, .inl (fun _ => 0))), (q4, .inl (g.2.1, 150, .inl (fun _ => 0))), (q5, .inl (g.2.1, 150, .inl (fun _ => 0)))] H := hP
  have hD : va_D A [(h0, .inr (4, [.ref q1, .ref q2, .ref q3, .ref q4, .null, .null, .null, .null, .int 0])), (q1, .inl (g.2.1, 150, .inl (fun _ => 0))), (q2, .inl (g.2.1, 150, .inl (fun _ => 0))), (q3, .inl (g.2.1, 150, .inl (fun _ => 0))), (q4, .inl (g.2.1, 150, .inl (fun _ => 0))), (q5, .inl (g.2.1, 150, .inl (fun _ => 0)))] := hD
  refine W.widen (k := 5) (n := 750) (Nat.le_of_ble_eq_true rfl) (Nat.le_of_ble_eq_true rfl) ?_
  refine va_putF (D := g.1) (ci := 4) (v := .ref q5) (ty := (.array .int)) (C := RX4) (T := TX4) (N := 9) hx hb hts i_X4 tyX4 tyX4_ok nmX4 hown hK hP hD hS 0 rfl rfl 4 (by decide) (hts (.fieldLink RX4 24 "WordFlasher$Words" "figures" "[I") (List.mem_of_getElem? (i := 9) rfl)) (fun _ h9 => h9) rfl hin rfl (by decide +kernel) rfl rfl (Nat.le_of_ble_eq_true rfl) dX4_init_46 (fun H locs hP hD hS => ?_)
  have hP : va_P g.1 vwCl [(h0, .inr (4, [.ref q1, .ref q2, .ref q3, .ref q4, .ref q5, .null, .null, .null, .int 0])), (q1, .inl (g.2.1, 150, .inl (fun _ => 0))), (q2, .inl (g.2.1, 150, .inl (fun _ => 0))), (q3, .inl (g.2.1, 150, .inl (fun _ => 0))), (q4, .inl (g.2.1, 150, .inl (fun _ => 0))), (q5, .inl (g.2.1, 150, .inl (fun _ => 0)))] H := hP
  have hD : va_D A [(h0, .inr (4, [.ref q1, .ref q2, .ref q3, .ref q4, .ref q5, .null, .null, .null, .int 0])), (q1, .inl (g.2.1, 150, .inl (fun _ => 0))), (q2, .inl (g.2.1, 150, .inl (fun _ => 0))), (q3, .inl (g.2.1, 150, .inl (fun _ => 0))), (q4, .inl (g.2.1, 150, .inl (fun _ => 0))), (q5, .inl (g.2.1, 150, .inl (fun _ => 0)))] := hD
  refine lv_aload_n hx hb dX4_init_49 rfl (lv_at hl 0 rfl) ?_
  refine lv_sipush (v := 150) hx hb dX4_init_50 (by decide) ?_
  refine nwA (atype := .int) hx hb (hts (.arrayClass .int) (List.mem_of_getElem? (i := 4) rfl)) rfl rfl hK 0 rfl rfl hP hD hS hA (by decide) (N' := 150) (by decide) (Nat.le_of_ble_eq_true rfl) (Nat.le_of_ble_eq_true rfl) (Nat.le_of_ble_eq_true rfl) dX4_init_53 (fun q6 H hP hD hS => ?_)
  have hP : va_P g.1 vwCl [(h0, .inr (4, [.ref q1, .ref q2, .ref q3, .ref q4, .ref q5, .null, .null, .null, .int 0])), (q1, .inl (g.2.1, 150, .inl (fun _ => 0))), (q2, .inl (g.2.1, 150, .inl (fun _ => 0))), (q3, .inl (g.2.1, 150, .inl (fun _ => 0))), (q4, .inl (g.2.1, 150, .inl (fun _ => 0))), (q5, .inl (g.2.1, 150, .inl (fun _ => 0))), (q6, .inl (g.2.1, 150, .inl (fun _ => 0)))] H := hP
  have hD : va_D A [(h0, .inr (4, [.ref q1, .ref q2, .ref q3, .ref q4, .ref q5, .null, .null, .null, .int 0])), (q1, .inl (g.2.1, 150, .inl (fun _ => 0))), (q2, .inl (g.2.1, 150, .inl (fun _ => 0))), (q3, .inl (g.2.1, 150, .inl (fun _ => 0))), (q4, .inl (g.2.1, 150, .inl (fun _ => 0))), (q5, .inl (g.2.1, 150, .inl (fun _ => 0))), (q6, .inl (g.2.1, 150, .inl (fun _ => 0)))] := hD
  refine W.widen (k := 6) (n := 900) (Nat.le_of_ble_eq_true rfl) (Nat.le_of_ble_eq_true rfl) ?_
  refine va_putF (D := g.1) (ci := 4) (v := .ref q6) (ty := (.array .int)) (C := RX4) (T := TX4) (N := 9) hx hb hts i_X4 tyX4 tyX4_ok nmX4 hown hK hP hD hS 0 rfl rfl 5 (by decide) (hts (.fieldLink RX4 27 "WordFlasher$Words" "spots" "[I") (List.mem_of_getElem? (i := 10) rfl)) (fun _ h9 => h9) rfl hin rfl (by decide +kernel) rfl rfl (Nat.le_of_ble_eq_true rfl) dX4_init_55 (fun H locs hP hD hS => ?_)
  have hP : va_P g.1 vwCl [(h0, .inr (4, [.ref q1, .ref q2, .ref q3, .ref q4, .ref q5, .ref q6, .null, .null, .int 0])), (q1, .inl (g.2.1, 150, .inl (fun _ => 0))), (q2, .inl (g.2.1, 150, .inl (fun _ => 0))), (q3, .inl (g.2.1, 150, .inl (fun _ => 0))), (q4, .inl (g.2.1, 150, .inl (fun _ => 0))), (q5, .inl (g.2.1, 150, .inl (fun _ => 0))), (q6, .inl (g.2.1, 150, .inl (fun _ => 0)))] H := hP
  have hD : va_D A [(h0, .inr (4, [.ref q1, .ref q2, .ref q3, .ref q4, .ref q5, .ref q6, .null, .null, .int 0])), (q1, .inl (g.2.1, 150, .inl (fun _ => 0))), (q2, .inl (g.2.1, 150, .inl (fun _ => 0))), (q3, .inl (g.2.1, 150, .inl (fun _ => 0))), (q4, .inl (g.2.1, 150, .inl (fun _ => 0))), (q5, .inl (g.2.1, 150, .inl (fun _ => 0))), (q6, .inl (g.2.1, 150, .inl (fun _ => 0)))] := hD
  refine lv_aload_n hx hb dX4_init_58 rfl (lv_at hl 0 rfl) ?_
  refine va_new (ci := 2) (fs := [.null, .null, .null, .int 0]) (C := RX2) (T := TX2) (N := 4) hx hb hts i_X2 tyX2 tyX2_ok hown (hts (.classLink RX4 30 RX2) (List.mem_of_getElem? (i := 11) rfl)) (hts (.instantiable RX2 4) (List.mem_of_getElem? (i := 12) rfl)) (hts (.initialized RX2) (List.mem_of_getElem? (i := 13) rfl)) hK hP hD hS hA rfl (fun j hj => by rcases (show j = 0 ∨ j = 1 ∨ j = 2 ∨ j = 3 by omega) with rfl | rfl | rfl | rfl <;> rfl) (Nat.le_of_ble_eq_true rfl) (Nat.le_of_ble_eq_true rfl) dX4_init_59 (fun q7 H hP hD hS => ?_)
  have hP : va_P g.1 vwCl [(h0, .inr (4, [.ref q1, .ref q2, .ref q3, .ref q4, .ref q5, .ref q6, .null, .null, .int 0])), (q1, .inl (g.2.1, 150, .inl (fun _ => 0))), (q2, .inl (g.2.1, 150, .inl (fun _ => 0))), (q3, .inl (g.2.1, 150, .inl (fun _ => 0))), (q4, .inl (g.2.1, 150, .inl (fun _ => 0))), (q5, .inl (g.2.1, 150, .inl (fun _ => 0))), (q6, .inl (g.2.1, 150, .inl (fun _ => 0))), (q7, .inr (2, [.null, .null, .null, .int 0]))] H := hP
  have hD : va_D A [(h0, .inr (4, [.ref q1, .ref q2, .ref q3, .ref q4, .ref q5, .ref q6, .null, .null, .int 0])), (q1, .inl (g.2.1, 150, .inl (fun _ => 0))), (q2, .inl (g.2.1, 150, .inl (fun _ => 0))), (q3, .inl (g.2.1, 150, .inl (fun _ => 0))), (q4, .inl (g.2.1, 150, .inl (fun _ => 0))), (q5, .inl (g.2.1, 150, .inl (fun _ => 0))), (q6, .inl (g.2.1, 150, .inl (fun _ => 0))), (q7, .inr (2, [.null, .null, .null, .int 0]))] := hD
  refine W.widen (k := 7) (n := 904) (Nat.le_of_ble_eq_true rfl) (Nat.le_of_ble_eq_true rfl) ?_
  refine lv_dup hx hb dX4_init_62 rfl ?_
  refine wr_n (rest := [.ref q7, .ref h0]) (wc := [(q7, .inr (2, [.null, .null, .null, .int 0]))]) (wr := [(h0, .inr (4, [.ref q1, .ref q2, .ref q3, .ref q4, .ref q5, .ref q6, .null, .null, .int 0])), (q1, .inl (g.2.1, 150, .inl (fun _ => 0))), (q2, .inl (g.2.1, 150, .inl (fun _ => 0))), (q3, .inl (g.2.1, 150, .inl (fun _ => 0))), (q4, .inl (g.2.1, 150, .inl (fun _ => 0))), (q5, .inl (g.2.1, 150, .inl (fun _ => 0))), (q6, .inl (g.2.1, 150, .inl (fun _ => 0)))]) (w1 := fun (u : (Nat → Nat)) => pP g u X0D) (mc := 3) (ms := 450) hP hD hS hA [7] [0, 1, 2, 3, 4, 5, 6] rfl rfl (by decide) (by decide) (rnI (As := []) (E := (fun _ => True)) (fun _ _ _ _ h => h) ⟨hx, hb, hml, hown, hts⟩ (c_X2_init l g q7 _) (cwI 0 hts gX4_init_X2_init rfl rfl rfl (hts (.initialized RX2) (List.mem_of_getElem? (i := 13) rfl)) (hts (.methodLink RX4 32 yX2_init) (List.mem_of_getElem? (i := 16) rfl)) (hts (.instanceMethod yX2_init) (List.mem_of_getElem? (i := 17) rfl)) rfl (by decide +kernel) ⟨Nat.le_of_ble_eq_true rfl, Nat.le_of_ble_eq_true rfl⟩) hKW hP hD [7] (by decide) rfl (fun _ _ _ => trivial) rfl hl.1 rfl (lv_room (Nat.le_of_ble_eq_true rfl)) dX4_init_63 ⟨Nat.le_of_ble_eq_true rfl, Nat.le_of_ble_eq_true rfl⟩) (fun u8 H locs hu9 hP hD hS => ?_)
  have hu9e := hu9
  have hP : va_P g.1 vwCl ([(h0, .inr (4, [.ref q1, .ref q2, .ref q3, .ref q4, .ref q5, .ref q6, .null, .null, .int 0])), (q1, .inl (g.2.1, 150, .inl (fun _ => 0))), (q2, .inl (g.2.1, 150, .inl (fun _ => 0))), (q3, .inl (g.2.1, 150, .inl (fun _ => 0))), (q4, .inl (g.2.1, 150, .inl (fun _ => 0))), (q5, .inl (g.2.1, 150, .inl (fun _ => 0))), (q6, .inl (g.2.1, 150, .inl (fun _ => 0)))] ++ (pP g u8 X0D)) H := hP
  have hD : va_D A ([(h0, .inr (4, [.ref q1, .ref q2, .ref q3, .ref q4, .ref q5, .ref q6, .null, .null, .int 0])), (q1, .inl (g.2.1, 150, .inl (fun _ => 0))), (q2, .inl (g.2.1, 150, .inl (fun _ => 0))), (q3, .inl (g.2.1, 150, .inl (fun _ => 0))), (q4, .inl (g.2.1, 150, .inl (fun _ => 0))), (q5, .inl (g.2.1, 150, .inl (fun _ => 0))), (q6, .inl (g.2.1, 150, .inl (fun _ => 0)))] ++ (pP g u8 X0D)) := hD
  refine W.widen (k := 10) (n := 1354) (Nat.le_of_ble_eq_true rfl) (Nat.le_of_ble_eq_true rfl) ?_
  rw [← hu9]
  refine va_putF (D := g.1) (ci := 4) (v := .ref (u8 0)) (ty := (.object "WordFlasher$Spans")) (C := RX4) (T := TX4) (N := 9) hx hb hts i_X4 tyX4 tyX4_ok nmX4 hown hK hP hD hS 0 rfl rfl 6 (by decide) (hts (.fieldLink RX4 33 "WordFlasher$Words" "sentences" "LWordFlasher$Spans;") (List.mem_of_getElem? (i := 14) rfl)) (fun _ h9 => h9) rfl hin rfl (by decide +kernel) rfl rfl (Nat.le_of_ble_eq_true rfl) dX4_init_66 (fun H locs hP hD hS => ?_)
  have hP : va_P g.1 vwCl ([(h0, .inr (4, [.ref q1, .ref q2, .ref q3, .ref q4, .ref q5, .ref q6, .ref (u8 0), .null, .int 0])), (q1, .inl (g.2.1, 150, .inl (fun _ => 0))), (q2, .inl (g.2.1, 150, .inl (fun _ => 0))), (q3, .inl (g.2.1, 150, .inl (fun _ => 0))), (q4, .inl (g.2.1, 150, .inl (fun _ => 0))), (q5, .inl (g.2.1, 150, .inl (fun _ => 0))), (q6, .inl (g.2.1, 150, .inl (fun _ => 0)))] ++ (pP g u8 X0D)) H := hP
  have hD : va_D A ([(h0, .inr (4, [.ref q1, .ref q2, .ref q3, .ref q4, .ref q5, .ref q6, .ref (u8 0), .null, .int 0])), (q1, .inl (g.2.1, 150, .inl (fun _ => 0))), (q2, .inl (g.2.1, 150, .inl (fun _ => 0))), (q3, .inl (g.2.1, 150, .inl (fun _ => 0))), (q4, .inl (g.2.1, 150, .inl (fun _ => 0))), (q5, .inl (g.2.1, 150, .inl (fun _ => 0))), (q6, .inl (g.2.1, 150, .inl (fun _ => 0)))] ++ (pP g u8 X0D)) := hD
  refine lv_aload_n hx hb dX4_init_69 rfl (lv_at hl 0 rfl) ?_
  refine va_new (ci := 2) (fs := [.null, .null, .null, .int 0]) (C := RX2) (T := TX2) (N := 4) hx hb hts i_X2 tyX2 tyX2_ok hown (hts (.classLink RX4 30 RX2) (List.mem_of_getElem? (i := 11) rfl)) (hts (.instantiable RX2 4) (List.mem_of_getElem? (i := 12) rfl)) (hts (.initialized RX2) (List.mem_of_getElem? (i := 13) rfl)) hK hP hD hS hA rfl (fun j hj => by rcases (show j = 0 ∨ j = 1 ∨ j = 2 ∨ j = 3 by omega) with rfl | rfl | rfl | rfl <;> rfl) (Nat.le_of_ble_eq_true rfl) (Nat.le_of_ble_eq_true rfl) dX4_init_70 (fun q10 H hP hD hS => ?_)
  have hP : va_P g.1 vwCl ([(h0, .inr (4, [.ref q1, .ref q2, .ref q3, .ref q4, .ref q5, .ref q6, .ref (u8 0), .null, .int 0])), (q1, .inl (g.2.1, 150, .inl (fun _ => 0))), (q2, .inl (g.2.1, 150, .inl (fun _ => 0))), (q3, .inl (g.2.1, 150, .inl (fun _ => 0))), (q4, .inl (g.2.1, 150, .inl (fun _ => 0))), (q5, .inl (g.2.1, 150, .inl (fun _ => 0))), (q6, .inl (g.2.1, 150, .inl (fun _ => 0)))] ++ ((pP g u8 X0D) ++ [(q10, .inr (2, [.null, .null, .null, .int 0]))])) H := hP
  have hD : va_D A ([(h0, .inr (4, [.ref q1, .ref q2, .ref q3, .ref q4, .ref q5, .ref q6, .ref (u8 0), .null, .int 0])), (q1, .inl (g.2.1, 150, .inl (fun _ => 0))), (q2, .inl (g.2.1, 150, .inl (fun _ => 0))), (q3, .inl (g.2.1, 150, .inl (fun _ => 0))), (q4, .inl (g.2.1, 150, .inl (fun _ => 0))), (q5, .inl (g.2.1, 150, .inl (fun _ => 0))), (q6, .inl (g.2.1, 150, .inl (fun _ => 0)))] ++ ((pP g u8 X0D) ++ [(q10, .inr (2, [.null, .null, .null, .int 0]))])) := hD
  refine W.widen (k := 11) (n := 1358) (Nat.le_of_ble_eq_true rfl) (Nat.le_of_ble_eq_true rfl) ?_
  refine lv_dup hx hb dX4_init_73 rfl ?_
  refine wr_n (rest := [.ref q10, .ref h0]) (wc := [(q10, .inr (2, [.null, .null, .null, .int 0]))]) (wr := ([(h0, .inr (4, [.ref q1, .ref q2, .ref q3, .ref q4, .ref q5, .ref q6, .ref (u8 0), .null, .int 0])), (q1, .inl (g.2.1, 150, .inl (fun _ => 0))), (q2, .inl (g.2.1, 150, .inl (fun _ => 0))), (q3, .inl (g.2.1, 150, .inl (fun _ => 0))), (q4, .inl (g.2.1, 150, .inl (fun _ => 0))), (q5, .inl (g.2.1, 150, .inl (fun _ => 0))), (q6, .inl (g.2.1, 150, .inl (fun _ => 0)))] ++ (pP g u8 X0D))) (w1 := fun (u : (Nat → Nat)) => pP g u X0D) (mc := 3) (ms := 450) hP hD hS hA [11] [0, 1, 2, 3, 4, 5, 6, 7, 8, 9, 10] rfl rfl (by decide) (by decide) (rnI (As := []) (E := (fun _ => True)) (fun _ _ _ _ h => h) ⟨hx, hb, hml, hown, hts⟩ (c_X2_init l g q10 _) (cwI 0 hts gX4_init_X2_init rfl rfl rfl (hts (.initialized RX2) (List.mem_of_getElem? (i := 13) rfl)) (hts (.methodLink RX4 32 yX2_init) (List.mem_of_getElem? (i := 16) rfl)) (hts (.instanceMethod yX2_init) (List.mem_of_getElem? (i := 17) rfl)) rfl (by decide +kernel) ⟨Nat.le_of_ble_eq_true rfl, Nat.le_of_ble_eq_true rfl⟩) hKW hP hD [11] (by decide) rfl (fun _ _ _ => trivial) rfl hl.1 rfl (lv_room (Nat.le_of_ble_eq_true rfl)) dX4_init_74 ⟨Nat.le_of_ble_eq_true rfl, Nat.le_of_ble_eq_true rfl⟩) (fun u11 H locs hu12 hP hD hS => ?_)
  have hu12e := hu12
  have hP : va_P g.1 vwCl ([(h0, .inr (4, [.ref q1, .ref q2, .ref q3, .ref q4, .ref q5, .ref q6, .ref (u8 0), .null, .int 0])), (q1, .inl (g.2.1, 150, .inl (fun _ => 0))), (q2, .inl (g.2.1, 150, .inl (fun _ => 0))), (q3, .inl (g.2.1, 150, .inl (fun _ => 0))), (q4, .inl (g.2.1, 150, .inl (fun _ => 0))), (q5, .inl (g.2.1, 150, .inl (fun _ => 0))), (q6, .inl (g.2.1, 150, .inl (fun _ => 0)))] ++ ((pP g u8 X0D) ++ (pP g u11 X0D))) H := hP
  have hD : va_D A ([(h0, .inr (4, [.ref q1, .ref q2, .ref q3, .ref q4, .ref q5, .ref q6, .ref (u8 0), .null, .int 0])), (q1, .inl (g.2.1, 150, .inl (fun _ => 0))), (q2, .inl (g.2.1, 150, .inl (fun _ => 0))), (q3, .inl (g.2.1, 150, .inl (fun _ => 0))), (q4, .inl (g.2.1, 150, .inl (fun _ => 0))), (q5, .inl (g.2.1, 150, .inl (fun _ => 0))), (q6, .inl (g.2.1, 150, .inl (fun _ => 0)))] ++ ((pP g u8 X0D) ++ (pP g u11 X0D))) := hD
  refine W.widen (k := 14) (n := 1808) (Nat.le_of_ble_eq_true rfl) (Nat.le_of_ble_eq_true rfl) ?_
  rw [← hu12]
  refine va_putF (D := g.1) (ci := 4) (v := .ref (u11 0)) (ty := (.object "WordFlasher$Spans")) (C := RX4) (T := TX4) (N := 9) hx hb hts i_X4 tyX4 tyX4_ok nmX4 hown hK hP hD hS 0 rfl rfl 7 (by decide) (hts (.fieldLink RX4 37 "WordFlasher$Words" "pages" "LWordFlasher$Spans;") (List.mem_of_getElem? (i := 15) rfl)) (fun _ h9 => h9) rfl hin rfl (by decide +kernel) rfl rfl (Nat.le_of_ble_eq_true rfl) dX4_init_77 (fun H locs hP hD hS => ?_)
  have hP : va_P g.1 vwCl ([(h0, .inr (4, [.ref q1, .ref q2, .ref q3, .ref q4, .ref q5, .ref q6, .ref (u8 0), .ref (u11 0), .int 0])), (q1, .inl (g.2.1, 150, .inl (fun _ => 0))), (q2, .inl (g.2.1, 150, .inl (fun _ => 0))), (q3, .inl (g.2.1, 150, .inl (fun _ => 0))), (q4, .inl (g.2.1, 150, .inl (fun _ => 0))), (q5, .inl (g.2.1, 150, .inl (fun _ => 0))), (q6, .inl (g.2.1, 150, .inl (fun _ => 0)))] ++ ((pP g u8 X0D) ++ (pP g u11 X0D))) H := hP
  have hD : va_D A ([(h0, .inr (4, [.ref q1, .ref q2, .ref q3, .ref q4, .ref q5, .ref q6, .ref (u8 0), .ref (u11 0), .int 0])), (q1, .inl (g.2.1, 150, .inl (fun _ => 0))), (q2, .inl (g.2.1, 150, .inl (fun _ => 0))), (q3, .inl (g.2.1, 150, .inl (fun _ => 0))), (q4, .inl (g.2.1, 150, .inl (fun _ => 0))), (q5, .inl (g.2.1, 150, .inl (fun _ => 0))), (q6, .inl (g.2.1, 150, .inl (fun _ => 0)))] ++ ((pP g u8 X0D) ++ (pP g u11 X0D))) := hD
  refine W.widen (k := 14) (n := 1808) (Nat.le_of_ble_eq_true rfl) (Nat.le_of_ble_eq_true rfl) ?_
  have hD9 := hD
  rw [← hQ0]; exact W.vret hx hb hr (fun t ht hW => ⟨⟨(lsA [h0, q1, q2, q3, q4, q5, q6], u8, u11), rfl, rfl, by dsimp only; rw [ht]; exact ⟨hP, hD9⟩⟩, hS.F ht⟩) hS.2.2 dX4_init_80
