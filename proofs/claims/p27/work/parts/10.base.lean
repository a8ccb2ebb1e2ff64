/-! the base: memories, bundles, calls -/
abbrev DM : Type := Nat → Nat → Int32
abbrev GG : Type := va_G × ClassId × ClassId × ClassId × ClassId
abbrev tyG (g : GG) : List (ClassId × FieldType) := [(g.2.1, .int), (g.2.2.1, .int), (g.2.2.2.1, .int), (g.2.2.2.2, .object RX3)]
def nestL : List Cond := [.methodLinkNest RX4 68 yX5_closingBy RX5, .methodLinkNest RX4 65 yX5_put RX5, .methodLinkNest RX4 62 yX5_isTrailing RX5, .methodLinkNest RX4 59 yX5_isFigure RX5, .methodLinkNest RX4 55 yX5_isLetter RX5, .methodLinkNest RX4 44 yX5_at RX5, .methodLinkNest RX3 99 yX5_at RX5, .methodLinkNest RX3 50 yX5_copyRow RX5, .methodLinkNest RX3 42 yX5_fill RX5, .methodLinkNest RX3 133 yX5_put RX5, .methodLinkNest RX2 25 yX5_put RX5]
def NW (U : State) : Prop := ∀ w ∈ nestL, va_Nw w U
theorem nestL_t : ∀ w ∈ nestL, w.onTables = true := by decide +kernel
theorem NW.same {u U : State} (h : u.vm = U.vm) (hZ : NW u) : NW U := fun w hw => va_Nw.same (nestL_t w hw) h (hZ w hw)
theorem NW.warm {s U : State} (hW : s.WarmedH U.vm) (hZ : NW s) : NW U := by
  intro w hw
  have h := hZ w hw
  simp only [nestL, List.mem_cons, List.not_mem_nil, or_false] at hw
  rcases hw with rfl | rfl | rfl | rfl | rfl | rfl | rfl | rfl | rfl | rfl | rfl <;> exact va_Nw.warmM hW h
def KW (g : GG) (U : State) : Prop := va_K g.1 vwCl (tyG g) U ∧ NW U
theorem KW.same {g : GG} {u U : State} (h : u.vm = U.vm) (hA : u.vm.Alike U.vm) (hZ : KW g u) : KW g U := ⟨va_K.moved hA hZ.1, NW.same h hZ.2⟩
theorem KW.warm {g : GG} {s U : State} (hW : s.WarmedH U.vm) (hZ : KW g s) : KW g U := ⟨va_K.moved hW.alike hZ.1, NW.warm hW hZ.2⟩
def rdA (N : Nat) (f : Nat → Int32) (i : Int32) : Option Int32 := if ¬ (i < 0 ∨ N ≤ i.toNatClampNeg) then some (f i.toNatClampNeg) else none
def wrA (N : Nat) (f : Nat → Int32) (i v : Int32) : Option (Nat → Int32) := if ¬ (i < 0 ∨ N ≤ i.toNatClampNeg) then some (upd f i.toNatClampNeg v) else none
def dvA (x y : Int32) : Option Int32 := if y = 0 then none else some (x / y)
def sl {α β : Type} (x : α) (k : α → β) : β := k x
def bnd {α β : Type} (x : Option α) (k : α → Option β) : Option β := match x with | none => none | some a => k a
theorem rdA_el {β : Type} {N : Nat} {f : Nat → Int32} {i : Int32} {k : Int32 → Option β} {r : β} (h : bnd (rdA N f i) k = some r) : vp_in i N ∧ ∃ v, v = f i.toNatClampNeg ∧ k v = some r := by
  unfold rdA at h
  by_cases c : ¬ (i < 0 ∨ N ≤ i.toNatClampNeg)
  · rw [if_pos c] at h; exact ⟨c, _, rfl, h⟩
  · rw [if_neg c] at h; cases h
theorem wrA_el {β : Type} {N : Nat} {f : Nat → Int32} {i x : Int32} {k : (Nat → Int32) → Option β} {r : β} (h : bnd (wrA N f i x) k = some r) : vp_in i N ∧ ∃ v, v = upd f i.toNatClampNeg x ∧ k v = some r := by
  unfold wrA at h
  by_cases c : ¬ (i < 0 ∨ N ≤ i.toNatClampNeg)
  · rw [if_pos c] at h; exact ⟨c, _, rfl, h⟩
  · rw [if_neg c] at h; cases h
def rmA (x y : Int32) : Option Int32 := if y = 0 then none else some (x - x / y * y)
theorem rmA_el {β : Type} {x y : Int32} {k : Int32 → Option β} {r : β} (h : bnd (rmA x y) k = some r) : ¬ y = 0 ∧ ∃ v, v = x - x / y * y ∧ k v = some r := by
  unfold rmA at h
  by_cases c : y = 0
  · rw [if_pos c] at h; cases h
  · rw [if_neg c] at h; exact ⟨c, _, rfl, h⟩
theorem dvA_el {β : Type} {x y : Int32} {k : Int32 → Option β} {r : β} (h : bnd (dvA x y) k = some r) : ¬ y = 0 ∧ ∃ v, v = x / y ∧ k v = some r := by
  unfold dvA at h
  by_cases c : y = 0
  · rw [if_pos c] at h; cases h
  · rw [if_neg c] at h; exact ⟨c, _, rfl, h⟩
def cpA (N0 N1 : Nat) (f g : Nat → Int32) (sp dp n : Int32) : Option (Nat → Int32) := if ¬ sp < 0 ∧ ¬ dp < 0 ∧ ¬ n < 0 ∧ sp.toNatClampNeg + n.toNatClampNeg ≤ N0 ∧ dp.toNatClampNeg + n.toNatClampNeg ≤ N1 then some (va_cpy f g sp.toNatClampNeg dp.toNatClampNeg n.toNatClampNeg) else none
theorem cpA_el {β : Type} {N0 N1 : Nat} {f g : Nat → Int32} {sp dp n : Int32} {k : (Nat → Int32) → Option β} {r : β} (h : bnd (cpA N0 N1 f g sp dp n) k = some r) : ¬ sp < 0 ∧ ¬ dp < 0 ∧ ¬ n < 0 ∧ sp.toNatClampNeg + n.toNatClampNeg ≤ N0 ∧ dp.toNatClampNeg + n.toNatClampNeg ≤ N1 ∧ ∃ v, v = va_cpy f g sp.toNatClampNeg dp.toNatClampNeg n.toNatClampNeg ∧ k v = some r := by
  unfold cpA at h
  by_cases c : ¬ sp < 0 ∧ ¬ dp < 0 ∧ ¬ n < 0 ∧ sp.toNatClampNeg + n.toNatClampNeg ≤ N0 ∧ dp.toNatClampNeg + n.toNatClampNeg ≤ N1
  · rw [if_pos c] at h; exact ⟨c.1, c.2.1, c.2.2.1, c.2.2.2.1, c.2.2.2.2, _, rfl, h⟩
  · rw [if_neg c] at h; cases h
theorem bnd_el {α β : Type} {x : Option α} {k : α → Option β} {r : β} (h : bnd x k = some r) : ∃ a, x = some a ∧ k a = some r := by
  cases x with
  | none => cases h
  | some a => exact ⟨a, rfl, h⟩
theorem sl_el {α β : Type} {x : α} {k : α → β} {r : β} (h : sl x k = r) : ∃ a, a = x ∧ k a = r := ⟨x, rfl, h⟩
theorem ite_t {α : Type} {c : Prop} [Decidable c] {a b r : α} (h : (if c then a else b) = r) (hc : c) : a = r := by rw [if_pos hc] at h; exact h
theorem ite_f {α : Type} {c : Prop} [Decidable c] {a b r : α} (h : (if c then a else b) = r) (hc : ¬ c) : b = r := by rw [if_neg hc] at h; exact h
theorem i32_nk {x k : Int32} {z : Int} (hz : k.toInt = z) (h : ¬ x = k) : ¬ x.toInt = z := fun e => h (Int32.toInt_inj.mp (e.trans hz.symm))
def zA (x : Int32) : Option Int32 := if x = 0 ∨ x = 1 then some x else none
theorem zA_el {β : Type} {x : Int32} {k : Int32 → Option β} {r : β} (h : bnd (zA x) k = some r) : (x = 0 ∨ x = 1) ∧ k x = some r := by
  unfold zA at h
  by_cases c : x = 0 ∨ x = 1
  · rw [if_pos c] at h; exact ⟨c, h⟩
  · rw [if_neg c] at h; cases h
theorem zA_n {x : Int32} (h : x = 0 ∨ x = 1) : narrow .boolean (.int x) = .int x := by rcases h with rfl | rfl <;> rfl
theorem zA_f {x : Int32} (h : x = 0 ∨ x = 1) : fits .boolean (.int x) = true := by rcases h with rfl | rfl <;> rfl
/-! pictures -/
abbrev pR (g : GG) (b N : Nat) (f : Nat → Int32) : va_W := [(b, .inl (g.2.1, N, .inl f))]
abbrev pP (g : GG) (a : Nat → Nat) (X : DM) : va_W := [(a 0, .inr (2, [.ref (a 1), .ref (a 2), .ref (a 3), .int (X 3 0)])), (a 1, .inl (g.2.1, 150, .inl (X 0))), (a 2, .inl (g.2.1, 150, .inl (X 1))), (a 3, .inl (g.2.1, 150, .inl (X 2)))]
abbrev pW (g : GG) (a : Nat → Nat) (b c : Nat) (X : DM) : va_W := [(a 0, .inr (4, [.ref (a 1), .ref (a 2), .ref (a 3), .ref (a 4), .ref (a 5), .ref (a 6), .ref b, .ref c, .int (X 8 0)])), (a 1, .inl (g.2.1, 150, .inl (X 0))), (a 2, .inl (g.2.1, 150, .inl (X 1))), (a 3, .inl (g.2.1, 150, .inl (X 2))), (a 4, .inl (g.2.1, 150, .inl (X 3))), (a 5, .inl (g.2.1, 150, .inl (X 4))), (a 6, .inl (g.2.1, 150, .inl (X 5)))]
abbrev pS (g : GG) (a : Nat → Nat) (w : Nat) (X : DM) : va_W := [(a 0, .inr (3, [.ref w, .ref (a 1), .int (X 2 0), .ref (a 2), .ref (a 3), .ref (a 4), .int (X 6 0), .int (X 7 0), .ref (a 5), .int (X 9 0), .ref (a 6), .int (X 11 0), .int (X 12 0), .int (X 13 0), .int (X 14 0)])), (a 1, .inl (g.2.1, 300, .inl (X 1))), (a 2, .inl (g.2.1, 7, .inl (X 3))), (a 3, .inl (g.2.1, 3, .inl (X 4))), (a 4, .inl (g.2.1, 150, .inl (X 5))), (a 5, .inl (g.2.1, 5, .inl (X 8))), (a 6, .inl (g.2.1, 3, .inl (X 10)))]
abbrev pO (g : GG) (a : Nat → Nat) (X : DM) : va_W := [(a 0, .inr (1, [.ref (a 1), .int (X 1 0)])), (a 1, .inl (g.2.1, 60, .inl (X 0)))]
abbrev pM (g : GG) (a : Nat → Nat) (X : DM) : va_W := [(a 0, .inr (6, [.ref (a 1), .ref (a 2), .int (X 2 0), .ref (a 3), .ref (a 4), .int (X 5 0), .int (X 6 0), .int (X 7 0), .int (X 8 0), .int (X 9 0), .int (X 10 0), .int (X 11 0), .ref (a 5), .ref (a 6), .ref (a 7), .ref (a 8), .ref (a 9), .ref (a 10), .ref (a 11)])), (a 1, .inl (g.2.1, 348, .inl (X 0))), (a 2, .inl (g.2.1, 1392, .inl (X 1))), (a 3, .inl (g.2.1, 348, .inl (X 3))), (a 4, .inl (g.2.2.1, 60, .inl (X 4))), (a 5, .inl (g.2.1, 151, .inl (X 12))), (a 6, .inl (g.2.1, 151, .inl (X 13))), (a 7, .inl (g.2.1, 151, .inl (X 14))), (a 8, .inl (g.2.1, 151, .inl (X 15))), (a 9, .inl (g.2.2.2.1, 151, .inl (X 16))), (a 10, .inl (g.2.1, 151, .inl (X 17))), (a 11, .inl (g.2.1, 151, .inl (X 18)))]
abbrev pF (g : GG) (a : Nat → Nat) (w n h k o : Nat) (X : DM) : va_W := [(a 0, .inr (5, [.ref w, .ref n, .ref h, .ref k, .ref o, .ref (a 1)])), (a 1, .inl (g.2.1, 150, .inl (X 5)))]
/-! merged worlds -/
def lkp : List Nat → va_W → Nat → Option (Nat × va_E)
  | c :: cs, q :: qs, i => cond (Nat.beq c i) (some q) (lkp cs qs i)
  | _, _, _ => none
def mrg (isC : List Nat) (w' : va_W) : Nat → va_W → va_W
  | _, [] => []
  | i, q :: t => (match lkp isC w' i with | some z => z | none => q) :: mrg isC w' (i + 1) t
theorem mrg_at (isC : List Nat) (w' : va_W) : ∀ (ws : va_W) (i k : Nat), (mrg isC w' i ws)[k]? = (ws[k]?).map (fun q => match lkp isC w' (i + k) with | some z => z | none => q) := by
  intro ws
  induction ws with
  | nil => intro i k; simp [mrg]
  | cons q t ih =>
    intro i k
    cases k with
    | zero => simp [mrg]
    | succ k =>
      simp only [mrg, List.getElem?_cons_succ]
      rw [ih (i + 1) k, show i + 1 + k = i + (k + 1) by omega]
theorem lkp_some : ∀ (isC : List Nat) (w' : va_W) (i : Nat) (z : Nat × va_E), lkp isC w' i = some z → ∃ j : Nat, isC[j]? = some i ∧ w'[j]? = some z := by
  intro isC
  induction isC with
  | nil => intro w' i z h; cases w' <;> cases h
  | cons c cs ih =>
    intro w' i z h
    cases w' with
    | nil => cases h
    | cons q qs =>
      simp only [lkp] at h
      cases hb : Nat.beq c i with
      | true =>
        rw [hb] at h
        cases h
        exact ⟨0, by rw [Nat.eq_of_beq_eq_true hb]; rfl, rfl⟩
      | false =>
        rw [hb] at h
        obtain ⟨j, h1, h2⟩ := ih qs i z h
        exact ⟨j + 1, h1, h2⟩
theorem lkp_none : ∀ (isC : List Nat) (w' : va_W) (i : Nat), isC.length = w'.length → lkp isC w' i = none → i ∉ isC := by
  intro isC
  induction isC with
  | nil => intro w' i _ _ h; cases h
  | cons c cs ih =>
    intro w' i hl h hm
    cases w' with
    | nil => cases hl
    | cons q qs =>
      simp only [lkp] at h
      cases hb : Nat.beq c i with
      | true => rw [hb] at h; cases h
      | false =>
        rw [hb] at h
        rcases List.mem_cons.mp hm with e | e
        · subst e; rw [Nat.beq_refl] at hb; cases hb
        · exact ih qs i (by simpa using hl) h e
theorem va_mrg {A0 : Nat → Prop} {D : va_G} {cl : List vw_C} {ws wc w1 ws2 : va_W} {H H1 : Heap} (hP : va_P D cl ws H) (hD : va_D A0 ws) (isC : List Nat) (hC : isC.map (fun i => ws[i]?) = wc.map some) (ha : wc.map (·.1) = w1.map (·.1)) (hm : mrg isC w1 0 ws = ws2)
    (hk : ∀ q : Nat, q < H.size → ¬ va_A wc H.size q → H1[q]? = H[q]?) (hP1 : va_P D cl w1 H1) : va_P D cl ws2 H1 ∧ va_D A0 ws2 := by
  have hlen : isC.length = w1.length := by
    have e1 : isC.length = wc.length := by have := congrArg List.length hC; simpa using this
    have e2 : wc.length = w1.length := by have := congrArg List.length ha; simpa using this
    omega
  have key : ∀ (j i : Nat) (z : Nat × va_E), isC[j]? = some i → w1[j]? = some z → ∃ q, ws[i]? = some q ∧ wc[j]? = some q ∧ q.1 = z.1 := by
    intro j i z h1 h2
    have e1 : (isC.map (fun i => ws[i]?))[j]? = (wc.map some)[j]? := by rw [hC]
    rw [List.getElem?_map, List.getElem?_map, h1] at e1
    cases hw : wc[j]? with
    | none => rw [hw] at e1; cases e1
    | some q =>
      rw [hw] at e1
      have e2 : (wc.map (·.1))[j]? = (w1.map (·.1))[j]? := by rw [ha]
      rw [List.getElem?_map, List.getElem?_map, hw, h2] at e2
      exact ⟨q, Option.some.inj e1, rfl, Option.some.inj e2⟩
  have cases2 : ∀ (k : Nat) (x : Nat × va_E), ws2[k]? = some x → (∃ (j : Nat) (q : Nat × va_E), w1[j]? = some x ∧ ws[k]? = some q ∧ q.1 = x.1) ∨ (ws[k]? = some x ∧ k ∉ isC) := by
    intro k x hx
    rw [← hm, mrg_at] at hx
    cases hw : ws[k]? with
    | none => rw [hw] at hx; cases hx
    | some q =>
      rw [hw] at hx
      simp only [Option.map_some, Nat.zero_add, Option.some.injEq] at hx
      cases hl : lkp isC w1 k with
      | some z =>
        rw [hl] at hx
        simp only at hx
        subst hx
        obtain ⟨j, h1, h2⟩ := lkp_some _ _ _ _ hl
        obtain ⟨q', h3, h4, h5⟩ := key j k z h1 h2
        cases hw.symm.trans h3
        exact Or.inl ⟨j, q, h2, rfl, h5⟩
      | none =>
        rw [hl] at hx
        simp only at hx
        subst hx
        exact Or.inr ⟨rfl, lkp_none _ _ _ hlen hl⟩
  refine ⟨fun k x hx => ?_, fun i j x y hi hj hxy => ?_, fun k x hx => ?_⟩
  · rcases cases2 k x hx with ⟨j, q, h1, -, -⟩ | ⟨h1, h2⟩
    · exact hP1 j x h1
    · refine (hP k x h1).kept (hk x.1 ((hP k x h1).lt) fun hA => ?_)
      rcases hA with ⟨j, ee, hj⟩ | hge
      · have e1 : (isC.map (fun i => ws[i]?))[j]? = (wc.map some)[j]? := by rw [hC]
        rw [List.getElem?_map, List.getElem?_map, hj] at e1
        cases hi : isC[j]? with
        | none => rw [hi] at e1; cases e1
        | some i =>
          rw [hi] at e1
          have e2 : ws[i]? = some (x.1, ee) := Option.some.inj e1
          have := hD.1 k i x (x.1, ee) h1 e2 rfl
          subst this
          exact h2 (List.mem_of_getElem? hi)
      · exact absurd ((hP k x h1).lt) (Nat.not_lt.mpr hge)
  · have g : ∀ (k : Nat) (x : Nat × va_E), ws2[k]? = some x → ∃ q, ws[k]? = some q ∧ q.1 = x.1 := by
      intro k x hx
      rcases cases2 k x hx with ⟨j, q, -, h2, h3⟩ | ⟨h1, -⟩
      · exact ⟨q, h2, h3⟩
      · exact ⟨x, h1, rfl⟩
    obtain ⟨q1, a1, b1⟩ := g i x hi
    obtain ⟨q2, a2, b2⟩ := g j y hj
    exact hD.1 i j q1 q2 a1 a2 (by rw [b1, b2, hxy])
  · rcases cases2 k x hx with ⟨j, q, -, h2, h3⟩ | ⟨h1, -⟩
    · rw [← h3]; exact hD.2 k q h2
    · exact hD.2 k x h1
theorem va_P.subm {D : va_G} {cl : List vw_C} {ws wc : va_W} {H : Heap} (h : va_P D cl ws H) (is : List Nat) (hC : is.map (fun i => ws[i]?) = wc.map some) : va_P D cl wc H := by
  intro k q hk
  have e1 : (is.map (fun i => ws[i]?))[k]? = (wc.map some)[k]? := by rw [hC]
  rw [List.getElem?_map, List.getElem?_map, hk] at e1
  cases hi : is[k]? with
  | none => rw [hi] at e1; cases e1
  | some i => rw [hi] at e1; exact h i q (Option.some.inj e1)
/-! calls -/
section CALLS
variable {p : Program} {l : Launch} {e : Env} {R : Room} {s : State} {m : MethodId} {args : Array Value} {below : List Frame} {meth : Method} {c : Code} {H H0 : Heap} {locs : List Loc} {cells slots : Nat} {Q : State → Prop} {A : Nat → Prop}
variable {y : MethodName} {bytes cc : ByteArray} {maxL nL n index : Nat} {ret : Option FieldType} {ws : List Cond} {rm : Room} {Ts : List Cond} {own C host : String} {b : Addr} {As rest : List Value} {g : GG} {ws0 wc wc' ws2 : va_W} {pc : Nat} {ls : Array Slot} {st0 : List Value}
theorem lv_as {x y : Int32} (h : y = x) (k : W p l e R s m args below meth c H locs cells slots Q (F0 m pc ls (.int y :: rest))) : W p l e R s m args below meth c H locs cells slots Q (F0 m pc ls (.int x :: rest)) := h ▸ k
theorem fbR {av : List Value} : FrameBlind (va_Pc av (fun U => va_P g.1 vwCl wc U.heap ∧ KW g U)) := fun a U gf mk q => ⟨q.1, q.2.1, KW.same (u := U) (U := U.calling gf mk a) rfl (Vm.Alike.refl U.vm) q.2.2⟩
theorem fbW {av : List Value} {sz : Nat} : FrameBlind (va_Pc av (fun U => U.heap.size = sz ∧ va_P g.1 vwCl wc U.heap ∧ KW g U ∧ va_D (fun _ => True) wc)) := fun a U gf mk q => ⟨q.1, q.2.1, q.2.2.1, KW.same (u := U) (U := U.calling gf mk a) rfl (Vm.Alike.refl U.vm) q.2.2.2.1, q.2.2.2.2⟩
theorem run_of_va {mc ms : Nat} {gf : JFrame} {Qa : State → Outcome → State → Prop} {free : Addr → Prop} (h : va_Run p l e R s m args below meth c H locs cells slots mc ms gf rest Qa free) : CallRun p l e R s m args below meth c H locs cells slots mc ms gf rest Qa free := by
  intro T hT X
  obtain ⟨v, st₀, t, T', L, h0, X', hL, e1, e2, hq, st⟩ := h T hT X
  exact ⟨v, st₀, t, T', L, h0, X', hL, e1, hq, st⟩
theorem rdV {post : Int32 → Prop} (S : CallFix p m c cc nL s args Ts own) (hM : Met l y ws rm (va_Pc (.ref b :: As) (fun U => va_P g.1 vwCl wc U.heap ∧ KW g U)) (vp_Si post) 0 0 (fun _ => False)) (cw : CallW R s args own C index y bytes maxL ret ws rm 0 0 n) (hK : KW g s) (hP : va_P g.1 vwCl ws0 H) (isC : List Nat) (hC : isC.map (fun i => ws0[i]?) = wc.map some) (hr : ∃ cellB : Cell, H[b]? = some cellB ∧ cellB.vm.isStatics = false ∧ s.vm.findClass C = some cellB.cls) (hn : As.length = n) (hsize : ls.size = nL) (hst : st0 = As.reverse ++ .ref b :: rest) (hW : 2 * (F0 m pc ls st0).monitorRoom + (rest.map fun v => v.category).sum ≤ 8) (hdg : decode cc pc = .ok (.invokevirtual index, 3)) (hf : cells ≤ R.cells ∧ slots ≤ R.slots)
    (kk : ∀ r, post r → W p l e R s m args below meth c H locs cells slots Q (F0 m (pc + 3) ls (.int r :: rest))) : W p l e R s m args below meth c H locs cells slots Q (F0 m pc ls st0) :=
  vp_callSi (W.runV S hM cw ⟨fbR, hr, fun U hU hW => ⟨rfl, by rw [hU]; exact hP.subm isC hC, KW.warm hW hK⟩⟩ rfl hn hsize hst hW hdg hf) kk
theorem rdS {post : Int32 → Prop} (S : CallFix p m c cc nL s args Ts own) (hM : Met l y ws rm (va_Pc As (fun U => va_P g.1 vwCl wc U.heap ∧ KW g U)) (vp_Si post) 0 0 (fun _ => False)) (cw : CallB R s args own index y bytes maxL ret ws rm 0 0 n ∧ (Cond.static y).before args s = true) (hK : KW g s) (hP : va_P g.1 vwCl ws0 H) (isC : List Nat) (hC : isC.map (fun i => ws0[i]?) = wc.map some) (hn : As.length = n) (hsize : ls.size = nL) (hst : st0 = As.reverse ++ rest) (hW : 2 * (F0 m pc ls st0).monitorRoom + (rest.map fun v => v.category).sum ≤ 8) (hdg : decode cc pc = .ok (.invokestatic index, 3)) (hf : cells ≤ R.cells ∧ slots ≤ R.slots)
    (kk : ∀ r, post r → W p l e R s m args below meth c H locs cells slots Q (F0 m (pc + 3) ls (.int r :: rest))) : W p l e R s m args below meth c H locs cells slots Q (F0 m pc ls st0) :=
  vp_callSi (W.runS S hM cw ⟨fbR, fun U hU hW => ⟨rfl, by rw [hU]; exact hP.subm isC hC, KW.warm hW hK⟩⟩ rfl hn hsize hst hW hdg hf) kk
theorem rdN {post : Int32 → Prop} (S : CallFix p m c cc nL s args Ts own) (hM : Met l y ws rm (va_Pc As (fun U => va_P g.1 vwCl wc U.heap ∧ KW g U)) (vp_Si post) 0 0 (fun _ => False)) (cw : va_CN R s args own index y host bytes maxL ret ws rm 0 0 n ∧ (Cond.static y).before args s = true ∧ True) (hK : KW g s) (hP : va_P g.1 vwCl ws0 H) (isC : List Nat) (hC : isC.map (fun i => ws0[i]?) = wc.map some) (hn : As.length = n) (hsize : ls.size = nL) (hst : st0 = As.reverse ++ rest) (hW : 2 * (F0 m pc ls st0).monitorRoom + (rest.map fun v => v.category).sum ≤ 8) (hdg : decode cc pc = .ok (.invokestatic index, 3)) (hf : cells ≤ R.cells ∧ slots ≤ R.slots)
    (kk : ∀ r, post r → W p l e R s m args below meth c H locs cells slots Q (F0 m (pc + 3) ls (.int r :: rest))) : W p l e R s m args below meth c H locs cells slots Q (F0 m pc ls st0) :=
  vp_callSi (run_of_va (va_runSN S hM cw ⟨fbR, fun U hU hW => ⟨rfl, by rw [hU]; exact hP.subm isC hC, KW.warm hW hK⟩⟩ rfl hn hsize hst hW hdg hf)) kk
theorem wr_i {post : Int32 → Unit → Prop} {aa : Array Value} (hP : va_P g.1 vwCl ws0 H) (hD : va_D A ws0) (hS : va_S A H0 H locs) (hA : ∀ q, H0.size ≤ q → A q) (isC : List Nat) (hC : isC.map (fun i => ws0[i]?) = wc.map some) (ha : wc.map (·.1) = wc'.map (·.1)) (hm : mrg isC wc' 0 ws0 = ws2)
    (hr : va_Run p l e R s m args below meth c H locs cells slots 0 0 (F0 m pc ls st0) rest (va_Qi post (fun (_ : Unit) t => va_P g.1 vwCl wc' t.heap) (va_A wc H.size) aa) (va_A wc H.size))
    (kk : ∀ (r : Int32) (H1 : Heap) (locs1 : List Loc), post r () → va_P g.1 vwCl ws2 H1 → va_D A ws2 → va_S A H0 H1 locs1 → W p l e R s m args below meth c H1 locs1 cells slots Q (F0 m (pc + 3) ls (.int r :: rest))) : W p l e R s m args below meth c H locs cells slots Q (F0 m pc ls st0) := by
  have hF := va_free hD hS hA isC hC
  refine va_calli hr hS (fun q _ h => hF q h) hF (fun r u t H1 locs1 ht hvm hw hB hz hk1 hS1 => ?_)
  rw [ht] at hB
  obtain ⟨h1, h2⟩ := va_mrg hP hD isC hC ha hm hk1 hB
  exact kk r H1 locs1 hw h1 h2 hS1
theorem wr_v {post : Unit → Prop} {aa : Array Value} (hP : va_P g.1 vwCl ws0 H) (hD : va_D A ws0) (hS : va_S A H0 H locs) (hA : ∀ q, H0.size ≤ q → A q) (isC : List Nat) (hC : isC.map (fun i => ws0[i]?) = wc.map some) (ha : wc.map (·.1) = wc'.map (·.1)) (hm : mrg isC wc' 0 ws0 = ws2)
    (hr : va_Run p l e R s m args below meth c H locs cells slots 0 0 (F0 m pc ls st0) rest (va_Qv post (fun (_ : Unit) t => va_P g.1 vwCl wc' t.heap) (va_A wc H.size) aa) (va_A wc H.size))
    (kk : ∀ (H1 : Heap) (locs1 : List Loc), va_P g.1 vwCl ws2 H1 → va_D A ws2 → va_S A H0 H1 locs1 → W p l e R s m args below meth c H1 locs1 cells slots Q (F0 m (pc + 3) ls rest)) : W p l e R s m args below meth c H locs cells slots Q (F0 m pc ls st0) := by
  have hF := va_free hD hS hA isC hC
  refine va_callv hr hS (fun q _ h => hF q h) hF (fun u t H1 locs1 ht hvm hw hB hz hk1 hS1 => ?_)
  rw [ht] at hB
  obtain ⟨h1, h2⟩ := va_mrg hP hD isC hC ha hm hk1 hB
  exact kk H1 locs1 h1 h2 hS1
theorem rnV {mc ms : Nat} {Qc : Array Value → State → Outcome → State → Prop} {free : Addr → Prop} (S : CallFix p m c cc nL s args Ts own) (hM : Met l y ws rm (va_Pc (.ref b :: As) (fun U => U.heap.size = H.size ∧ va_P g.1 vwCl wc U.heap ∧ KW g U ∧ va_D (fun _ => True) wc)) Qc mc ms free) (cw : CallW R s args own C index y bytes maxL ret ws rm mc ms n) (hK : KW g s) (hP : va_P g.1 vwCl ws0 H) (hD : va_D A ws0) (isC : List Nat) (hnd : va_nd isC = true) (hC : isC.map (fun i => ws0[i]?) = wc.map some) (hr : ∃ cellB : Cell, H[b]? = some cellB ∧ cellB.vm.isStatics = false ∧ s.vm.findClass C = some cellB.cls) (hn : As.length = n) (hsize : ls.size = nL) (hst : st0 = As.reverse ++ .ref b :: rest) (hW : 2 * (F0 m pc ls st0).monitorRoom + (rest.map fun v => v.category).sum ≤ 8) (hdg : decode cc pc = .ok (.invokevirtual index, 3)) (hf : cells + mc ≤ R.cells ∧ slots + ms ≤ R.slots) :
    va_Run p l e R s m args below meth c H locs cells slots mc ms (F0 m pc ls st0) rest (Qc (Value.ref b :: As).toArray) free :=
  va_runV S hM cw ⟨fbW, hr, fun U hU hW => ⟨rfl, by rw [hU], by rw [hU]; exact hP.subm isC hC, KW.warm hW hK, (hD.sub isC hnd hC).weaken (fun _ _ _ _ => trivial)⟩⟩ rfl hn hsize hst hW hdg hf
theorem rnS {mc ms : Nat} {Qc : Array Value → State → Outcome → State → Prop} {free : Addr → Prop} (S : CallFix p m c cc nL s args Ts own) (hM : Met l y ws rm (va_Pc As (fun U => U.heap.size = H.size ∧ va_P g.1 vwCl wc U.heap ∧ KW g U ∧ va_D (fun _ => True) wc)) Qc mc ms free) (cw : CallB R s args own index y bytes maxL ret ws rm mc ms n ∧ (Cond.static y).before args s = true) (hK : KW g s) (hP : va_P g.1 vwCl ws0 H) (hD : va_D A ws0) (isC : List Nat) (hnd : va_nd isC = true) (hC : isC.map (fun i => ws0[i]?) = wc.map some) (hn : As.length = n) (hsize : ls.size = nL) (hst : st0 = As.reverse ++ rest) (hW : 2 * (F0 m pc ls st0).monitorRoom + (rest.map fun v => v.category).sum ≤ 8) (hdg : decode cc pc = .ok (.invokestatic index, 3)) (hf : cells + mc ≤ R.cells ∧ slots + ms ≤ R.slots) :
    va_Run p l e R s m args below meth c H locs cells slots mc ms (F0 m pc ls st0) rest (Qc As.toArray) free :=
  va_runS S hM cw ⟨fbW, fun U hU hW => ⟨rfl, by rw [hU], by rw [hU]; exact hP.subm isC hC, KW.warm hW hK, (hD.sub isC hnd hC).weaken (fun _ _ _ _ => trivial)⟩⟩ rfl hn hsize hst hW hdg hf
theorem rnN {mc ms : Nat} {Qc : Array Value → State → Outcome → State → Prop} {free : Addr → Prop} (S : CallFix p m c cc nL s args Ts own) (hM : Met l y ws rm (va_Pc As (fun U => U.heap.size = H.size ∧ va_P g.1 vwCl wc U.heap ∧ KW g U ∧ va_D (fun _ => True) wc)) Qc mc ms free) (cw : va_CN R s args own index y host bytes maxL ret ws rm mc ms n ∧ (Cond.static y).before args s = true ∧ True) (hK : KW g s) (hP : va_P g.1 vwCl ws0 H) (hD : va_D A ws0) (isC : List Nat) (hnd : va_nd isC = true) (hC : isC.map (fun i => ws0[i]?) = wc.map some) (hn : As.length = n) (hsize : ls.size = nL) (hst : st0 = As.reverse ++ rest) (hW : 2 * (F0 m pc ls st0).monitorRoom + (rest.map fun v => v.category).sum ≤ 8) (hdg : decode cc pc = .ok (.invokestatic index, 3)) (hf : cells + mc ≤ R.cells ∧ slots + ms ≤ R.slots) :
    va_Run p l e R s m args below meth c H locs cells slots mc ms (F0 m pc ls st0) rest (Qc As.toArray) free :=
  va_runSN S hM cw ⟨fbW, fun U hU hW => ⟨rfl, by rw [hU], by rw [hU]; exact hP.subm isC hC, KW.warm hW hK, (hD.sub isC hnd hC).weaken (fun _ _ _ _ => trivial)⟩⟩ rfl hn hsize hst hW hdg hf
end CALLS
