theorem law_lt {L i : Nat} (hL : L ≤ 1536) (hi : i ≤ L) (h : ¬ (nI L - 3) < nI i) : i + 3 ≤ L := by
  have e : (nI L - nI 3).toInt = (L : Int) - 3 := pk_sub_toInt (by omega) (by omega)
  have h2 : ¬ (nI L - nI 3) < nI i := h
  rw [Int32.lt_iff_toInt_lt, e, nI_toInt (by omega)] at h2
  omega
set_option maxHeartbeats 16000000 in
set_option maxRecDepth 100000 in
theorem law_loop {p : Program} {l : Launch} {e : Env} {s : State} {m : MethodId} {below : List Frame} {meth : Method} {c : Code} {g : GG} {b L : Nat} {xs : Nat → Int32} (hL : L ≤ 1536) (C0 : lw_At p s m meth c b L xs) (hKW : KW g s) {tL tH : Nat} (hST : STA (fun q : Nat => s.heap.size ≤ q) tL tH s) (n : Nat) (I : DM → DM → DM → DM → DM → DM → DM → HD → DM → Prop) (h_append : OK_append n I) (h_cut : OK_cut n I) (h_word : OK_word n I) (h_sentence : OK_sentence n I) (h_page : OK_page n I) (h_count : OK_count n I) (h_set : OK_set n I) (h_speed : OK_speed n I) (h_run : OK_run n I) (h_back : OK_back n I) (h_jump : OK_jump n I) (h_goBack : OK_goBack n I) (h_ifRun : OK_ifRun n I) (h_left : OK_left n I) (h_undo : OK_undo n I) (h_note : OK_note n I) (h_unnote : OK_unnote n I) (h_noted : OK_noted n I) (h_longest : OK_longest n I) (h_speedFor : OK_speedFor n I) (h_order : OK_order n I) (h_clearOrders : OK_clearOrders n I) (h_fault : OK_fault n I) (h_carry : OK_carry n I) (aF aN aA aW aP aQ aO aH aM : Nat → Nat) (aB : Nat → Nat → Nat) :
    ∀ (k i : Nat), i ≤ L → L + 1 ≤ i + k → ∀ (XF : DM) (XN : DM) (XA : DM) (XW : DM) (XP : DM) (XQ : DM) (XO : DM) (XH : HD) (XM : DM), I XF XN XA XW XP XQ XO XH XM → ∀ (H : Heap) (locs : List Loc), va_P g.1 vwCl (w5 g aF aN aA aW aP aQ aO aH aB XF XN XA XW XP XQ XO XH ++ (pM g aM XM)) H → va_D (fun q : Nat => s.heap.size ≤ q) (w5 g aF aN aA aW aP aQ aO aH aB XF XN XA XW XP XQ XO XH ++ (pM g aM XM)) → va_S (fun q : Nat => s.heap.size ≤ q) s.heap H locs → ∀ (ls : Array Slot), lv_has ls 4 [(0, .ref b), (1, .ref (aF 0)), (2, .ref (aM 0)), (3, .int (nI i))] → W p l e room_1 s m #[Value.ref b] below meth c H locs 75 8163 (lw_Z below #[Value.ref b] s) (F0 m 18 ls []) := by
  obtain ⟨hx, hb, hr, hml, hown, hts0, hX, hbl, hlocks, hgv⟩ := C0
  have hts : ∀ w ∈ wsL_law, w.before #[Value.ref b] s = true := fun w h => hts0 w (wsL_law_in w h)
  have hK := hKW.1
  have hA : ∀ q : Nat, s.heap.size ≤ q → (fun q : Nat => s.heap.size ≤ q) q := fun _ h => h
  have hbA : ¬ (fun q : Nat => s.heap.size ≤ q) b := Nat.not_le.mpr hbl
  intro k
  induction k with
  | zero => intro i h1 h2; exact absurd h2 (by omega)
  | succ k ih =>
    intro i hi hik XF XN XA XW XP XQ XO XH XM hI H locs hP hD hS ls hl
    refine lv_iload_n hx hb dL_law_18 rfl (lv_at hl 3 rfl) ?_
    refine lv_aload_n hx hb dL_law_19 rfl (lv_at hl 0 rfl) ?_
    refine va_slen hx hb hX hbl hbA hS dL_law_20 ?_
    refine lv_iconst (v := 3) hx hb dL_law_21 (by decide) ?_
    refine lv_isub hx hb dL_law_22 ?_
    refine lv_icmp_gt (tgt := 712) hx hb dL_law_23 (by decide) (fun c1 => ?_) (fun c1 => ?_)
    · refine lv_iconst (v := 1) hx hb dL_law_712 (by decide) ?_
      refine va_forget (fun q hq => hS.2.2 q hq) ?_
      refine W.widen (k := 600000) (n := 7302250) (Nat.le_of_ble_eq_true rfl) (Nat.le_of_ble_eq_true rfl) ?_
      exact lw_ret hx hb hr hlocks dL_law_713
    have hlt : i + 3 ≤ L := law_lt hL hi c1
    have v0 : vp_in (nI i) L := vp_in_nI (by omega) (by omega)
    have v1 : vp_in (nI (i + 1)) L := vp_in_nI (by omega) (by omega)
    have v2 : vp_in (nI (i + 2)) L := vp_in_nI (by omega) (by omega)
    refine lv_aload_n hx hb dL_law_26 rfl (lv_at hl 0 rfl) ?_
    refine lv_iload_n hx hb dL_law_27 rfl (lv_at hl 3 rfl) ?_
    refine va_sld hx hb hX hbl hbA hS v0 dL_law_28 ?_
    refine lv_bipush (v := 31) hx hb dL_law_29 (by decide) ?_
    refine lv_iand hx hb dL_law_31 ?_
    generalize xs (nI i).toNatClampNeg &&& 31 = op
    have E_706 : ∀ (XF : DM) (XN : DM) (XA : DM) (XW : DM) (XP : DM) (XQ : DM) (XO : DM) (XH : HD) (XM : DM), I XF XN XA XW XP XQ XO XH XM → ∀ (H : Heap) (locs : List Loc), va_P g.1 vwCl (w5 g aF aN aA aW aP aQ aO aH aB XF XN XA XW XP XQ XO XH ++ (pM g aM XM)) H → va_D (fun q : Nat => s.heap.size ≤ q) (w5 g aF aN aA aW aP aQ aO aH aB XF XN XA XW XP XQ XO XH ++ (pM g aM XM)) → va_S (fun q : Nat => s.heap.size ≤ q) s.heap H locs → W p l e room_1 s m #[Value.ref b] below meth c H locs 75 8163 (lw_Z below #[Value.ref b] s) (F0 m 706 ls []) := by
      intro XF XN XA XW XP XQ XO XH XM hI H locs hP hD hS
      refine lv_iinc (v := nI (i + 3)) (lv' := [(3, .int (nI (i + 3))), (0, .ref b), (1, .ref (aF 0)), (2, .ref (aM 0))]) hx hb dL_law_706 hl (k := 3) rfl (nI_add i 3) (by decide) rfl (fun ls hl => ?_)
      refine lv_goto (tgt := 18) hx hb dL_law_709 (by decide) ?_
      exact ih (i + 3) hlt (by omega) XF XN XA XW XP XQ XO XH XM hI H locs hP hD hS ls (lv_sub hl [1, 2, 3, 0] rfl)
    by_cases c_0 : op = 0
    · refine lv_tableIn (tgt := 144) (off := 112) hx hb dL_law_32 (by rw [c_0]; decide) (by rw [c_0]; decide) (by rw [c_0]; rfl) (by decide) ?_
      obtain ⟨r, YN, YW, YP, YQ, YH, YM, hf5, hf6, hI⟩ := h_append XF XN XA XW XP XQ XO XH XM (xs (nI (i + 1)).toNatClampNeg) hI
      refine lv_aload_n hx hb dL_law_144 rfl (lv_at hl 1 rfl) ?_
      refine lv_aload_n hx hb dL_law_145 rfl (lv_at hl 0 rfl) ?_
      refine lv_iload_n hx hb dL_law_146 rfl (lv_at hl 3 rfl) ?_
      refine lv_iconst (v := 1) hx hb dL_law_147 (by decide) ?_
      refine lv_iadd hx hb dL_law_148 ?_
      refine lv_as (y := nI (i + 1)) (nI_add i 1).symm ?_
      refine va_sld hx hb hX hbl hbA hS v1 dL_law_149 ?_
      refine wr_i (rest := []) (wc := ((pF g aF (aW 0) (aN 0) (aA 0) (aH 0) (aO 0) XF ++ (pS g aN (aW 0) XN ++ (pW g aW (aP 0) (aQ 0) XW ++ (pP g aP XP ++ (pP g aQ XQ ++ (pH g aH aB (aW 0) XH)))))))) (wc' := ((pF g aF (aW 0) (aN 0) (aA 0) (aH 0) (aO 0) XF ++ (pS g aN (aW 0) YN ++ (pW g aW (aP 0) (aQ 0) YW ++ (pP g aP YP ++ (pP g aQ YQ ++ (pH g aH aB (aW 0) YH)))))))) (ws2 := (w5 g aF aN aA aW aP aQ aO aH aB XF YN XA YW YP YQ XO YH ++ (pM g aM XM))) hP hD hS hA [0, 1, 2, 3, 4, 5, 6, 7, 8, 16, 17, 18, 19, 20, 21, 22, 23, 24, 25, 26, 27, 28, 29, 30, 33, 34, 35, 36, 37, 38, 39, 40, 41, 42, 43, 44, 45, 46, 47, 48, 49, 50, 51, 52, 53, 54, 55, 56, 57, 58, 59, 60, 61, 62] rfl rfl (by rfl) (rnV (As := [.int (xs (nI (i + 1)).toNatClampNeg)]) ⟨hx, hb, hml, hown, hts⟩ (c_X5_append l g aF aN aA aW aP aQ aO aH aB _ n _ _ _ _ _ _ _ _ _ _ _ _ _ hf5) (cwV 1 hts gL_law_X5_append rfl rfl rfl (by decide +kernel) ⟨Nat.le_of_ble_eq_true rfl, Nat.le_of_ble_eq_true rfl⟩) hKW hP hD [0, 1, 2, 3, 4, 5, 6, 7, 8, 16, 17, 18, 19, 20, 21, 22, 23, 24, 25, 26, 27, 28, 29, 30, 33, 34, 35, 36, 37, 38, 39, 40, 41, 42, 43, 44, 45, 46, 47, 48, 49, 50, 51, 52, 53, 54, 55, 56, 57, 58, 59, 60, 61, 62] (by decide) rfl (va_recv hK hP (ci := 5) (q0 := 0) rfl rfl) rfl hl.1 rfl (lv_room (Nat.le_of_ble_eq_true rfl)) dL_law_150 ⟨Nat.le_of_ble_eq_true rfl, Nat.le_of_ble_eq_true rfl⟩) (fun rX5 H locs hrX5 hP hD hS => ?_)
      obtain ⟨hrX5, -⟩ := hrX5
      refine lv_as hrX5.symm ?_
      refine lv_aload_n hx hb dL_law_153 rfl (lv_at hl 2 rfl) ?_
      refine lv_aload_n hx hb dL_law_154 rfl (lv_at hl 0 rfl) ?_
      refine lv_iload_n hx hb dL_law_155 rfl (lv_at hl 3 rfl) ?_
      refine lv_iconst (v := 1) hx hb dL_law_156 (by decide) ?_
      refine lv_iadd hx hb dL_law_157 ?_
      refine lv_as (y := nI (i + 1)) (nI_add i 1).symm ?_
      refine va_sld hx hb hX hbl hbA hS v1 dL_law_158 ?_
      refine wr_i (rest := [.int r]) (wc := (pM g aM XM)) (wc' := (pM g aM YM)) (ws2 := (w5 g aF aN aA aW aP aQ aO aH aB XF YN XA YW YP YQ XO YH ++ (pM g aM YM))) hP hD hS hA [63, 64, 65, 66, 67, 68, 69, 70, 71, 72, 73, 74] rfl rfl (by rfl) (rnV (As := [.int (xs (nI (i + 1)).toNatClampNeg)]) ⟨hx, hb, hml, hown, hts⟩ (c_X6_append l g aM _ n _ _ _ _ hf6) (cwV 1 hts gL_law_X6_append rfl rfl rfl (by decide +kernel) ⟨Nat.le_of_ble_eq_true rfl, Nat.le_of_ble_eq_true rfl⟩) hKW hP hD [63, 64, 65, 66, 67, 68, 69, 70, 71, 72, 73, 74] (by decide) rfl (va_recv hK hP (ci := 6) (q0 := 63) rfl rfl) rfl hl.1 rfl (lv_room (Nat.le_of_ble_eq_true rfl)) dL_law_159 ⟨Nat.le_of_ble_eq_true rfl, Nat.le_of_ble_eq_true rfl⟩) (fun rX6 H locs hrX6 hP hD hS => ?_)
      obtain ⟨hrX6, -⟩ := hrX6
      refine lv_as hrX6.symm ?_
      refine lv_icmp_eq (tgt := 706) hx hb dL_law_162 (by decide) (fun _ => ?_) (fun c => absurd rfl c)
      exact E_706 XF YN XA YW YP YQ XO YH YM hI _ _ hP hD hS
    have q_0 := i32_nk (z := 0) (by decide) c_0
    by_cases c_1 : op = 1
    · refine lv_tableIn (tgt := 167) (off := 135) hx hb dL_law_32 (by rw [c_1]; decide) (by rw [c_1]; decide) (by rw [c_1]; rfl) (by decide) ?_
      obtain ⟨r, YN, YW, YP, YQ, YH, YM, hf5, hf6, hI⟩ := h_cut XF XN XA XW XP XQ XO XH XM (xs (nI (i + 1)).toNatClampNeg) hI
      refine lv_aload_n hx hb dL_law_167 rfl (lv_at hl 1 rfl) ?_
      refine lv_aload_n hx hb dL_law_168 rfl (lv_at hl 0 rfl) ?_
      refine lv_iload_n hx hb dL_law_169 rfl (lv_at hl 3 rfl) ?_
      refine lv_iconst (v := 1) hx hb dL_law_170 (by decide) ?_
      refine lv_iadd hx hb dL_law_171 ?_
      refine lv_as (y := nI (i + 1)) (nI_add i 1).symm ?_
      refine va_sld hx hb hX hbl hbA hS v1 dL_law_172 ?_
      refine wr_i (rest := []) (wc := ((pF g aF (aW 0) (aN 0) (aA 0) (aH 0) (aO 0) XF ++ (pS g aN (aW 0) XN ++ (pW g aW (aP 0) (aQ 0) XW ++ (pP g aP XP ++ (pP g aQ XQ ++ (pH g aH aB (aW 0) XH)))))))) (wc' := ((pF g aF (aW 0) (aN 0) (aA 0) (aH 0) (aO 0) XF ++ (pS g aN (aW 0) YN ++ (pW g aW (aP 0) (aQ 0) YW ++ (pP g aP YP ++ (pP g aQ YQ ++ (pH g aH aB (aW 0) YH)))))))) (ws2 := (w5 g aF aN aA aW aP aQ aO aH aB XF YN XA YW YP YQ XO YH ++ (pM g aM XM))) hP hD hS hA [0, 1, 2, 3, 4, 5, 6, 7, 8, 16, 17, 18, 19, 20, 21, 22, 23, 24, 25, 26, 27, 28, 29, 30, 33, 34, 35, 36, 37, 38, 39, 40, 41, 42, 43, 44, 45, 46, 47, 48, 49, 50, 51, 52, 53, 54, 55, 56, 57, 58, 59, 60, 61, 62] rfl rfl (by rfl) (rnV (As := [.int (xs (nI (i + 1)).toNatClampNeg)]) ⟨hx, hb, hml, hown, hts⟩ (c_X5_cut l g aF aN aA aW aP aQ aO aH aB _ n _ _ _ _ _ _ _ _ _ _ _ _ _ hf5) (cwV 1 hts gL_law_X5_cut rfl rfl rfl (by decide +kernel) ⟨Nat.le_of_ble_eq_true rfl, Nat.le_of_ble_eq_true rfl⟩) hKW hP hD [0, 1, 2, 3, 4, 5, 6, 7, 8, 16, 17, 18, 19, 20, 21, 22, 23, 24, 25, 26, 27, 28, 29, 30, 33, 34, 35, 36, 37, 38, 39, 40, 41, 42, 43, 44, 45, 46, 47, 48, 49, 50, 51, 52, 53, 54, 55, 56, 57, 58, 59, 60, 61, 62] (by decide) rfl (va_recv hK hP (ci := 5) (q0 := 0) rfl rfl) rfl hl.1 rfl (lv_room (Nat.le_of_ble_eq_true rfl)) dL_law_173 ⟨Nat.le_of_ble_eq_true rfl, Nat.le_of_ble_eq_true rfl⟩) (fun rX5 H locs hrX5 hP hD hS => ?_)
      obtain ⟨hrX5, -⟩ := hrX5
      refine lv_as hrX5.symm ?_
      refine lv_aload_n hx hb dL_law_176 rfl (lv_at hl 2 rfl) ?_
      refine lv_aload_n hx hb dL_law_177 rfl (lv_at hl 0 rfl) ?_
      refine lv_iload_n hx hb dL_law_178 rfl (lv_at hl 3 rfl) ?_
      refine lv_iconst (v := 1) hx hb dL_law_179 (by decide) ?_
      refine lv_iadd hx hb dL_law_180 ?_
      refine lv_as (y := nI (i + 1)) (nI_add i 1).symm ?_
      refine va_sld hx hb hX hbl hbA hS v1 dL_law_181 ?_
      refine wr_i (rest := [.int r]) (wc := (pM g aM XM)) (wc' := (pM g aM YM)) (ws2 := (w5 g aF aN aA aW aP aQ aO aH aB XF YN XA YW YP YQ XO YH ++ (pM g aM YM))) hP hD hS hA [63, 64, 65, 66, 67, 68, 69, 70, 71, 72, 73, 74] rfl rfl (by rfl) (rnV (As := [.int (xs (nI (i + 1)).toNatClampNeg)]) ⟨hx, hb, hml, hown, hts⟩ (c_X6_cut l g aM _ n _ _ _ _ hf6) (cwV 1 hts gL_law_X6_cut rfl rfl rfl (by decide +kernel) ⟨Nat.le_of_ble_eq_true rfl, Nat.le_of_ble_eq_true rfl⟩) hKW hP hD [63, 64, 65, 66, 67, 68, 69, 70, 71, 72, 73, 74] (by decide) rfl (va_recv hK hP (ci := 6) (q0 := 63) rfl rfl) rfl hl.1 rfl (lv_room (Nat.le_of_ble_eq_true rfl)) dL_law_182 ⟨Nat.le_of_ble_eq_true rfl, Nat.le_of_ble_eq_true rfl⟩) (fun rX6 H locs hrX6 hP hD hS => ?_)
      obtain ⟨hrX6, -⟩ := hrX6
      refine lv_as hrX6.symm ?_
      refine lv_icmp_eq (tgt := 706) hx hb dL_law_185 (by decide) (fun _ => ?_) (fun c => absurd rfl c)
      exact E_706 XF YN XA YW YP YQ XO YH YM hI _ _ hP hD hS
    have q_1 := i32_nk (z := 1) (by decide) c_1
    by_cases c_2 : op = 2
    · refine lv_tableIn (tgt := 190) (off := 158) hx hb dL_law_32 (by rw [c_2]; decide) (by rw [c_2]; decide) (by rw [c_2]; rfl) (by decide) ?_
      obtain ⟨r, hf5, hf6, hI⟩ := h_word XF XN XA XW XP XQ XO XH XM (xs (nI (i + 1)).toNatClampNeg) (xs (nI (i + 2)).toNatClampNeg) hI
      refine lv_aload_n hx hb dL_law_190 rfl (lv_at hl 1 rfl) ?_
      refine lv_aload_n hx hb dL_law_191 rfl (lv_at hl 0 rfl) ?_
      refine lv_iload_n hx hb dL_law_192 rfl (lv_at hl 3 rfl) ?_
      refine lv_iconst (v := 1) hx hb dL_law_193 (by decide) ?_
      refine lv_iadd hx hb dL_law_194 ?_
      refine lv_as (y := nI (i + 1)) (nI_add i 1).symm ?_
      refine va_sld hx hb hX hbl hbA hS v1 dL_law_195 ?_
      refine lv_aload_n hx hb dL_law_196 rfl (lv_at hl 0 rfl) ?_
      refine lv_iload_n hx hb dL_law_197 rfl (lv_at hl 3 rfl) ?_
      refine lv_iconst (v := 2) hx hb dL_law_198 (by decide) ?_
      refine lv_iadd hx hb dL_law_199 ?_
      refine lv_as (y := nI (i + 2)) (nI_add i 2).symm ?_
      refine va_sld hx hb hX hbl hbA hS v2 dL_law_200 ?_
      refine rdV (As := [.int (xs (nI (i + 1)).toNatClampNeg), .int (xs (nI (i + 2)).toNatClampNeg)]) (rest := []) ⟨hx, hb, hml, hown, hts⟩ (c_X5_word l g aF aN aA aW aP aQ aO aH aB _ _ _ _ _ _ _ _ hf5) (cwV 2 hts gL_law_X5_word rfl rfl rfl (by decide +kernel) ⟨Nat.le_of_ble_eq_true rfl, Nat.le_of_ble_eq_true rfl⟩) hKW hP [0, 1, 2, 3, 4, 5, 6, 7, 8, 16, 17, 18, 19, 20, 21, 22, 23, 24, 25, 26, 27, 28, 29, 30] rfl (va_recv hK hP (ci := 5) (q0 := 0) rfl rfl) rfl hl.1 rfl (lv_room (Nat.le_of_ble_eq_true rfl)) dL_law_201 ⟨Nat.le_of_ble_eq_true rfl, Nat.le_of_ble_eq_true rfl⟩ (fun rX5 hrX5 => ?_)
      obtain ⟨hrX5, -⟩ := hrX5
      refine lv_as hrX5.symm ?_
      refine lv_aload_n hx hb dL_law_204 rfl (lv_at hl 2 rfl) ?_
      refine lv_aload_n hx hb dL_law_205 rfl (lv_at hl 0 rfl) ?_
      refine lv_iload_n hx hb dL_law_206 rfl (lv_at hl 3 rfl) ?_
      refine lv_iconst (v := 1) hx hb dL_law_207 (by decide) ?_
      refine lv_iadd hx hb dL_law_208 ?_
      refine lv_as (y := nI (i + 1)) (nI_add i 1).symm ?_
      refine va_sld hx hb hX hbl hbA hS v1 dL_law_209 ?_
      refine lv_aload_n hx hb dL_law_210 rfl (lv_at hl 0 rfl) ?_
      refine lv_iload_n hx hb dL_law_211 rfl (lv_at hl 3 rfl) ?_
      refine lv_iconst (v := 2) hx hb dL_law_212 (by decide) ?_
      refine lv_iadd hx hb dL_law_213 ?_
      refine lv_as (y := nI (i + 2)) (nI_add i 2).symm ?_
      refine va_sld hx hb hX hbl hbA hS v2 dL_law_214 ?_
      refine rdV (As := [.int (xs (nI (i + 1)).toNatClampNeg), .int (xs (nI (i + 2)).toNatClampNeg)]) (rest := [.int r]) ⟨hx, hb, hml, hown, hts⟩ (c_X6_word l g aM n _ _ _ _ hf6) (cwV 2 hts gL_law_X6_word rfl rfl rfl (by decide +kernel) ⟨Nat.le_of_ble_eq_true rfl, Nat.le_of_ble_eq_true rfl⟩) hKW hP [63, 64, 65, 66, 67, 68, 69, 70, 71, 72, 73, 74] rfl (va_recv hK hP (ci := 6) (q0 := 63) rfl rfl) rfl hl.1 rfl (lv_room (Nat.le_of_ble_eq_true rfl)) dL_law_215 ⟨Nat.le_of_ble_eq_true rfl, Nat.le_of_ble_eq_true rfl⟩ (fun rX6 hrX6 => ?_)
      obtain ⟨hrX6, -⟩ := hrX6
      refine lv_as hrX6.symm ?_
      refine lv_icmp_eq (tgt := 706) hx hb dL_law_218 (by decide) (fun _ => ?_) (fun c => absurd rfl c)
      exact E_706 XF XN XA XW XP XQ XO XH XM hI _ _ hP hD hS
    have q_2 := i32_nk (z := 2) (by decide) c_2
    by_cases c_3 : op = 3
    · refine lv_tableIn (tgt := 223) (off := 191) hx hb dL_law_32 (by rw [c_3]; decide) (by rw [c_3]; decide) (by rw [c_3]; rfl) (by decide) ?_
      obtain ⟨r, hf5, hf6, hI⟩ := h_sentence XF XN XA XW XP XQ XO XH XM (xs (nI (i + 1)).toNatClampNeg) (xs (nI (i + 2)).toNatClampNeg) hI
      refine lv_aload_n hx hb dL_law_223 rfl (lv_at hl 1 rfl) ?_
      refine lv_aload_n hx hb dL_law_224 rfl (lv_at hl 0 rfl) ?_
      refine lv_iload_n hx hb dL_law_225 rfl (lv_at hl 3 rfl) ?_
      refine lv_iconst (v := 1) hx hb dL_law_226 (by decide) ?_
      refine lv_iadd hx hb dL_law_227 ?_
      refine lv_as (y := nI (i + 1)) (nI_add i 1).symm ?_
      refine va_sld hx hb hX hbl hbA hS v1 dL_law_228 ?_
      refine lv_aload_n hx hb dL_law_229 rfl (lv_at hl 0 rfl) ?_
      refine lv_iload_n hx hb dL_law_230 rfl (lv_at hl 3 rfl) ?_
      refine lv_iconst (v := 2) hx hb dL_law_231 (by decide) ?_
      refine lv_iadd hx hb dL_law_232 ?_
      refine lv_as (y := nI (i + 2)) (nI_add i 2).symm ?_
      refine va_sld hx hb hX hbl hbA hS v2 dL_law_233 ?_
      refine rdV (As := [.int (xs (nI (i + 1)).toNatClampNeg), .int (xs (nI (i + 2)).toNatClampNeg)]) (rest := []) ⟨hx, hb, hml, hown, hts⟩ (c_X5_sentence l g aF aN aA aW aP aQ aO aH aB n _ _ _ _ _ _ _ hf5) (cwV 2 hts gL_law_X5_sentence rfl rfl rfl (by decide +kernel) ⟨Nat.le_of_ble_eq_true rfl, Nat.le_of_ble_eq_true rfl⟩) hKW hP [0, 1, 2, 3, 4, 5, 6, 7, 8, 16, 17, 18, 19, 20, 21, 22, 23, 24, 25, 26] rfl (va_recv hK hP (ci := 5) (q0 := 0) rfl rfl) rfl hl.1 rfl (lv_room (Nat.le_of_ble_eq_true rfl)) dL_law_234 ⟨Nat.le_of_ble_eq_true rfl, Nat.le_of_ble_eq_true rfl⟩ (fun rX5 hrX5 => ?_)
      obtain ⟨hrX5, -⟩ := hrX5
      refine lv_as hrX5.symm ?_
      refine lv_aload_n hx hb dL_law_237 rfl (lv_at hl 2 rfl) ?_
      refine lv_aload_n hx hb dL_law_238 rfl (lv_at hl 0 rfl) ?_
      refine lv_iload_n hx hb dL_law_239 rfl (lv_at hl 3 rfl) ?_
      refine lv_iconst (v := 1) hx hb dL_law_240 (by decide) ?_
      refine lv_iadd hx hb dL_law_241 ?_
      refine lv_as (y := nI (i + 1)) (nI_add i 1).symm ?_
      refine va_sld hx hb hX hbl hbA hS v1 dL_law_242 ?_
      refine lv_aload_n hx hb dL_law_243 rfl (lv_at hl 0 rfl) ?_
      refine lv_iload_n hx hb dL_law_244 rfl (lv_at hl 3 rfl) ?_
      refine lv_iconst (v := 2) hx hb dL_law_245 (by decide) ?_
      refine lv_iadd hx hb dL_law_246 ?_
      refine lv_as (y := nI (i + 2)) (nI_add i 2).symm ?_
      refine va_sld hx hb hX hbl hbA hS v2 dL_law_247 ?_
      refine rdV (As := [.int (xs (nI (i + 1)).toNatClampNeg), .int (xs (nI (i + 2)).toNatClampNeg)]) (rest := [.int r]) ⟨hx, hb, hml, hown, hts⟩ (c_X6_sentence l g aM n _ _ _ _ hf6) (cwV 2 hts gL_law_X6_sentence rfl rfl rfl (by decide +kernel) ⟨Nat.le_of_ble_eq_true rfl, Nat.le_of_ble_eq_true rfl⟩) hKW hP [63, 64, 65, 66, 67, 68, 69, 70, 71, 72, 73, 74] rfl (va_recv hK hP (ci := 6) (q0 := 63) rfl rfl) rfl hl.1 rfl (lv_room (Nat.le_of_ble_eq_true rfl)) dL_law_248 ⟨Nat.le_of_ble_eq_true rfl, Nat.le_of_ble_eq_true rfl⟩ (fun rX6 hrX6 => ?_)
      obtain ⟨hrX6, -⟩ := hrX6
      refine lv_as hrX6.symm ?_
      refine lv_icmp_eq (tgt := 706) hx hb dL_law_251 (by decide) (fun _ => ?_) (fun c => absurd rfl c)
      exact E_706 XF XN XA XW XP XQ XO XH XM hI _ _ hP hD hS
    have q_3 := i32_nk (z := 3) (by decide) c_3
    by_cases c_4 : op = 4
    · refine lv_tableIn (tgt := 256) (off := 224) hx hb dL_law_32 (by rw [c_4]; decide) (by rw [c_4]; decide) (by rw [c_4]; rfl) (by decide) ?_
      obtain ⟨r, hf5, hf6, hI⟩ := h_page XF XN XA XW XP XQ XO XH XM (xs (nI (i + 1)).toNatClampNeg) (xs (nI (i + 2)).toNatClampNeg) hI
      refine lv_aload_n hx hb dL_law_256 rfl (lv_at hl 1 rfl) ?_
      refine lv_aload_n hx hb dL_law_257 rfl (lv_at hl 0 rfl) ?_
      refine lv_iload_n hx hb dL_law_258 rfl (lv_at hl 3 rfl) ?_
      refine lv_iconst (v := 1) hx hb dL_law_259 (by decide) ?_
      refine lv_iadd hx hb dL_law_260 ?_
      refine lv_as (y := nI (i + 1)) (nI_add i 1).symm ?_
      refine va_sld hx hb hX hbl hbA hS v1 dL_law_261 ?_
      refine lv_aload_n hx hb dL_law_262 rfl (lv_at hl 0 rfl) ?_
      refine lv_iload_n hx hb dL_law_263 rfl (lv_at hl 3 rfl) ?_
      refine lv_iconst (v := 2) hx hb dL_law_264 (by decide) ?_
      refine lv_iadd hx hb dL_law_265 ?_
      refine lv_as (y := nI (i + 2)) (nI_add i 2).symm ?_
      refine va_sld hx hb hX hbl hbA hS v2 dL_law_266 ?_
      refine rdV (As := [.int (xs (nI (i + 1)).toNatClampNeg), .int (xs (nI (i + 2)).toNatClampNeg)]) (rest := []) ⟨hx, hb, hml, hown, hts⟩ (c_X5_page l g aF aN aA aW aP aQ aO aH aB n _ _ _ _ _ _ _ _ hf5) (cwV 2 hts gL_law_X5_page rfl rfl rfl (by decide +kernel) ⟨Nat.le_of_ble_eq_true rfl, Nat.le_of_ble_eq_true rfl⟩) hKW hP [0, 1, 2, 3, 4, 5, 6, 7, 8, 16, 17, 18, 19, 20, 21, 22, 23, 24, 25, 26, 27, 28, 29, 30] rfl (va_recv hK hP (ci := 5) (q0 := 0) rfl rfl) rfl hl.1 rfl (lv_room (Nat.le_of_ble_eq_true rfl)) dL_law_267 ⟨Nat.le_of_ble_eq_true rfl, Nat.le_of_ble_eq_true rfl⟩ (fun rX5 hrX5 => ?_)
      obtain ⟨hrX5, -⟩ := hrX5
      refine lv_as hrX5.symm ?_
      refine lv_aload_n hx hb dL_law_270 rfl (lv_at hl 2 rfl) ?_
      refine lv_aload_n hx hb dL_law_271 rfl (lv_at hl 0 rfl) ?_
      refine lv_iload_n hx hb dL_law_272 rfl (lv_at hl 3 rfl) ?_
      refine lv_iconst (v := 1) hx hb dL_law_273 (by decide) ?_
      refine lv_iadd hx hb dL_law_274 ?_
      refine lv_as (y := nI (i + 1)) (nI_add i 1).symm ?_
      refine va_sld hx hb hX hbl hbA hS v1 dL_law_275 ?_
      refine lv_aload_n hx hb dL_law_276 rfl (lv_at hl 0 rfl) ?_
      refine lv_iload_n hx hb dL_law_277 rfl (lv_at hl 3 rfl) ?_
      refine lv_iconst (v := 2) hx hb dL_law_278 (by decide) ?_
      refine lv_iadd hx hb dL_law_279 ?_
      refine lv_as (y := nI (i + 2)) (nI_add i 2).symm ?_
      refine va_sld hx hb hX hbl hbA hS v2 dL_law_280 ?_
      refine rdV (As := [.int (xs (nI (i + 1)).toNatClampNeg), .int (xs (nI (i + 2)).toNatClampNeg)]) (rest := [.int r]) ⟨hx, hb, hml, hown, hts⟩ (c_X6_page l g aM n _ _ _ _ hf6) (cwV 2 hts gL_law_X6_page rfl rfl rfl (by decide +kernel) ⟨Nat.le_of_ble_eq_true rfl, Nat.le_of_ble_eq_true rfl⟩) hKW hP [63, 64, 65, 66, 67, 68, 69, 70, 71, 72, 73, 74] rfl (va_recv hK hP (ci := 6) (q0 := 63) rfl rfl) rfl hl.1 rfl (lv_room (Nat.le_of_ble_eq_true rfl)) dL_law_281 ⟨Nat.le_of_ble_eq_true rfl, Nat.le_of_ble_eq_true rfl⟩ (fun rX6 hrX6 => ?_)
      obtain ⟨hrX6, -⟩ := hrX6
      refine lv_as hrX6.symm ?_
      refine lv_icmp_eq (tgt := 706) hx hb dL_law_284 (by decide) (fun _ => ?_) (fun c => absurd rfl c)
      exact E_706 XF XN XA XW XP XQ XO XH XM hI _ _ hP hD hS
    have q_4 := i32_nk (z := 4) (by decide) c_4
    by_cases c_5 : op = 5
    · refine lv_tableIn (tgt := 289) (off := 257) hx hb dL_law_32 (by rw [c_5]; decide) (by rw [c_5]; decide) (by rw [c_5]; rfl) (by decide) ?_
      obtain ⟨r, hf5, hf6, hI⟩ := h_count XF XN XA XW XP XQ XO XH XM (xs (nI (i + 1)).toNatClampNeg) hI
      refine lv_aload_n hx hb dL_law_289 rfl (lv_at hl 1 rfl) ?_
      refine lv_aload_n hx hb dL_law_290 rfl (lv_at hl 0 rfl) ?_
      refine lv_iload_n hx hb dL_law_291 rfl (lv_at hl 3 rfl) ?_
      refine lv_iconst (v := 1) hx hb dL_law_292 (by decide) ?_
      refine lv_iadd hx hb dL_law_293 ?_
      refine lv_as (y := nI (i + 1)) (nI_add i 1).symm ?_
      refine va_sld hx hb hX hbl hbA hS v1 dL_law_294 ?_
      refine rdV (As := [.int (xs (nI (i + 1)).toNatClampNeg)]) (rest := []) ⟨hx, hb, hml, hown, hts⟩ (c_X5_count l g aF aN aA aW aP aQ aO aH aB n _ _ _ _ _ _ _ _ _ hf5) (cwV 1 hts gL_law_X5_count rfl rfl rfl (by decide +kernel) ⟨Nat.le_of_ble_eq_true rfl, Nat.le_of_ble_eq_true rfl⟩) hKW hP [0, 1, 2, 3, 4, 5, 6, 7, 8, 16, 17, 18, 19, 20, 21, 22, 23, 24, 25, 26, 27, 28, 29, 30, 31, 32, 33, 34, 35, 36, 37, 38, 39, 40, 41, 42, 43, 44, 45, 46, 47, 48, 49, 50, 51, 52, 53, 54, 55, 56, 57, 58, 59, 60, 61, 62] rfl (va_recv hK hP (ci := 5) (q0 := 0) rfl rfl) rfl hl.1 rfl (lv_room (Nat.le_of_ble_eq_true rfl)) dL_law_295 ⟨Nat.le_of_ble_eq_true rfl, Nat.le_of_ble_eq_true rfl⟩ (fun rX5 hrX5 => ?_)
      obtain ⟨hrX5, -⟩ := hrX5
      refine lv_as hrX5.symm ?_
      refine lv_aload_n hx hb dL_law_298 rfl (lv_at hl 2 rfl) ?_
      refine lv_aload_n hx hb dL_law_299 rfl (lv_at hl 0 rfl) ?_
      refine lv_iload_n hx hb dL_law_300 rfl (lv_at hl 3 rfl) ?_
      refine lv_iconst (v := 1) hx hb dL_law_301 (by decide) ?_
      refine lv_iadd hx hb dL_law_302 ?_
      refine lv_as (y := nI (i + 1)) (nI_add i 1).symm ?_
      refine va_sld hx hb hX hbl hbA hS v1 dL_law_303 ?_
      refine rdV (As := [.int (xs (nI (i + 1)).toNatClampNeg)]) (rest := [.int r]) ⟨hx, hb, hml, hown, hts⟩ (c_X6_count l g aM n _ _ _ hf6) (cwV 1 hts gL_law_X6_count rfl rfl rfl (by decide +kernel) ⟨Nat.le_of_ble_eq_true rfl, Nat.le_of_ble_eq_true rfl⟩) hKW hP [63, 64, 65, 66, 67, 68, 69, 70, 71, 72, 73, 74] rfl (va_recv hK hP (ci := 6) (q0 := 63) rfl rfl) rfl hl.1 rfl (lv_room (Nat.le_of_ble_eq_true rfl)) dL_law_304 ⟨Nat.le_of_ble_eq_true rfl, Nat.le_of_ble_eq_true rfl⟩ (fun rX6 hrX6 => ?_)
      obtain ⟨hrX6, -⟩ := hrX6
      refine lv_as hrX6.symm ?_
      refine lv_icmp_eq (tgt := 706) hx hb dL_law_307 (by decide) (fun _ => ?_) (fun c => absurd rfl c)
      exact E_706 XF XN XA XW XP XQ XO XH XM hI _ _ hP hD hS
    have q_5 := i32_nk (z := 5) (by decide) c_5
    by_cases c_6 : op = 6
    · refine lv_tableIn (tgt := 312) (off := 280) hx hb dL_law_32 (by rw [c_6]; decide) (by rw [c_6]; decide) (by rw [c_6]; rfl) (by decide) ?_
      obtain ⟨r, YN, YH, YM, hf5, hf6, hI⟩ := h_set XF XN XA XW XP XQ XO XH XM (xs (nI (i + 1)).toNatClampNeg) (xs (nI (i + 2)).toNatClampNeg) hI
      refine lv_aload_n hx hb dL_law_312 rfl (lv_at hl 1 rfl) ?_
      refine lv_aload_n hx hb dL_law_313 rfl (lv_at hl 0 rfl) ?_
      refine lv_iload_n hx hb dL_law_314 rfl (lv_at hl 3 rfl) ?_
      refine lv_iconst (v := 1) hx hb dL_law_315 (by decide) ?_
      refine lv_iadd hx hb dL_law_316 ?_
      refine lv_as (y := nI (i + 1)) (nI_add i 1).symm ?_
      refine va_sld hx hb hX hbl hbA hS v1 dL_law_317 ?_
      refine lv_aload_n hx hb dL_law_318 rfl (lv_at hl 0 rfl) ?_
      refine lv_iload_n hx hb dL_law_319 rfl (lv_at hl 3 rfl) ?_
      refine lv_iconst (v := 2) hx hb dL_law_320 (by decide) ?_
      refine lv_iadd hx hb dL_law_321 ?_
      refine lv_as (y := nI (i + 2)) (nI_add i 2).symm ?_
      refine va_sld hx hb hX hbl hbA hS v2 dL_law_322 ?_
      refine wr_i (rest := []) (wc := ((pF g aF (aW 0) (aN 0) (aA 0) (aH 0) (aO 0) XF ++ (pS g aN (aW 0) XN ++ (pH g aH aB (aW 0) XH))))) (wc' := ((pF g aF (aW 0) (aN 0) (aA 0) (aH 0) (aO 0) XF ++ (pS g aN (aW 0) YN ++ (pH g aH aB (aW 0) YH))))) (ws2 := (w5 g aF aN aA aW aP aQ aO aH aB XF YN XA XW XP XQ XO YH ++ (pM g aM XM))) hP hD hS hA [0, 1, 2, 3, 4, 5, 6, 7, 8, 33, 34, 35, 36, 37, 38, 39, 40, 41, 42, 43, 44, 45, 46, 47, 48, 49, 50, 51, 52, 53, 54, 55, 56, 57, 58, 59, 60, 61, 62] rfl rfl (by rfl) (rnVE (As := [.int (xs (nI (i + 1)).toNatClampNeg), .int (xs (nI (i + 2)).toNatClampNeg)]) (E := fun U => STA (va_A ((pF g aF (aW 0) (aN 0) (aA 0) (aH 0) (aO 0) XF ++ (pS g aN (aW 0) XN ++ (pH g aH aB (aW 0) XH)))) H.size) tL tH U) (fun a U gf mk h => STA.calling a U gf mk h) ⟨hx, hb, hml, hown, hts⟩ (c_X5_set l g aF aN aA aW aP aQ aO aH aB _ tL tH _ _ _ _ _ _ _ _ hf5) (cwV 2 hts gL_law_X5_set rfl rfl rfl (by decide +kernel) ⟨Nat.le_of_ble_eq_true rfl, Nat.le_of_ble_eq_true rfl⟩) hKW hP hD [0, 1, 2, 3, 4, 5, 6, 7, 8, 33, 34, 35, 36, 37, 38, 39, 40, 41, 42, 43, 44, 45, 46, 47, 48, 49, 50, 51, 52, 53, 54, 55, 56, 57, 58, 59, 60, 61, 62] (by decide) rfl (hST.at hS (va_free hD hS hA [0, 1, 2, 3, 4, 5, 6, 7, 8, 33, 34, 35, 36, 37, 38, 39, 40, 41, 42, 43, 44, 45, 46, 47, 48, 49, 50, 51, 52, 53, 54, 55, 56, 57, 58, 59, 60, 61, 62] (wc := ((pF g aF (aW 0) (aN 0) (aA 0) (aH 0) (aO 0) XF ++ (pS g aN (aW 0) XN ++ (pH g aH aB (aW 0) XH))))) rfl)) (va_recv hK hP (ci := 5) (q0 := 0) rfl rfl) rfl hl.1 rfl (lv_room (Nat.le_of_ble_eq_true rfl)) dL_law_323 ⟨Nat.le_of_ble_eq_true rfl, Nat.le_of_ble_eq_true rfl⟩) (fun rX5 H locs hrX5 hP hD hS => ?_)
      obtain ⟨hrX5, -⟩ := hrX5
      refine lv_as hrX5.symm ?_
      refine lv_aload_n hx hb dL_law_326 rfl (lv_at hl 2 rfl) ?_
      refine lv_aload_n hx hb dL_law_327 rfl (lv_at hl 0 rfl) ?_
      refine lv_iload_n hx hb dL_law_328 rfl (lv_at hl 3 rfl) ?_
      refine lv_iconst (v := 1) hx hb dL_law_329 (by decide) ?_
      refine lv_iadd hx hb dL_law_330 ?_
      refine lv_as (y := nI (i + 1)) (nI_add i 1).symm ?_
      refine va_sld hx hb hX hbl hbA hS v1 dL_law_331 ?_
      refine lv_aload_n hx hb dL_law_332 rfl (lv_at hl 0 rfl) ?_
      refine lv_iload_n hx hb dL_law_333 rfl (lv_at hl 3 rfl) ?_
      refine lv_iconst (v := 2) hx hb dL_law_334 (by decide) ?_
      refine lv_iadd hx hb dL_law_335 ?_
      refine lv_as (y := nI (i + 2)) (nI_add i 2).symm ?_
      refine va_sld hx hb hX hbl hbA hS v2 dL_law_336 ?_
      refine wr_i (rest := [.int r]) (wc := (pM g aM XM)) (wc' := (pM g aM YM)) (ws2 := (w5 g aF aN aA aW aP aQ aO aH aB XF YN XA XW XP XQ XO YH ++ (pM g aM YM))) hP hD hS hA [63, 64, 65, 66, 67, 68, 69, 70, 71, 72, 73, 74] rfl rfl (by rfl) (rnV (As := [.int (xs (nI (i + 1)).toNatClampNeg), .int (xs (nI (i + 2)).toNatClampNeg)]) ⟨hx, hb, hml, hown, hts⟩ (c_X6_set l g aM _ n _ _ _ _ _ hf6) (cwV 2 hts gL_law_X6_set rfl rfl rfl (by decide +kernel) ⟨Nat.le_of_ble_eq_true rfl, Nat.le_of_ble_eq_true rfl⟩) hKW hP hD [63, 64, 65, 66, 67, 68, 69, 70, 71, 72, 73, 74] (by decide) rfl (va_recv hK hP (ci := 6) (q0 := 63) rfl rfl) rfl hl.1 rfl (lv_room (Nat.le_of_ble_eq_true rfl)) dL_law_337 ⟨Nat.le_of_ble_eq_true rfl, Nat.le_of_ble_eq_true rfl⟩) (fun rX6 H locs hrX6 hP hD hS => ?_)
      obtain ⟨hrX6, -⟩ := hrX6
      refine lv_as hrX6.symm ?_
      refine lv_icmp_eq (tgt := 706) hx hb dL_law_340 (by decide) (fun _ => ?_) (fun c => absurd rfl c)
      exact E_706 XF YN XA XW XP XQ XO YH YM hI _ _ hP hD hS
    have q_6 := i32_nk (z := 6) (by decide) c_6
    by_cases c_7 : op = 7
    · refine lv_tableIn (tgt := 345) (off := 313) hx hb dL_law_32 (by rw [c_7]; decide) (by rw [c_7]; decide) (by rw [c_7]; rfl) (by decide) ?_
      obtain ⟨r, YN, YH, YM, hf5, hf6, hI⟩ := h_speed XF XN XA XW XP XQ XO XH XM (xs (nI (i + 1)).toNatClampNeg) (xs (nI (i + 2)).toNatClampNeg) hI
      refine lv_aload_n hx hb dL_law_345 rfl (lv_at hl 1 rfl) ?_
      refine lv_aload_n hx hb dL_law_346 rfl (lv_at hl 0 rfl) ?_
      refine lv_iload_n hx hb dL_law_347 rfl (lv_at hl 3 rfl) ?_
      refine lv_iconst (v := 1) hx hb dL_law_348 (by decide) ?_
      refine lv_iadd hx hb dL_law_349 ?_
      refine lv_as (y := nI (i + 1)) (nI_add i 1).symm ?_
      refine va_sld hx hb hX hbl hbA hS v1 dL_law_350 ?_
      refine lv_aload_n hx hb dL_law_351 rfl (lv_at hl 0 rfl) ?_
      refine lv_iload_n hx hb dL_law_352 rfl (lv_at hl 3 rfl) ?_
      refine lv_iconst (v := 2) hx hb dL_law_353 (by decide) ?_
      refine lv_iadd hx hb dL_law_354 ?_
      refine lv_as (y := nI (i + 2)) (nI_add i 2).symm ?_
      refine va_sld hx hb hX hbl hbA hS v2 dL_law_355 ?_
      refine wr_i (rest := []) (wc := ((pF g aF (aW 0) (aN 0) (aA 0) (aH 0) (aO 0) XF ++ (pS g aN (aW 0) XN ++ (pH g aH aB (aW 0) XH))))) (wc' := ((pF g aF (aW 0) (aN 0) (aA 0) (aH 0) (aO 0) XF ++ (pS g aN (aW 0) YN ++ (pH g aH aB (aW 0) YH))))) (ws2 := (w5 g aF aN aA aW aP aQ aO aH aB XF YN XA XW XP XQ XO YH ++ (pM g aM XM))) hP hD hS hA [0, 1, 2, 3, 4, 5, 6, 7, 8, 33, 34, 35, 36, 37, 38, 39, 40, 41, 42, 43, 44, 45, 46, 47, 48, 49, 50, 51, 52, 53, 54, 55, 56, 57, 58, 59, 60, 61, 62] rfl rfl (by rfl) (rnV (As := [.int (xs (nI (i + 1)).toNatClampNeg), .int (xs (nI (i + 2)).toNatClampNeg)]) ⟨hx, hb, hml, hown, hts⟩ (c_X5_speed l g aF aN aA aW aP aQ aO aH aB _ _ _ _ _ _ _ _ _ hf5) (cwV 2 hts gL_law_X5_speed rfl rfl rfl (by decide +kernel) ⟨Nat.le_of_ble_eq_true rfl, Nat.le_of_ble_eq_true rfl⟩) hKW hP hD [0, 1, 2, 3, 4, 5, 6, 7, 8, 33, 34, 35, 36, 37, 38, 39, 40, 41, 42, 43, 44, 45, 46, 47, 48, 49, 50, 51, 52, 53, 54, 55, 56, 57, 58, 59, 60, 61, 62] (by decide) rfl (va_recv hK hP (ci := 5) (q0 := 0) rfl rfl) rfl hl.1 rfl (lv_room (Nat.le_of_ble_eq_true rfl)) dL_law_356 ⟨Nat.le_of_ble_eq_true rfl, Nat.le_of_ble_eq_true rfl⟩) (fun rX5 H locs hrX5 hP hD hS => ?_)
      obtain ⟨hrX5, -⟩ := hrX5
      refine lv_as hrX5.symm ?_
      refine lv_aload_n hx hb dL_law_359 rfl (lv_at hl 2 rfl) ?_
      refine lv_aload_n hx hb dL_law_360 rfl (lv_at hl 0 rfl) ?_
      refine lv_iload_n hx hb dL_law_361 rfl (lv_at hl 3 rfl) ?_
      refine lv_iconst (v := 1) hx hb dL_law_362 (by decide) ?_
      refine lv_iadd hx hb dL_law_363 ?_
      refine lv_as (y := nI (i + 1)) (nI_add i 1).symm ?_
      refine va_sld hx hb hX hbl hbA hS v1 dL_law_364 ?_
      refine lv_aload_n hx hb dL_law_365 rfl (lv_at hl 0 rfl) ?_
      refine lv_iload_n hx hb dL_law_366 rfl (lv_at hl 3 rfl) ?_
      refine lv_iconst (v := 2) hx hb dL_law_367 (by decide) ?_
      refine lv_iadd hx hb dL_law_368 ?_
      refine lv_as (y := nI (i + 2)) (nI_add i 2).symm ?_
      refine va_sld hx hb hX hbl hbA hS v2 dL_law_369 ?_
      refine wr_i (rest := [.int r]) (wc := (pM g aM XM)) (wc' := (pM g aM YM)) (ws2 := (w5 g aF aN aA aW aP aQ aO aH aB XF YN XA XW XP XQ XO YH ++ (pM g aM YM))) hP hD hS hA [63, 64, 65, 66, 67, 68, 69, 70, 71, 72, 73, 74] rfl rfl (by rfl) (rnV (As := [.int (xs (nI (i + 1)).toNatClampNeg), .int (xs (nI (i + 2)).toNatClampNeg)]) ⟨hx, hb, hml, hown, hts⟩ (c_X6_speed l g aM _ n _ _ _ _ _ hf6) (cwV 2 hts gL_law_X6_speed rfl rfl rfl (by decide +kernel) ⟨Nat.le_of_ble_eq_true rfl, Nat.le_of_ble_eq_true rfl⟩) hKW hP hD [63, 64, 65, 66, 67, 68, 69, 70, 71, 72, 73, 74] (by decide) rfl (va_recv hK hP (ci := 6) (q0 := 63) rfl rfl) rfl hl.1 rfl (lv_room (Nat.le_of_ble_eq_true rfl)) dL_law_370 ⟨Nat.le_of_ble_eq_true rfl, Nat.le_of_ble_eq_true rfl⟩) (fun rX6 H locs hrX6 hP hD hS => ?_)
      obtain ⟨hrX6, -⟩ := hrX6
      refine lv_as hrX6.symm ?_
      refine lv_icmp_eq (tgt := 706) hx hb dL_law_373 (by decide) (fun _ => ?_) (fun c => absurd rfl c)
      exact E_706 XF YN XA XW XP XQ XO YH YM hI _ _ hP hD hS
    have q_7 := i32_nk (z := 7) (by decide) c_7
    by_cases c_8 : op = 8
    · refine lv_tableIn (tgt := 378) (off := 346) hx hb dL_law_32 (by rw [c_8]; decide) (by rw [c_8]; decide) (by rw [c_8]; rfl) (by decide) ?_
      obtain ⟨r, YN, YH, YM, hf5, hf6, hI⟩ := h_run XF XN XA XW XP XQ XO XH XM (xs (nI (i + 1)).toNatClampNeg) hI
      refine lv_aload_n hx hb dL_law_378 rfl (lv_at hl 1 rfl) ?_
      refine lv_aload_n hx hb dL_law_379 rfl (lv_at hl 0 rfl) ?_
      refine lv_iload_n hx hb dL_law_380 rfl (lv_at hl 3 rfl) ?_
      refine lv_iconst (v := 1) hx hb dL_law_381 (by decide) ?_
      refine lv_iadd hx hb dL_law_382 ?_
      refine lv_as (y := nI (i + 1)) (nI_add i 1).symm ?_
      refine va_sld hx hb hX hbl hbA hS v1 dL_law_383 ?_
      refine wr_i (rest := []) (wc := ((pF g aF (aW 0) (aN 0) (aA 0) (aH 0) (aO 0) XF ++ (pS g aN (aW 0) XN ++ (pW g aW (aP 0) (aQ 0) XW ++ (pP g aP XP ++ (pH g aH aB (aW 0) XH))))))) (wc' := ((pF g aF (aW 0) (aN 0) (aA 0) (aH 0) (aO 0) XF ++ (pS g aN (aW 0) YN ++ (pW g aW (aP 0) (aQ 0) XW ++ (pP g aP XP ++ (pH g aH aB (aW 0) YH))))))) (ws2 := (w5 g aF aN aA aW aP aQ aO aH aB XF YN XA XW XP XQ XO YH ++ (pM g aM XM))) hP hD hS hA [0, 1, 2, 3, 4, 5, 6, 7, 8, 16, 17, 18, 19, 20, 21, 22, 23, 24, 25, 26, 33, 34, 35, 36, 37, 38, 39, 40, 41, 42, 43, 44, 45, 46, 47, 48, 49, 50, 51, 52, 53, 54, 55, 56, 57, 58, 59, 60, 61, 62] rfl rfl (by rfl) (rnV (As := [.int (xs (nI (i + 1)).toNatClampNeg)]) ⟨hx, hb, hml, hown, hts⟩ (c_X5_run l g aF aN aA aW aP aQ aO aH aB _ n _ _ _ _ _ _ _ _ _ hf5) (cwV 1 hts gL_law_X5_run rfl rfl rfl (by decide +kernel) ⟨Nat.le_of_ble_eq_true rfl, Nat.le_of_ble_eq_true rfl⟩) hKW hP hD [0, 1, 2, 3, 4, 5, 6, 7, 8, 16, 17, 18, 19, 20, 21, 22, 23, 24, 25, 26, 33, 34, 35, 36, 37, 38, 39, 40, 41, 42, 43, 44, 45, 46, 47, 48, 49, 50, 51, 52, 53, 54, 55, 56, 57, 58, 59, 60, 61, 62] (by decide) rfl (va_recv hK hP (ci := 5) (q0 := 0) rfl rfl) rfl hl.1 rfl (lv_room (Nat.le_of_ble_eq_true rfl)) dL_law_384 ⟨Nat.le_of_ble_eq_true rfl, Nat.le_of_ble_eq_true rfl⟩) (fun rX5 H locs hrX5 hP hD hS => ?_)
      obtain ⟨hrX5, -⟩ := hrX5
      refine lv_as hrX5.symm ?_
      refine lv_aload_n hx hb dL_law_387 rfl (lv_at hl 2 rfl) ?_
      refine lv_aload_n hx hb dL_law_388 rfl (lv_at hl 0 rfl) ?_
      refine lv_iload_n hx hb dL_law_389 rfl (lv_at hl 3 rfl) ?_
      refine lv_iconst (v := 1) hx hb dL_law_390 (by decide) ?_
      refine lv_iadd hx hb dL_law_391 ?_
      refine lv_as (y := nI (i + 1)) (nI_add i 1).symm ?_
      refine va_sld hx hb hX hbl hbA hS v1 dL_law_392 ?_
      refine wr_i (rest := [.int r]) (wc := (pM g aM XM)) (wc' := (pM g aM YM)) (ws2 := (w5 g aF aN aA aW aP aQ aO aH aB XF YN XA XW XP XQ XO YH ++ (pM g aM YM))) hP hD hS hA [63, 64, 65, 66, 67, 68, 69, 70, 71, 72, 73, 74] rfl rfl (by rfl) (rnV (As := [.int (xs (nI (i + 1)).toNatClampNeg)]) ⟨hx, hb, hml, hown, hts⟩ (c_X6_run l g aM _ n _ _ _ _ hf6) (cwV 1 hts gL_law_X6_run rfl rfl rfl (by decide +kernel) ⟨Nat.le_of_ble_eq_true rfl, Nat.le_of_ble_eq_true rfl⟩) hKW hP hD [63, 64, 65, 66, 67, 68, 69, 70, 71, 72, 73, 74] (by decide) rfl (va_recv hK hP (ci := 6) (q0 := 63) rfl rfl) rfl hl.1 rfl (lv_room (Nat.le_of_ble_eq_true rfl)) dL_law_393 ⟨Nat.le_of_ble_eq_true rfl, Nat.le_of_ble_eq_true rfl⟩) (fun rX6 H locs hrX6 hP hD hS => ?_)
      obtain ⟨hrX6, -⟩ := hrX6
      refine lv_as hrX6.symm ?_
      refine lv_icmp_eq (tgt := 706) hx hb dL_law_396 (by decide) (fun _ => ?_) (fun c => absurd rfl c)
      exact E_706 XF YN XA XW XP XQ XO YH YM hI _ _ hP hD hS
    have q_8 := i32_nk (z := 8) (by decide) c_8
    by_cases c_9 : op = 9
    · refine lv_tableIn (tgt := 401) (off := 369) hx hb dL_law_32 (by rw [c_9]; decide) (by rw [c_9]; decide) (by rw [c_9]; rfl) (by decide) ?_
      obtain ⟨r, YN, YH, YM, hf5, hf6, hI⟩ := h_back XF XN XA XW XP XQ XO XH XM  hI
      refine lv_aload_n hx hb dL_law_401 rfl (lv_at hl 1 rfl) ?_
      refine wr_i (rest := []) (wc := ((pF g aF (aW 0) (aN 0) (aA 0) (aH 0) (aO 0) XF ++ (pS g aN (aW 0) XN ++ (pW g aW (aP 0) (aQ 0) XW ++ (pP g aP XP ++ (pH g aH aB (aW 0) XH))))))) (wc' := ((pF g aF (aW 0) (aN 0) (aA 0) (aH 0) (aO 0) XF ++ (pS g aN (aW 0) YN ++ (pW g aW (aP 0) (aQ 0) XW ++ (pP g aP XP ++ (pH g aH aB (aW 0) YH))))))) (ws2 := (w5 g aF aN aA aW aP aQ aO aH aB XF YN XA XW XP XQ XO YH ++ (pM g aM XM))) hP hD hS hA [0, 1, 2, 3, 4, 5, 6, 7, 8, 16, 17, 18, 19, 20, 21, 22, 23, 24, 25, 26, 33, 34, 35, 36, 37, 38, 39, 40, 41, 42, 43, 44, 45, 46, 47, 48, 49, 50, 51, 52, 53, 54, 55, 56, 57, 58, 59, 60, 61, 62] rfl rfl (by rfl) (rnV (As := []) ⟨hx, hb, hml, hown, hts⟩ (c_X5_back l g aF aN aA aW aP aQ aO aH aB _ n _ _ _ _ _ _ _ _ hf5) (cwV 0 hts gL_law_X5_back rfl rfl rfl (by decide +kernel) ⟨Nat.le_of_ble_eq_true rfl, Nat.le_of_ble_eq_true rfl⟩) hKW hP hD [0, 1, 2, 3, 4, 5, 6, 7, 8, 16, 17, 18, 19, 20, 21, 22, 23, 24, 25, 26, 33, 34, 35, 36, 37, 38, 39, 40, 41, 42, 43, 44, 45, 46, 47, 48, 49, 50, 51, 52, 53, 54, 55, 56, 57, 58, 59, 60, 61, 62] (by decide) rfl (va_recv hK hP (ci := 5) (q0 := 0) rfl rfl) rfl hl.1 rfl (lv_room (Nat.le_of_ble_eq_true rfl)) dL_law_402 ⟨Nat.le_of_ble_eq_true rfl, Nat.le_of_ble_eq_true rfl⟩) (fun rX5 H locs hrX5 hP hD hS => ?_)
      obtain ⟨hrX5, -⟩ := hrX5
      refine lv_as hrX5.symm ?_
      refine lv_aload_n hx hb dL_law_405 rfl (lv_at hl 2 rfl) ?_
      refine wr_i (rest := [.int r]) (wc := (pM g aM XM)) (wc' := (pM g aM YM)) (ws2 := (w5 g aF aN aA aW aP aQ aO aH aB XF YN XA XW XP XQ XO YH ++ (pM g aM YM))) hP hD hS hA [63, 64, 65, 66, 67, 68, 69, 70, 71, 72, 73, 74] rfl rfl (by rfl) (rnV (As := []) ⟨hx, hb, hml, hown, hts⟩ (c_X6_back l g aM _ n _ _ _ hf6) (cwV 0 hts gL_law_X6_back rfl rfl rfl (by decide +kernel) ⟨Nat.le_of_ble_eq_true rfl, Nat.le_of_ble_eq_true rfl⟩) hKW hP hD [63, 64, 65, 66, 67, 68, 69, 70, 71, 72, 73, 74] (by decide) rfl (va_recv hK hP (ci := 6) (q0 := 63) rfl rfl) rfl hl.1 rfl (lv_room (Nat.le_of_ble_eq_true rfl)) dL_law_406 ⟨Nat.le_of_ble_eq_true rfl, Nat.le_of_ble_eq_true rfl⟩) (fun rX6 H locs hrX6 hP hD hS => ?_)
      obtain ⟨hrX6, -⟩ := hrX6
      refine lv_as hrX6.symm ?_
      refine lv_icmp_eq (tgt := 706) hx hb dL_law_409 (by decide) (fun _ => ?_) (fun c => absurd rfl c)
      exact E_706 XF YN XA XW XP XQ XO YH YM hI _ _ hP hD hS
    have q_9 := i32_nk (z := 9) (by decide) c_9
    by_cases c_10 : op = 10
    · refine lv_tableIn (tgt := 414) (off := 382) hx hb dL_law_32 (by rw [c_10]; decide) (by rw [c_10]; decide) (by rw [c_10]; rfl) (by decide) ?_
      obtain ⟨r, YN, YH, YM, hf5, hf6, hI⟩ := h_jump XF XN XA XW XP XQ XO XH XM (xs (nI (i + 1)).toNatClampNeg) hI
      refine lv_aload_n hx hb dL_law_414 rfl (lv_at hl 1 rfl) ?_
      refine lv_aload_n hx hb dL_law_415 rfl (lv_at hl 0 rfl) ?_
      refine lv_iload_n hx hb dL_law_416 rfl (lv_at hl 3 rfl) ?_
      refine lv_iconst (v := 1) hx hb dL_law_417 (by decide) ?_
      refine lv_iadd hx hb dL_law_418 ?_
      refine lv_as (y := nI (i + 1)) (nI_add i 1).symm ?_
      refine va_sld hx hb hX hbl hbA hS v1 dL_law_419 ?_
      refine wr_i (rest := []) (wc := ((pF g aF (aW 0) (aN 0) (aA 0) (aH 0) (aO 0) XF ++ (pS g aN (aW 0) XN ++ (pW g aW (aP 0) (aQ 0) XW ++ (pP g aP XP ++ (pH g aH aB (aW 0) XH))))))) (wc' := ((pF g aF (aW 0) (aN 0) (aA 0) (aH 0) (aO 0) XF ++ (pS g aN (aW 0) YN ++ (pW g aW (aP 0) (aQ 0) XW ++ (pP g aP XP ++ (pH g aH aB (aW 0) YH))))))) (ws2 := (w5 g aF aN aA aW aP aQ aO aH aB XF YN XA XW XP XQ XO YH ++ (pM g aM XM))) hP hD hS hA [0, 1, 2, 3, 4, 5, 6, 7, 8, 16, 17, 18, 19, 20, 21, 22, 23, 24, 25, 26, 33, 34, 35, 36, 37, 38, 39, 40, 41, 42, 43, 44, 45, 46, 47, 48, 49, 50, 51, 52, 53, 54, 55, 56, 57, 58, 59, 60, 61, 62] rfl rfl (by rfl) (rnV (As := [.int (xs (nI (i + 1)).toNatClampNeg)]) ⟨hx, hb, hml, hown, hts⟩ (c_X5_jump l g aF aN aA aW aP aQ aO aH aB _ n _ _ _ _ _ _ _ _ _ hf5) (cwV 1 hts gL_law_X5_jump rfl rfl rfl (by decide +kernel) ⟨Nat.le_of_ble_eq_true rfl, Nat.le_of_ble_eq_true rfl⟩) hKW hP hD [0, 1, 2, 3, 4, 5, 6, 7, 8, 16, 17, 18, 19, 20, 21, 22, 23, 24, 25, 26, 33, 34, 35, 36, 37, 38, 39, 40, 41, 42, 43, 44, 45, 46, 47, 48, 49, 50, 51, 52, 53, 54, 55, 56, 57, 58, 59, 60, 61, 62] (by decide) rfl (va_recv hK hP (ci := 5) (q0 := 0) rfl rfl) rfl hl.1 rfl (lv_room (Nat.le_of_ble_eq_true rfl)) dL_law_420 ⟨Nat.le_of_ble_eq_true rfl, Nat.le_of_ble_eq_true rfl⟩) (fun rX5 H locs hrX5 hP hD hS => ?_)
      obtain ⟨hrX5, -⟩ := hrX5
      refine lv_as hrX5.symm ?_
      refine lv_aload_n hx hb dL_law_423 rfl (lv_at hl 2 rfl) ?_
      refine lv_aload_n hx hb dL_law_424 rfl (lv_at hl 0 rfl) ?_
      refine lv_iload_n hx hb dL_law_425 rfl (lv_at hl 3 rfl) ?_
      refine lv_iconst (v := 1) hx hb dL_law_426 (by decide) ?_
      refine lv_iadd hx hb dL_law_427 ?_
      refine lv_as (y := nI (i + 1)) (nI_add i 1).symm ?_
      refine va_sld hx hb hX hbl hbA hS v1 dL_law_428 ?_
      refine wr_i (rest := [.int r]) (wc := (pM g aM XM)) (wc' := (pM g aM YM)) (ws2 := (w5 g aF aN aA aW aP aQ aO aH aB XF YN XA XW XP XQ XO YH ++ (pM g aM YM))) hP hD hS hA [63, 64, 65, 66, 67, 68, 69, 70, 71, 72, 73, 74] rfl rfl (by rfl) (rnV (As := [.int (xs (nI (i + 1)).toNatClampNeg)]) ⟨hx, hb, hml, hown, hts⟩ (c_X6_jump l g aM _ n _ _ _ _ hf6) (cwV 1 hts gL_law_X6_jump rfl rfl rfl (by decide +kernel) ⟨Nat.le_of_ble_eq_true rfl, Nat.le_of_ble_eq_true rfl⟩) hKW hP hD [63, 64, 65, 66, 67, 68, 69, 70, 71, 72, 73, 74] (by decide) rfl (va_recv hK hP (ci := 6) (q0 := 63) rfl rfl) rfl hl.1 rfl (lv_room (Nat.le_of_ble_eq_true rfl)) dL_law_429 ⟨Nat.le_of_ble_eq_true rfl, Nat.le_of_ble_eq_true rfl⟩) (fun rX6 H locs hrX6 hP hD hS => ?_)
      obtain ⟨hrX6, -⟩ := hrX6
      refine lv_as hrX6.symm ?_
      refine lv_icmp_eq (tgt := 706) hx hb dL_law_432 (by decide) (fun _ => ?_) (fun c => absurd rfl c)
      exact E_706 XF YN XA XW XP XQ XO YH YM hI _ _ hP hD hS
    have q_10 := i32_nk (z := 10) (by decide) c_10
    by_cases c_11 : op = 11
    · refine lv_tableIn (tgt := 437) (off := 405) hx hb dL_law_32 (by rw [c_11]; decide) (by rw [c_11]; decide) (by rw [c_11]; rfl) (by decide) ?_
      obtain ⟨r, YN, YH, YM, hf5, hf6, hI⟩ := h_goBack XF XN XA XW XP XQ XO XH XM  hI
      refine lv_aload_n hx hb dL_law_437 rfl (lv_at hl 1 rfl) ?_
      refine wr_i (rest := []) (wc := ((pF g aF (aW 0) (aN 0) (aA 0) (aH 0) (aO 0) XF ++ (pS g aN (aW 0) XN ++ (pW g aW (aP 0) (aQ 0) XW ++ (pH g aH aB (aW 0) XH)))))) (wc' := ((pF g aF (aW 0) (aN 0) (aA 0) (aH 0) (aO 0) XF ++ (pS g aN (aW 0) YN ++ (pW g aW (aP 0) (aQ 0) XW ++ (pH g aH aB (aW 0) YH)))))) (ws2 := (w5 g aF aN aA aW aP aQ aO aH aB XF YN XA XW XP XQ XO YH ++ (pM g aM XM))) hP hD hS hA [0, 1, 2, 3, 4, 5, 6, 7, 8, 16, 17, 18, 19, 20, 21, 22, 33, 34, 35, 36, 37, 38, 39, 40, 41, 42, 43, 44, 45, 46, 47, 48, 49, 50, 51, 52, 53, 54, 55, 56, 57, 58, 59, 60, 61, 62] rfl rfl (by rfl) (rnV (As := []) ⟨hx, hb, hml, hown, hts⟩ (c_X5_goBack l g aF aN aA aW aP aQ aO aH aB _ n _ _ _ _ _ _ _ hf5) (cwV 0 hts gL_law_X5_goBack rfl rfl rfl (by decide +kernel) ⟨Nat.le_of_ble_eq_true rfl, Nat.le_of_ble_eq_true rfl⟩) hKW hP hD [0, 1, 2, 3, 4, 5, 6, 7, 8, 16, 17, 18, 19, 20, 21, 22, 33, 34, 35, 36, 37, 38, 39, 40, 41, 42, 43, 44, 45, 46, 47, 48, 49, 50, 51, 52, 53, 54, 55, 56, 57, 58, 59, 60, 61, 62] (by decide) rfl (va_recv hK hP (ci := 5) (q0 := 0) rfl rfl) rfl hl.1 rfl (lv_room (Nat.le_of_ble_eq_true rfl)) dL_law_438 ⟨Nat.le_of_ble_eq_true rfl, Nat.le_of_ble_eq_true rfl⟩) (fun rX5 H locs hrX5 hP hD hS => ?_)
      obtain ⟨hrX5, -⟩ := hrX5
      refine lv_as hrX5.symm ?_
      refine lv_aload_n hx hb dL_law_441 rfl (lv_at hl 2 rfl) ?_
      refine wr_i (rest := [.int r]) (wc := (pM g aM XM)) (wc' := (pM g aM YM)) (ws2 := (w5 g aF aN aA aW aP aQ aO aH aB XF YN XA XW XP XQ XO YH ++ (pM g aM YM))) hP hD hS hA [63, 64, 65, 66, 67, 68, 69, 70, 71, 72, 73, 74] rfl rfl (by rfl) (rnV (As := []) ⟨hx, hb, hml, hown, hts⟩ (c_X6_goBack l g aM _ n _ _ _ hf6) (cwV 0 hts gL_law_X6_goBack rfl rfl rfl (by decide +kernel) ⟨Nat.le_of_ble_eq_true rfl, Nat.le_of_ble_eq_true rfl⟩) hKW hP hD [63, 64, 65, 66, 67, 68, 69, 70, 71, 72, 73, 74] (by decide) rfl (va_recv hK hP (ci := 6) (q0 := 63) rfl rfl) rfl hl.1 rfl (lv_room (Nat.le_of_ble_eq_true rfl)) dL_law_442 ⟨Nat.le_of_ble_eq_true rfl, Nat.le_of_ble_eq_true rfl⟩) (fun rX6 H locs hrX6 hP hD hS => ?_)
      obtain ⟨hrX6, -⟩ := hrX6
      refine lv_as hrX6.symm ?_
      refine lv_icmp_eq (tgt := 706) hx hb dL_law_445 (by decide) (fun _ => ?_) (fun c => absurd rfl c)
      exact E_706 XF YN XA XW XP XQ XO YH YM hI _ _ hP hD hS
    have q_11 := i32_nk (z := 11) (by decide) c_11
    by_cases c_12 : op = 12
    · refine lv_tableIn (tgt := 450) (off := 418) hx hb dL_law_32 (by rw [c_12]; decide) (by rw [c_12]; decide) (by rw [c_12]; rfl) (by decide) ?_
      obtain ⟨r, YA, YM, hf5, hf6, hI⟩ := h_ifRun XF XN XA XW XP XQ XO XH XM (xs (nI (i + 1)).toNatClampNeg) hI
      refine lv_aload_n hx hb dL_law_450 rfl (lv_at hl 1 rfl) ?_
      refine lv_aload_n hx hb dL_law_451 rfl (lv_at hl 0 rfl) ?_
      refine lv_iload_n hx hb dL_law_452 rfl (lv_at hl 3 rfl) ?_
      refine lv_iconst (v := 1) hx hb dL_law_453 (by decide) ?_
      refine lv_iadd hx hb dL_law_454 ?_
      refine lv_as (y := nI (i + 1)) (nI_add i 1).symm ?_
      refine va_sld hx hb hX hbl hbA hS v1 dL_law_455 ?_
      refine wr_i (rest := []) (wc := ((pF g aF (aW 0) (aN 0) (aA 0) (aH 0) (aO 0) XF ++ (pS g aN (aW 0) XN ++ (pS g aA (aW 0) XA ++ (pW g aW (aP 0) (aQ 0) XW ++ (pP g aP XP))))))) (wc' := ((pF g aF (aW 0) (aN 0) (aA 0) (aH 0) (aO 0) XF ++ (pS g aN (aW 0) XN ++ (pS g aA (aW 0) YA ++ (pW g aW (aP 0) (aQ 0) XW ++ (pP g aP XP))))))) (ws2 := (w5 g aF aN aA aW aP aQ aO aH aB XF XN YA XW XP XQ XO XH ++ (pM g aM XM))) hP hD hS hA [0, 1, 2, 3, 4, 5, 6, 7, 8, 9, 10, 11, 12, 13, 14, 15, 16, 17, 18, 19, 20, 21, 22, 23, 24, 25, 26] rfl rfl (by rfl) (rnV (As := [.int (xs (nI (i + 1)).toNatClampNeg)]) ⟨hx, hb, hml, hown, hts⟩ (c_X5_ifRun l g aF aN aA aW aP aQ aO aH aB _ n _ _ _ _ _ _ _ _ hf5) (cwV 1 hts gL_law_X5_ifRun rfl rfl rfl (by decide +kernel) ⟨Nat.le_of_ble_eq_true rfl, Nat.le_of_ble_eq_true rfl⟩) hKW hP hD [0, 1, 2, 3, 4, 5, 6, 7, 8, 9, 10, 11, 12, 13, 14, 15, 16, 17, 18, 19, 20, 21, 22, 23, 24, 25, 26] (by decide) rfl (va_recv hK hP (ci := 5) (q0 := 0) rfl rfl) rfl hl.1 rfl (lv_room (Nat.le_of_ble_eq_true rfl)) dL_law_456 ⟨Nat.le_of_ble_eq_true rfl, Nat.le_of_ble_eq_true rfl⟩) (fun rX5 H locs hrX5 hP hD hS => ?_)
      obtain ⟨hrX5, -⟩ := hrX5
      refine lv_as hrX5.symm ?_
      refine lv_aload_n hx hb dL_law_459 rfl (lv_at hl 2 rfl) ?_
      refine lv_aload_n hx hb dL_law_460 rfl (lv_at hl 0 rfl) ?_
      refine lv_iload_n hx hb dL_law_461 rfl (lv_at hl 3 rfl) ?_
      refine lv_iconst (v := 1) hx hb dL_law_462 (by decide) ?_
      refine lv_iadd hx hb dL_law_463 ?_
      refine lv_as (y := nI (i + 1)) (nI_add i 1).symm ?_
      refine va_sld hx hb hX hbl hbA hS v1 dL_law_464 ?_
      refine wr_i (rest := [.int r]) (wc := (pM g aM XM)) (wc' := (pM g aM YM)) (ws2 := (w5 g aF aN aA aW aP aQ aO aH aB XF XN YA XW XP XQ XO XH ++ (pM g aM YM))) hP hD hS hA [63, 64, 65, 66, 67, 68, 69, 70, 71, 72, 73, 74] rfl rfl (by rfl) (rnV (As := [.int (xs (nI (i + 1)).toNatClampNeg)]) ⟨hx, hb, hml, hown, hts⟩ (c_X6_ifRun l g aM _ n _ _ _ _ hf6) (cwV 1 hts gL_law_X6_ifRun rfl rfl rfl (by decide +kernel) ⟨Nat.le_of_ble_eq_true rfl, Nat.le_of_ble_eq_true rfl⟩) hKW hP hD [63, 64, 65, 66, 67, 68, 69, 70, 71, 72, 73, 74] (by decide) rfl (va_recv hK hP (ci := 6) (q0 := 63) rfl rfl) rfl hl.1 rfl (lv_room (Nat.le_of_ble_eq_true rfl)) dL_law_465 ⟨Nat.le_of_ble_eq_true rfl, Nat.le_of_ble_eq_true rfl⟩) (fun rX6 H locs hrX6 hP hD hS => ?_)
      obtain ⟨hrX6, -⟩ := hrX6
      refine lv_as hrX6.symm ?_
      refine lv_icmp_eq (tgt := 706) hx hb dL_law_468 (by decide) (fun _ => ?_) (fun c => absurd rfl c)
      exact E_706 XF XN YA XW XP XQ XO XH YM hI _ _ hP hD hS
    have q_12 := i32_nk (z := 12) (by decide) c_12
    by_cases c_13 : op = 13
    · refine lv_tableIn (tgt := 473) (off := 441) hx hb dL_law_32 (by rw [c_13]; decide) (by rw [c_13]; decide) (by rw [c_13]; rfl) (by decide) ?_
      obtain ⟨r, YA, YM, hf5, hf6, hI⟩ := h_left XF XN XA XW XP XQ XO XH XM  hI
      refine lv_aload_n hx hb dL_law_473 rfl (lv_at hl 1 rfl) ?_
      refine wr_i (rest := []) (wc := ((pF g aF (aW 0) (aN 0) (aA 0) (aH 0) (aO 0) XF ++ (pS g aN (aW 0) XN ++ (pS g aA (aW 0) XA ++ (pW g aW (aP 0) (aQ 0) XW ++ (pP g aP XP))))))) (wc' := ((pF g aF (aW 0) (aN 0) (aA 0) (aH 0) (aO 0) XF ++ (pS g aN (aW 0) XN ++ (pS g aA (aW 0) YA ++ (pW g aW (aP 0) (aQ 0) XW ++ (pP g aP XP))))))) (ws2 := (w5 g aF aN aA aW aP aQ aO aH aB XF XN YA XW XP XQ XO XH ++ (pM g aM XM))) hP hD hS hA [0, 1, 2, 3, 4, 5, 6, 7, 8, 9, 10, 11, 12, 13, 14, 15, 16, 17, 18, 19, 20, 21, 22, 23, 24, 25, 26] rfl rfl (by rfl) (rnV (As := []) ⟨hx, hb, hml, hown, hts⟩ (c_X5_left l g aF aN aA aW aP aQ aO aH aB _ n _ _ _ _ _ _ _ hf5) (cwV 0 hts gL_law_X5_left rfl rfl rfl (by decide +kernel) ⟨Nat.le_of_ble_eq_true rfl, Nat.le_of_ble_eq_true rfl⟩) hKW hP hD [0, 1, 2, 3, 4, 5, 6, 7, 8, 9, 10, 11, 12, 13, 14, 15, 16, 17, 18, 19, 20, 21, 22, 23, 24, 25, 26] (by decide) rfl (va_recv hK hP (ci := 5) (q0 := 0) rfl rfl) rfl hl.1 rfl (lv_room (Nat.le_of_ble_eq_true rfl)) dL_law_474 ⟨Nat.le_of_ble_eq_true rfl, Nat.le_of_ble_eq_true rfl⟩) (fun rX5 H locs hrX5 hP hD hS => ?_)
      obtain ⟨hrX5, -⟩ := hrX5
      refine lv_as hrX5.symm ?_
      refine lv_aload_n hx hb dL_law_477 rfl (lv_at hl 2 rfl) ?_
      refine wr_i (rest := [.int r]) (wc := (pM g aM XM)) (wc' := (pM g aM YM)) (ws2 := (w5 g aF aN aA aW aP aQ aO aH aB XF XN YA XW XP XQ XO XH ++ (pM g aM YM))) hP hD hS hA [63, 64, 65, 66, 67, 68, 69, 70, 71, 72, 73, 74] rfl rfl (by rfl) (rnV (As := []) ⟨hx, hb, hml, hown, hts⟩ (c_X6_left l g aM _ n _ _ _ hf6) (cwV 0 hts gL_law_X6_left rfl rfl rfl (by decide +kernel) ⟨Nat.le_of_ble_eq_true rfl, Nat.le_of_ble_eq_true rfl⟩) hKW hP hD [63, 64, 65, 66, 67, 68, 69, 70, 71, 72, 73, 74] (by decide) rfl (va_recv hK hP (ci := 6) (q0 := 63) rfl rfl) rfl hl.1 rfl (lv_room (Nat.le_of_ble_eq_true rfl)) dL_law_478 ⟨Nat.le_of_ble_eq_true rfl, Nat.le_of_ble_eq_true rfl⟩) (fun rX6 H locs hrX6 hP hD hS => ?_)
      obtain ⟨hrX6, -⟩ := hrX6
      refine lv_as hrX6.symm ?_
      refine lv_icmp_eq (tgt := 706) hx hb dL_law_481 (by decide) (fun _ => ?_) (fun c => absurd rfl c)
      exact E_706 XF XN YA XW XP XQ XO XH YM hI _ _ hP hD hS
    have q_13 := i32_nk (z := 13) (by decide) c_13
    by_cases c_14 : op = 14
    · refine lv_tableIn (tgt := 486) (off := 454) hx hb dL_law_32 (by rw [c_14]; decide) (by rw [c_14]; decide) (by rw [c_14]; rfl) (by decide) ?_
      obtain ⟨r, YN, YW, YP, YQ, YH, YM, hf5, hf6, hI⟩ := h_undo XF XN XA XW XP XQ XO XH XM  hI
      refine lv_aload_n hx hb dL_law_486 rfl (lv_at hl 1 rfl) ?_
      refine wr_i (rest := []) (wc := ((pF g aF (aW 0) (aN 0) (aA 0) (aH 0) (aO 0) XF ++ (pS g aN (aW 0) XN ++ (pW g aW (aP 0) (aQ 0) XW ++ (pP g aP XP ++ (pP g aQ XQ ++ (pH g aH aB (aW 0) XH)))))))) (wc' := ((pF g aF (aW 0) (aN 0) (aA 0) (aH 0) (aO 0) XF ++ (pS g aN (aW 0) YN ++ (pW g aW (aP 0) (aQ 0) YW ++ (pP g aP YP ++ (pP g aQ YQ ++ (pH g aH aB (aW 0) YH)))))))) (ws2 := (w5 g aF aN aA aW aP aQ aO aH aB XF YN XA YW YP YQ XO YH ++ (pM g aM XM))) hP hD hS hA [0, 1, 2, 3, 4, 5, 6, 7, 8, 16, 17, 18, 19, 20, 21, 22, 23, 24, 25, 26, 27, 28, 29, 30, 33, 34, 35, 36, 37, 38, 39, 40, 41, 42, 43, 44, 45, 46, 47, 48, 49, 50, 51, 52, 53, 54, 55, 56, 57, 58, 59, 60, 61, 62] rfl rfl (by rfl) (rnV (As := []) ⟨hx, hb, hml, hown, hts⟩ (c_X5_undo l g aF aN aA aW aP aQ aO aH aB _ n _ _ _ _ _ _ _ _ _ _ _ _ hf5) (cwV 0 hts gL_law_X5_undo rfl rfl rfl (by decide +kernel) ⟨Nat.le_of_ble_eq_true rfl, Nat.le_of_ble_eq_true rfl⟩) hKW hP hD [0, 1, 2, 3, 4, 5, 6, 7, 8, 16, 17, 18, 19, 20, 21, 22, 23, 24, 25, 26, 27, 28, 29, 30, 33, 34, 35, 36, 37, 38, 39, 40, 41, 42, 43, 44, 45, 46, 47, 48, 49, 50, 51, 52, 53, 54, 55, 56, 57, 58, 59, 60, 61, 62] (by decide) rfl (va_recv hK hP (ci := 5) (q0 := 0) rfl rfl) rfl hl.1 rfl (lv_room (Nat.le_of_ble_eq_true rfl)) dL_law_487 ⟨Nat.le_of_ble_eq_true rfl, Nat.le_of_ble_eq_true rfl⟩) (fun rX5 H locs hrX5 hP hD hS => ?_)
      obtain ⟨hrX5, -⟩ := hrX5
      refine lv_as hrX5.symm ?_
      refine lv_aload_n hx hb dL_law_490 rfl (lv_at hl 2 rfl) ?_
      refine wr_i (rest := [.int r]) (wc := (pM g aM XM)) (wc' := (pM g aM YM)) (ws2 := (w5 g aF aN aA aW aP aQ aO aH aB XF YN XA YW YP YQ XO YH ++ (pM g aM YM))) hP hD hS hA [63, 64, 65, 66, 67, 68, 69, 70, 71, 72, 73, 74] rfl rfl (by rfl) (rnV (As := []) ⟨hx, hb, hml, hown, hts⟩ (c_X6_undo l g aM _ n _ _ _ hf6) (cwV 0 hts gL_law_X6_undo rfl rfl rfl (by decide +kernel) ⟨Nat.le_of_ble_eq_true rfl, Nat.le_of_ble_eq_true rfl⟩) hKW hP hD [63, 64, 65, 66, 67, 68, 69, 70, 71, 72, 73, 74] (by decide) rfl (va_recv hK hP (ci := 6) (q0 := 63) rfl rfl) rfl hl.1 rfl (lv_room (Nat.le_of_ble_eq_true rfl)) dL_law_491 ⟨Nat.le_of_ble_eq_true rfl, Nat.le_of_ble_eq_true rfl⟩) (fun rX6 H locs hrX6 hP hD hS => ?_)
      obtain ⟨hrX6, -⟩ := hrX6
      refine lv_as hrX6.symm ?_
      refine lv_icmp_eq (tgt := 706) hx hb dL_law_494 (by decide) (fun _ => ?_) (fun c => absurd rfl c)
      exact E_706 XF YN XA YW YP YQ XO YH YM hI _ _ hP hD hS
    have q_14 := i32_nk (z := 14) (by decide) c_14
    by_cases c_15 : op = 15
    · refine lv_tableIn (tgt := 499) (off := 467) hx hb dL_law_32 (by rw [c_15]; decide) (by rw [c_15]; decide) (by rw [c_15]; rfl) (by decide) ?_
      obtain ⟨r, YN, YH, YM, hf5, hf6, hI⟩ := h_note XF XN XA XW XP XQ XO XH XM (xs (nI (i + 1)).toNatClampNeg) (xs (nI (i + 2)).toNatClampNeg) hI
      refine lv_aload_n hx hb dL_law_499 rfl (lv_at hl 1 rfl) ?_
      refine lv_aload_n hx hb dL_law_500 rfl (lv_at hl 0 rfl) ?_
      refine lv_iload_n hx hb dL_law_501 rfl (lv_at hl 3 rfl) ?_
      refine lv_iconst (v := 1) hx hb dL_law_502 (by decide) ?_
      refine lv_iadd hx hb dL_law_503 ?_
      refine lv_as (y := nI (i + 1)) (nI_add i 1).symm ?_
      refine va_sld hx hb hX hbl hbA hS v1 dL_law_504 ?_
      refine lv_aload_n hx hb dL_law_505 rfl (lv_at hl 0 rfl) ?_
      refine lv_iload_n hx hb dL_law_506 rfl (lv_at hl 3 rfl) ?_
      refine lv_iconst (v := 2) hx hb dL_law_507 (by decide) ?_
      refine lv_iadd hx hb dL_law_508 ?_
      refine lv_as (y := nI (i + 2)) (nI_add i 2).symm ?_
      refine va_sld hx hb hX hbl hbA hS v2 dL_law_509 ?_
      refine wr_i (rest := []) (wc := ((pF g aF (aW 0) (aN 0) (aA 0) (aH 0) (aO 0) XF ++ (pS g aN (aW 0) XN ++ (pW g aW (aP 0) (aQ 0) XW ++ (pH g aH aB (aW 0) XH)))))) (wc' := ((pF g aF (aW 0) (aN 0) (aA 0) (aH 0) (aO 0) XF ++ (pS g aN (aW 0) YN ++ (pW g aW (aP 0) (aQ 0) XW ++ (pH g aH aB (aW 0) YH)))))) (ws2 := (w5 g aF aN aA aW aP aQ aO aH aB XF YN XA XW XP XQ XO YH ++ (pM g aM XM))) hP hD hS hA [0, 1, 2, 3, 4, 5, 6, 7, 8, 16, 17, 18, 19, 20, 21, 22, 33, 34, 35, 36, 37, 38, 39, 40, 41, 42, 43, 44, 45, 46, 47, 48, 49, 50, 51, 52, 53, 54, 55, 56, 57, 58, 59, 60, 61, 62] rfl rfl (by rfl) (rnV (As := [.int (xs (nI (i + 1)).toNatClampNeg), .int (xs (nI (i + 2)).toNatClampNeg)]) ⟨hx, hb, hml, hown, hts⟩ (c_X5_note l g aF aN aA aW aP aQ aO aH aB _ n _ _ _ _ _ _ _ _ _ hf5) (cwV 2 hts gL_law_X5_note rfl rfl rfl (by decide +kernel) ⟨Nat.le_of_ble_eq_true rfl, Nat.le_of_ble_eq_true rfl⟩) hKW hP hD [0, 1, 2, 3, 4, 5, 6, 7, 8, 16, 17, 18, 19, 20, 21, 22, 33, 34, 35, 36, 37, 38, 39, 40, 41, 42, 43, 44, 45, 46, 47, 48, 49, 50, 51, 52, 53, 54, 55, 56, 57, 58, 59, 60, 61, 62] (by decide) rfl (va_recv hK hP (ci := 5) (q0 := 0) rfl rfl) rfl hl.1 rfl (lv_room (Nat.le_of_ble_eq_true rfl)) dL_law_510 ⟨Nat.le_of_ble_eq_true rfl, Nat.le_of_ble_eq_true rfl⟩) (fun rX5 H locs hrX5 hP hD hS => ?_)
      obtain ⟨hrX5, -⟩ := hrX5
      refine lv_as hrX5.symm ?_
      refine lv_aload_n hx hb dL_law_513 rfl (lv_at hl 2 rfl) ?_
      refine lv_aload_n hx hb dL_law_514 rfl (lv_at hl 0 rfl) ?_
      refine lv_iload_n hx hb dL_law_515 rfl (lv_at hl 3 rfl) ?_
      refine lv_iconst (v := 1) hx hb dL_law_516 (by decide) ?_
      refine lv_iadd hx hb dL_law_517 ?_
      refine lv_as (y := nI (i + 1)) (nI_add i 1).symm ?_
      refine va_sld hx hb hX hbl hbA hS v1 dL_law_518 ?_
      refine lv_aload_n hx hb dL_law_519 rfl (lv_at hl 0 rfl) ?_
      refine lv_iload_n hx hb dL_law_520 rfl (lv_at hl 3 rfl) ?_
      refine lv_iconst (v := 2) hx hb dL_law_521 (by decide) ?_
      refine lv_iadd hx hb dL_law_522 ?_
      refine lv_as (y := nI (i + 2)) (nI_add i 2).symm ?_
      refine va_sld hx hb hX hbl hbA hS v2 dL_law_523 ?_
      refine wr_i (rest := [.int r]) (wc := (pM g aM XM)) (wc' := (pM g aM YM)) (ws2 := (w5 g aF aN aA aW aP aQ aO aH aB XF YN XA XW XP XQ XO YH ++ (pM g aM YM))) hP hD hS hA [63, 64, 65, 66, 67, 68, 69, 70, 71, 72, 73, 74] rfl rfl (by rfl) (rnV (As := [.int (xs (nI (i + 1)).toNatClampNeg), .int (xs (nI (i + 2)).toNatClampNeg)]) ⟨hx, hb, hml, hown, hts⟩ (c_X6_note l g aM _ n _ _ _ _ _ hf6) (cwV 2 hts gL_law_X6_note rfl rfl rfl (by decide +kernel) ⟨Nat.le_of_ble_eq_true rfl, Nat.le_of_ble_eq_true rfl⟩) hKW hP hD [63, 64, 65, 66, 67, 68, 69, 70, 71, 72, 73, 74] (by decide) rfl (va_recv hK hP (ci := 6) (q0 := 63) rfl rfl) rfl hl.1 rfl (lv_room (Nat.le_of_ble_eq_true rfl)) dL_law_524 ⟨Nat.le_of_ble_eq_true rfl, Nat.le_of_ble_eq_true rfl⟩) (fun rX6 H locs hrX6 hP hD hS => ?_)
      obtain ⟨hrX6, -⟩ := hrX6
      refine lv_as hrX6.symm ?_
      refine lv_icmp_eq (tgt := 706) hx hb dL_law_527 (by decide) (fun _ => ?_) (fun c => absurd rfl c)
      exact E_706 XF YN XA XW XP XQ XO YH YM hI _ _ hP hD hS
    have q_15 := i32_nk (z := 15) (by decide) c_15
    by_cases c_16 : op = 16
    · refine lv_tableIn (tgt := 532) (off := 500) hx hb dL_law_32 (by rw [c_16]; decide) (by rw [c_16]; decide) (by rw [c_16]; rfl) (by decide) ?_
      obtain ⟨r, YN, YH, YM, hf5, hf6, hI⟩ := h_unnote XF XN XA XW XP XQ XO XH XM (xs (nI (i + 1)).toNatClampNeg) hI
      refine lv_aload_n hx hb dL_law_532 rfl (lv_at hl 1 rfl) ?_
      refine lv_aload_n hx hb dL_law_533 rfl (lv_at hl 0 rfl) ?_
      refine lv_iload_n hx hb dL_law_534 rfl (lv_at hl 3 rfl) ?_
      refine lv_iconst (v := 1) hx hb dL_law_535 (by decide) ?_
      refine lv_iadd hx hb dL_law_536 ?_
      refine lv_as (y := nI (i + 1)) (nI_add i 1).symm ?_
      refine va_sld hx hb hX hbl hbA hS v1 dL_law_537 ?_
      refine wr_i (rest := []) (wc := ((pF g aF (aW 0) (aN 0) (aA 0) (aH 0) (aO 0) XF ++ (pS g aN (aW 0) XN ++ (pW g aW (aP 0) (aQ 0) XW ++ (pH g aH aB (aW 0) XH)))))) (wc' := ((pF g aF (aW 0) (aN 0) (aA 0) (aH 0) (aO 0) XF ++ (pS g aN (aW 0) YN ++ (pW g aW (aP 0) (aQ 0) XW ++ (pH g aH aB (aW 0) YH)))))) (ws2 := (w5 g aF aN aA aW aP aQ aO aH aB XF YN XA XW XP XQ XO YH ++ (pM g aM XM))) hP hD hS hA [0, 1, 2, 3, 4, 5, 6, 7, 8, 16, 17, 18, 19, 20, 21, 22, 33, 34, 35, 36, 37, 38, 39, 40, 41, 42, 43, 44, 45, 46, 47, 48, 49, 50, 51, 52, 53, 54, 55, 56, 57, 58, 59, 60, 61, 62] rfl rfl (by rfl) (rnV (As := [.int (xs (nI (i + 1)).toNatClampNeg)]) ⟨hx, hb, hml, hown, hts⟩ (c_X5_unnote l g aF aN aA aW aP aQ aO aH aB _ _ _ _ _ _ _ _ _ hf5) (cwV 1 hts gL_law_X5_unnote rfl rfl rfl (by decide +kernel) ⟨Nat.le_of_ble_eq_true rfl, Nat.le_of_ble_eq_true rfl⟩) hKW hP hD [0, 1, 2, 3, 4, 5, 6, 7, 8, 16, 17, 18, 19, 20, 21, 22, 33, 34, 35, 36, 37, 38, 39, 40, 41, 42, 43, 44, 45, 46, 47, 48, 49, 50, 51, 52, 53, 54, 55, 56, 57, 58, 59, 60, 61, 62] (by decide) rfl (va_recv hK hP (ci := 5) (q0 := 0) rfl rfl) rfl hl.1 rfl (lv_room (Nat.le_of_ble_eq_true rfl)) dL_law_538 ⟨Nat.le_of_ble_eq_true rfl, Nat.le_of_ble_eq_true rfl⟩) (fun rX5 H locs hrX5 hP hD hS => ?_)
      obtain ⟨hrX5, -⟩ := hrX5
      refine lv_as hrX5.symm ?_
      refine lv_aload_n hx hb dL_law_541 rfl (lv_at hl 2 rfl) ?_
      refine lv_aload_n hx hb dL_law_542 rfl (lv_at hl 0 rfl) ?_
      refine lv_iload_n hx hb dL_law_543 rfl (lv_at hl 3 rfl) ?_
      refine lv_iconst (v := 1) hx hb dL_law_544 (by decide) ?_
      refine lv_iadd hx hb dL_law_545 ?_
      refine lv_as (y := nI (i + 1)) (nI_add i 1).symm ?_
      refine va_sld hx hb hX hbl hbA hS v1 dL_law_546 ?_
      refine wr_i (rest := [.int r]) (wc := (pM g aM XM)) (wc' := (pM g aM YM)) (ws2 := (w5 g aF aN aA aW aP aQ aO aH aB XF YN XA XW XP XQ XO YH ++ (pM g aM YM))) hP hD hS hA [63, 64, 65, 66, 67, 68, 69, 70, 71, 72, 73, 74] rfl rfl (by rfl) (rnV (As := [.int (xs (nI (i + 1)).toNatClampNeg)]) ⟨hx, hb, hml, hown, hts⟩ (c_X6_unnote l g aM _ n _ _ _ _ hf6) (cwV 1 hts gL_law_X6_unnote rfl rfl rfl (by decide +kernel) ⟨Nat.le_of_ble_eq_true rfl, Nat.le_of_ble_eq_true rfl⟩) hKW hP hD [63, 64, 65, 66, 67, 68, 69, 70, 71, 72, 73, 74] (by decide) rfl (va_recv hK hP (ci := 6) (q0 := 63) rfl rfl) rfl hl.1 rfl (lv_room (Nat.le_of_ble_eq_true rfl)) dL_law_547 ⟨Nat.le_of_ble_eq_true rfl, Nat.le_of_ble_eq_true rfl⟩) (fun rX6 H locs hrX6 hP hD hS => ?_)
      obtain ⟨hrX6, -⟩ := hrX6
      refine lv_as hrX6.symm ?_
      refine lv_icmp_eq (tgt := 706) hx hb dL_law_550 (by decide) (fun _ => ?_) (fun c => absurd rfl c)
      exact E_706 XF YN XA XW XP XQ XO YH YM hI _ _ hP hD hS
    have q_16 := i32_nk (z := 16) (by decide) c_16
    by_cases c_17 : op = 17
    · refine lv_tableIn (tgt := 555) (off := 523) hx hb dL_law_32 (by rw [c_17]; decide) (by rw [c_17]; decide) (by rw [c_17]; rfl) (by decide) ?_
      obtain ⟨r, hf5, hf6, hI⟩ := h_noted XF XN XA XW XP XQ XO XH XM (xs (nI (i + 1)).toNatClampNeg) (xs (nI (i + 2)).toNatClampNeg) hI
      refine lv_aload_n hx hb dL_law_555 rfl (lv_at hl 1 rfl) ?_
      refine lv_aload_n hx hb dL_law_556 rfl (lv_at hl 0 rfl) ?_
      refine lv_iload_n hx hb dL_law_557 rfl (lv_at hl 3 rfl) ?_
      refine lv_iconst (v := 1) hx hb dL_law_558 (by decide) ?_
      refine lv_iadd hx hb dL_law_559 ?_
      refine lv_as (y := nI (i + 1)) (nI_add i 1).symm ?_
      refine va_sld hx hb hX hbl hbA hS v1 dL_law_560 ?_
      refine lv_aload_n hx hb dL_law_561 rfl (lv_at hl 0 rfl) ?_
      refine lv_iload_n hx hb dL_law_562 rfl (lv_at hl 3 rfl) ?_
      refine lv_iconst (v := 2) hx hb dL_law_563 (by decide) ?_
      refine lv_iadd hx hb dL_law_564 ?_
      refine lv_as (y := nI (i + 2)) (nI_add i 2).symm ?_
      refine va_sld hx hb hX hbl hbA hS v2 dL_law_565 ?_
      refine rdV (As := [.int (xs (nI (i + 1)).toNatClampNeg), .int (xs (nI (i + 2)).toNatClampNeg)]) (rest := []) ⟨hx, hb, hml, hown, hts⟩ (c_X5_noted l g aF aN aA aW aP aQ aO aH aB n _ _ _ _ _ hf5) (cwV 2 hts gL_law_X5_noted rfl rfl rfl (by decide +kernel) ⟨Nat.le_of_ble_eq_true rfl, Nat.le_of_ble_eq_true rfl⟩) hKW hP [0, 1, 2, 3, 4, 5, 6, 7, 8] rfl (va_recv hK hP (ci := 5) (q0 := 0) rfl rfl) rfl hl.1 rfl (lv_room (Nat.le_of_ble_eq_true rfl)) dL_law_566 ⟨Nat.le_of_ble_eq_true rfl, Nat.le_of_ble_eq_true rfl⟩ (fun rX5 hrX5 => ?_)
      obtain ⟨hrX5, -⟩ := hrX5
      refine lv_as hrX5.symm ?_
      refine lv_aload_n hx hb dL_law_569 rfl (lv_at hl 2 rfl) ?_
      refine lv_aload_n hx hb dL_law_570 rfl (lv_at hl 0 rfl) ?_
      refine lv_iload_n hx hb dL_law_571 rfl (lv_at hl 3 rfl) ?_
      refine lv_iconst (v := 1) hx hb dL_law_572 (by decide) ?_
      refine lv_iadd hx hb dL_law_573 ?_
      refine lv_as (y := nI (i + 1)) (nI_add i 1).symm ?_
      refine va_sld hx hb hX hbl hbA hS v1 dL_law_574 ?_
      refine lv_aload_n hx hb dL_law_575 rfl (lv_at hl 0 rfl) ?_
      refine lv_iload_n hx hb dL_law_576 rfl (lv_at hl 3 rfl) ?_
      refine lv_iconst (v := 2) hx hb dL_law_577 (by decide) ?_
      refine lv_iadd hx hb dL_law_578 ?_
      refine lv_as (y := nI (i + 2)) (nI_add i 2).symm ?_
      refine va_sld hx hb hX hbl hbA hS v2 dL_law_579 ?_
      refine rdV (As := [.int (xs (nI (i + 1)).toNatClampNeg), .int (xs (nI (i + 2)).toNatClampNeg)]) (rest := [.int r]) ⟨hx, hb, hml, hown, hts⟩ (c_X6_noted l g aM n _ _ _ _ hf6) (cwV 2 hts gL_law_X6_noted rfl rfl rfl (by decide +kernel) ⟨Nat.le_of_ble_eq_true rfl, Nat.le_of_ble_eq_true rfl⟩) hKW hP [63, 64, 65, 66, 67, 68, 69, 70, 71, 72, 73, 74] rfl (va_recv hK hP (ci := 6) (q0 := 63) rfl rfl) rfl hl.1 rfl (lv_room (Nat.le_of_ble_eq_true rfl)) dL_law_580 ⟨Nat.le_of_ble_eq_true rfl, Nat.le_of_ble_eq_true rfl⟩ (fun rX6 hrX6 => ?_)
      obtain ⟨hrX6, -⟩ := hrX6
      refine lv_as hrX6.symm ?_
      refine lv_icmp_eq (tgt := 706) hx hb dL_law_583 (by decide) (fun _ => ?_) (fun c => absurd rfl c)
      exact E_706 XF XN XA XW XP XQ XO XH XM hI _ _ hP hD hS
    have q_17 := i32_nk (z := 17) (by decide) c_17
    by_cases c_18 : op = 18
    · refine lv_tableIn (tgt := 588) (off := 556) hx hb dL_law_32 (by rw [c_18]; decide) (by rw [c_18]; decide) (by rw [c_18]; rfl) (by decide) ?_
      obtain ⟨r, YF, hf5, hf6, hI⟩ := h_longest XF XN XA XW XP XQ XO XH XM (xs (nI (i + 1)).toNatClampNeg) hI
      refine lv_aload_n hx hb dL_law_588 rfl (lv_at hl 1 rfl) ?_
      refine lv_aload_n hx hb dL_law_589 rfl (lv_at hl 0 rfl) ?_
      refine lv_iload_n hx hb dL_law_590 rfl (lv_at hl 3 rfl) ?_
      refine lv_iconst (v := 1) hx hb dL_law_591 (by decide) ?_
      refine lv_iadd hx hb dL_law_592 ?_
      refine lv_as (y := nI (i + 1)) (nI_add i 1).symm ?_
      refine va_sld hx hb hX hbl hbA hS v1 dL_law_593 ?_
      refine wr_i (rest := []) (wc := ((pF g aF (aW 0) (aN 0) (aA 0) (aH 0) (aO 0) XF ++ (pS g aN (aW 0) XN ++ (pW g aW (aP 0) (aQ 0) XW))))) (wc' := ((pF g aF (aW 0) (aN 0) (aA 0) (aH 0) (aO 0) YF ++ (pS g aN (aW 0) XN ++ (pW g aW (aP 0) (aQ 0) XW))))) (ws2 := (w5 g aF aN aA aW aP aQ aO aH aB YF XN XA XW XP XQ XO XH ++ (pM g aM XM))) hP hD hS hA [0, 1, 2, 3, 4, 5, 6, 7, 8, 16, 17, 18, 19, 20, 21, 22] rfl rfl (by rfl) (rnV (As := [.int (xs (nI (i + 1)).toNatClampNeg)]) ⟨hx, hb, hml, hown, hts⟩ (c_X5_longest l g aF aN aA aW aP aQ aO aH aB _ n _ _ _ _ _ _ hf5) (cwV 1 hts gL_law_X5_longest rfl rfl rfl (by decide +kernel) ⟨Nat.le_of_ble_eq_true rfl, Nat.le_of_ble_eq_true rfl⟩) hKW hP hD [0, 1, 2, 3, 4, 5, 6, 7, 8, 16, 17, 18, 19, 20, 21, 22] (by decide) rfl (va_recv hK hP (ci := 5) (q0 := 0) rfl rfl) rfl hl.1 rfl (lv_room (Nat.le_of_ble_eq_true rfl)) dL_law_594 ⟨Nat.le_of_ble_eq_true rfl, Nat.le_of_ble_eq_true rfl⟩) (fun rX5 H locs hrX5 hP hD hS => ?_)
      obtain ⟨hrX5, -⟩ := hrX5
      refine lv_as hrX5.symm ?_
      refine lv_aload_n hx hb dL_law_597 rfl (lv_at hl 2 rfl) ?_
      refine lv_aload_n hx hb dL_law_598 rfl (lv_at hl 0 rfl) ?_
      refine lv_iload_n hx hb dL_law_599 rfl (lv_at hl 3 rfl) ?_
      refine lv_iconst (v := 1) hx hb dL_law_600 (by decide) ?_
      refine lv_iadd hx hb dL_law_601 ?_
      refine lv_as (y := nI (i + 1)) (nI_add i 1).symm ?_
      refine va_sld hx hb hX hbl hbA hS v1 dL_law_602 ?_
      refine rdV (As := [.int (xs (nI (i + 1)).toNatClampNeg)]) (rest := [.int r]) ⟨hx, hb, hml, hown, hts⟩ (c_X6_longest l g aM n _ _ _ hf6) (cwV 1 hts gL_law_X6_longest rfl rfl rfl (by decide +kernel) ⟨Nat.le_of_ble_eq_true rfl, Nat.le_of_ble_eq_true rfl⟩) hKW hP [63, 64, 65, 66, 67, 68, 69, 70, 71, 72, 73, 74] rfl (va_recv hK hP (ci := 6) (q0 := 63) rfl rfl) rfl hl.1 rfl (lv_room (Nat.le_of_ble_eq_true rfl)) dL_law_603 ⟨Nat.le_of_ble_eq_true rfl, Nat.le_of_ble_eq_true rfl⟩ (fun rX6 hrX6 => ?_)
      obtain ⟨hrX6, -⟩ := hrX6
      refine lv_as hrX6.symm ?_
      refine lv_icmp_eq (tgt := 706) hx hb dL_law_606 (by decide) (fun _ => ?_) (fun c => absurd rfl c)
      exact E_706 YF XN XA XW XP XQ XO XH XM hI _ _ hP hD hS
    have q_18 := i32_nk (z := 18) (by decide) c_18
    by_cases c_19 : op = 19
    · refine lv_tableIn (tgt := 611) (off := 579) hx hb dL_law_32 (by rw [c_19]; decide) (by rw [c_19]; decide) (by rw [c_19]; rfl) (by decide) ?_
      obtain ⟨r, hf5, hf6, hI⟩ := h_speedFor XF XN XA XW XP XQ XO XH XM (xs (nI (i + 1)).toNatClampNeg) (xs (nI (i + 2)).toNatClampNeg) hI
      refine lv_aload_n hx hb dL_law_611 rfl (lv_at hl 1 rfl) ?_
      refine lv_aload_n hx hb dL_law_612 rfl (lv_at hl 0 rfl) ?_
      refine lv_iload_n hx hb dL_law_613 rfl (lv_at hl 3 rfl) ?_
      refine lv_iconst (v := 1) hx hb dL_law_614 (by decide) ?_
      refine lv_iadd hx hb dL_law_615 ?_
      refine lv_as (y := nI (i + 1)) (nI_add i 1).symm ?_
      refine va_sld hx hb hX hbl hbA hS v1 dL_law_616 ?_
      refine lv_aload_n hx hb dL_law_617 rfl (lv_at hl 0 rfl) ?_
      refine lv_iload_n hx hb dL_law_618 rfl (lv_at hl 3 rfl) ?_
      refine lv_iconst (v := 2) hx hb dL_law_619 (by decide) ?_
      refine lv_iadd hx hb dL_law_620 ?_
      refine lv_as (y := nI (i + 2)) (nI_add i 2).symm ?_
      refine va_sld hx hb hX hbl hbA hS v2 dL_law_621 ?_
      refine rdV (As := [.int (xs (nI (i + 1)).toNatClampNeg), .int (xs (nI (i + 2)).toNatClampNeg)]) (rest := []) ⟨hx, hb, hml, hown, hts⟩ (c_X5_speedFor l g aF aN aA aW aP aQ aO aH aB n _ _ _ _ _ _ _ hf5) (cwV 2 hts gL_law_X5_speedFor rfl rfl rfl (by decide +kernel) ⟨Nat.le_of_ble_eq_true rfl, Nat.le_of_ble_eq_true rfl⟩) hKW hP [0, 1, 2, 3, 4, 5, 6, 7, 8, 16, 17, 18, 19, 20, 21, 22, 27, 28, 29, 30] rfl (va_recv hK hP (ci := 5) (q0 := 0) rfl rfl) rfl hl.1 rfl (lv_room (Nat.le_of_ble_eq_true rfl)) dL_law_622 ⟨Nat.le_of_ble_eq_true rfl, Nat.le_of_ble_eq_true rfl⟩ (fun rX5 hrX5 => ?_)
      obtain ⟨hrX5, -⟩ := hrX5
      refine lv_as hrX5.symm ?_
      refine lv_aload_n hx hb dL_law_625 rfl (lv_at hl 2 rfl) ?_
      refine lv_aload_n hx hb dL_law_626 rfl (lv_at hl 0 rfl) ?_
      refine lv_iload_n hx hb dL_law_627 rfl (lv_at hl 3 rfl) ?_
      refine lv_iconst (v := 1) hx hb dL_law_628 (by decide) ?_
      refine lv_iadd hx hb dL_law_629 ?_
      refine lv_as (y := nI (i + 1)) (nI_add i 1).symm ?_
      refine va_sld hx hb hX hbl hbA hS v1 dL_law_630 ?_
      refine lv_aload_n hx hb dL_law_631 rfl (lv_at hl 0 rfl) ?_
      refine lv_iload_n hx hb dL_law_632 rfl (lv_at hl 3 rfl) ?_
      refine lv_iconst (v := 2) hx hb dL_law_633 (by decide) ?_
      refine lv_iadd hx hb dL_law_634 ?_
      refine lv_as (y := nI (i + 2)) (nI_add i 2).symm ?_
      refine va_sld hx hb hX hbl hbA hS v2 dL_law_635 ?_
      refine rdV (As := [.int (xs (nI (i + 1)).toNatClampNeg), .int (xs (nI (i + 2)).toNatClampNeg)]) (rest := [.int r]) ⟨hx, hb, hml, hown, hts⟩ (c_X6_speedFor l g aM n _ _ _ _ hf6) (cwV 2 hts gL_law_X6_speedFor rfl rfl rfl (by decide +kernel) ⟨Nat.le_of_ble_eq_true rfl, Nat.le_of_ble_eq_true rfl⟩) hKW hP [63, 64, 65, 66, 67, 68, 69, 70, 71, 72, 73, 74] rfl (va_recv hK hP (ci := 6) (q0 := 63) rfl rfl) rfl hl.1 rfl (lv_room (Nat.le_of_ble_eq_true rfl)) dL_law_636 ⟨Nat.le_of_ble_eq_true rfl, Nat.le_of_ble_eq_true rfl⟩ (fun rX6 hrX6 => ?_)
      obtain ⟨hrX6, -⟩ := hrX6
      refine lv_as hrX6.symm ?_
      refine lv_icmp_eq (tgt := 706) hx hb dL_law_639 (by decide) (fun _ => ?_) (fun c => absurd rfl c)
      exact E_706 XF XN XA XW XP XQ XO XH XM hI _ _ hP hD hS
    have q_19 := i32_nk (z := 19) (by decide) c_19
    by_cases c_20 : op = 20
    · refine lv_tableIn (tgt := 644) (off := 612) hx hb dL_law_32 (by rw [c_20]; decide) (by rw [c_20]; decide) (by rw [c_20]; rfl) (by decide) ?_
      obtain ⟨r, YO, YM, hf5, hf6, hI⟩ := h_order XF XN XA XW XP XQ XO XH XM (xs (nI (i + 1)).toNatClampNeg) hI
      refine lv_aload_n hx hb dL_law_644 rfl (lv_at hl 1 rfl) ?_
      refine lv_aload_n hx hb dL_law_645 rfl (lv_at hl 0 rfl) ?_
      refine lv_iload_n hx hb dL_law_646 rfl (lv_at hl 3 rfl) ?_
      refine lv_iconst (v := 1) hx hb dL_law_647 (by decide) ?_
      refine lv_iadd hx hb dL_law_648 ?_
      refine lv_as (y := nI (i + 1)) (nI_add i 1).symm ?_
      refine va_sld hx hb hX hbl hbA hS v1 dL_law_649 ?_
      refine wr_i (rest := []) (wc := ((pF g aF (aW 0) (aN 0) (aA 0) (aH 0) (aO 0) XF ++ (pO g aO XO)))) (wc' := ((pF g aF (aW 0) (aN 0) (aA 0) (aH 0) (aO 0) XF ++ (pO g aO YO)))) (ws2 := (w5 g aF aN aA aW aP aQ aO aH aB XF XN XA XW XP XQ YO XH ++ (pM g aM XM))) hP hD hS hA [0, 1, 31, 32] rfl rfl (by rfl) (rnV (As := [.int (xs (nI (i + 1)).toNatClampNeg)]) ⟨hx, hb, hml, hown, hts⟩ (c_X5_order l g aF aN aA aW aP aQ aO aH aB _ _ _ _ _ _ hf5) (cwV 1 hts gL_law_X5_order rfl rfl rfl (by decide +kernel) ⟨Nat.le_of_ble_eq_true rfl, Nat.le_of_ble_eq_true rfl⟩) hKW hP hD [0, 1, 31, 32] (by decide) rfl (va_recv hK hP (ci := 5) (q0 := 0) rfl rfl) rfl hl.1 rfl (lv_room (Nat.le_of_ble_eq_true rfl)) dL_law_650 ⟨Nat.le_of_ble_eq_true rfl, Nat.le_of_ble_eq_true rfl⟩) (fun rX5 H locs hrX5 hP hD hS => ?_)
      obtain ⟨hrX5, -⟩ := hrX5
      refine lv_as hrX5.symm ?_
      refine lv_aload_n hx hb dL_law_653 rfl (lv_at hl 2 rfl) ?_
      refine lv_aload_n hx hb dL_law_654 rfl (lv_at hl 0 rfl) ?_
      refine lv_iload_n hx hb dL_law_655 rfl (lv_at hl 3 rfl) ?_
      refine lv_iconst (v := 1) hx hb dL_law_656 (by decide) ?_
      refine lv_iadd hx hb dL_law_657 ?_
      refine lv_as (y := nI (i + 1)) (nI_add i 1).symm ?_
      refine va_sld hx hb hX hbl hbA hS v1 dL_law_658 ?_
      refine wr_i (rest := [.int r]) (wc := (pM g aM XM)) (wc' := (pM g aM YM)) (ws2 := (w5 g aF aN aA aW aP aQ aO aH aB XF XN XA XW XP XQ YO XH ++ (pM g aM YM))) hP hD hS hA [63, 64, 65, 66, 67, 68, 69, 70, 71, 72, 73, 74] rfl rfl (by rfl) (rnV (As := [.int (xs (nI (i + 1)).toNatClampNeg)]) ⟨hx, hb, hml, hown, hts⟩ (c_X6_order l g aM _ _ _ _ _ hf6) (cwV 1 hts gL_law_X6_order rfl rfl rfl (by decide +kernel) ⟨Nat.le_of_ble_eq_true rfl, Nat.le_of_ble_eq_true rfl⟩) hKW hP hD [63, 64, 65, 66, 67, 68, 69, 70, 71, 72, 73, 74] (by decide) rfl (va_recv hK hP (ci := 6) (q0 := 63) rfl rfl) rfl hl.1 rfl (lv_room (Nat.le_of_ble_eq_true rfl)) dL_law_659 ⟨Nat.le_of_ble_eq_true rfl, Nat.le_of_ble_eq_true rfl⟩) (fun rX6 H locs hrX6 hP hD hS => ?_)
      obtain ⟨hrX6, -⟩ := hrX6
      refine lv_as hrX6.symm ?_
      refine lv_icmp_eq (tgt := 706) hx hb dL_law_662 (by decide) (fun _ => ?_) (fun c => absurd rfl c)
      exact E_706 XF XN XA XW XP XQ YO XH YM hI _ _ hP hD hS
    have q_20 := i32_nk (z := 20) (by decide) c_20
    by_cases c_21 : op = 21
    · refine lv_tableIn (tgt := 667) (off := 635) hx hb dL_law_32 (by rw [c_21]; decide) (by rw [c_21]; decide) (by rw [c_21]; rfl) (by decide) ?_
      obtain ⟨r, YO, YM, hf5, hf6, hI⟩ := h_clearOrders XF XN XA XW XP XQ XO XH XM  hI
      refine lv_aload_n hx hb dL_law_667 rfl (lv_at hl 1 rfl) ?_
      refine wr_i (rest := []) (wc := ((pF g aF (aW 0) (aN 0) (aA 0) (aH 0) (aO 0) XF ++ (pO g aO XO)))) (wc' := ((pF g aF (aW 0) (aN 0) (aA 0) (aH 0) (aO 0) XF ++ (pO g aO YO)))) (ws2 := (w5 g aF aN aA aW aP aQ aO aH aB XF XN XA XW XP XQ YO XH ++ (pM g aM XM))) hP hD hS hA [0, 1, 31, 32] rfl rfl (by rfl) (rnV (As := []) ⟨hx, hb, hml, hown, hts⟩ (c_X5_clearOrders l g aF aN aA aW aP aQ aO aH aB _ _ _ _ _ hf5) (cwV 0 hts gL_law_X5_clearOrders rfl rfl rfl (by decide +kernel) ⟨Nat.le_of_ble_eq_true rfl, Nat.le_of_ble_eq_true rfl⟩) hKW hP hD [0, 1, 31, 32] (by decide) rfl (va_recv hK hP (ci := 5) (q0 := 0) rfl rfl) rfl hl.1 rfl (lv_room (Nat.le_of_ble_eq_true rfl)) dL_law_668 ⟨Nat.le_of_ble_eq_true rfl, Nat.le_of_ble_eq_true rfl⟩) (fun rX5 H locs hrX5 hP hD hS => ?_)
      obtain ⟨hrX5, -⟩ := hrX5
      refine lv_as hrX5.symm ?_
      refine lv_aload_n hx hb dL_law_671 rfl (lv_at hl 2 rfl) ?_
      refine wr_i (rest := [.int r]) (wc := (pM g aM XM)) (wc' := (pM g aM YM)) (ws2 := (w5 g aF aN aA aW aP aQ aO aH aB XF XN XA XW XP XQ YO XH ++ (pM g aM YM))) hP hD hS hA [63, 64, 65, 66, 67, 68, 69, 70, 71, 72, 73, 74] rfl rfl (by rfl) (rnV (As := []) ⟨hx, hb, hml, hown, hts⟩ (c_X6_clearOrders l g aM _ _ _ _ hf6) (cwV 0 hts gL_law_X6_clearOrders rfl rfl rfl (by decide +kernel) ⟨Nat.le_of_ble_eq_true rfl, Nat.le_of_ble_eq_true rfl⟩) hKW hP hD [63, 64, 65, 66, 67, 68, 69, 70, 71, 72, 73, 74] (by decide) rfl (va_recv hK hP (ci := 6) (q0 := 63) rfl rfl) rfl hl.1 rfl (lv_room (Nat.le_of_ble_eq_true rfl)) dL_law_672 ⟨Nat.le_of_ble_eq_true rfl, Nat.le_of_ble_eq_true rfl⟩) (fun rX6 H locs hrX6 hP hD hS => ?_)
      obtain ⟨hrX6, -⟩ := hrX6
      refine lv_as hrX6.symm ?_
      refine lv_icmp_eq (tgt := 706) hx hb dL_law_675 (by decide) (fun _ => ?_) (fun c => absurd rfl c)
      exact E_706 XF XN XA XW XP XQ YO XH YM hI _ _ hP hD hS
    have q_21 := i32_nk (z := 21) (by decide) c_21
    by_cases c_22 : op = 22
    · refine lv_tableIn (tgt := 680) (off := 648) hx hb dL_law_32 (by rw [c_22]; decide) (by rw [c_22]; decide) (by rw [c_22]; rfl) (by decide) ?_
      obtain ⟨r, YM, hf5, hf6, hI⟩ := h_fault XF XN XA XW XP XQ XO XH XM  hI
      refine lv_aload_n hx hb dL_law_680 rfl (lv_at hl 1 rfl) ?_
      refine rdV (As := []) (rest := []) ⟨hx, hb, hml, hown, hts⟩ (c_X5_fault l g aF aN aA aW aP aQ aO aH aB n _ _ _ hf5) (cwV 0 hts gL_law_X5_fault rfl rfl rfl (by decide +kernel) ⟨Nat.le_of_ble_eq_true rfl, Nat.le_of_ble_eq_true rfl⟩) hKW hP [0, 1, 31, 32] rfl (va_recv hK hP (ci := 5) (q0 := 0) rfl rfl) rfl hl.1 rfl (lv_room (Nat.le_of_ble_eq_true rfl)) dL_law_681 ⟨Nat.le_of_ble_eq_true rfl, Nat.le_of_ble_eq_true rfl⟩ (fun rX5 hrX5 => ?_)
      obtain ⟨hrX5, -⟩ := hrX5
      refine lv_as hrX5.symm ?_
      refine lv_aload_n hx hb dL_law_684 rfl (lv_at hl 2 rfl) ?_
      refine wr_i (rest := [.int r]) (wc := (pM g aM XM)) (wc' := (pM g aM YM)) (ws2 := (w5 g aF aN aA aW aP aQ aO aH aB XF XN XA XW XP XQ XO XH ++ (pM g aM YM))) hP hD hS hA [63, 64, 65, 66, 67, 68, 69, 70, 71, 72, 73, 74] rfl rfl (by rfl) (rnV (As := []) ⟨hx, hb, hml, hown, hts⟩ (c_X6_fault l g aM _ n _ _ _ hf6) (cwV 0 hts gL_law_X6_fault rfl rfl rfl (by decide +kernel) ⟨Nat.le_of_ble_eq_true rfl, Nat.le_of_ble_eq_true rfl⟩) hKW hP hD [63, 64, 65, 66, 67, 68, 69, 70, 71, 72, 73, 74] (by decide) rfl (va_recv hK hP (ci := 6) (q0 := 63) rfl rfl) rfl hl.1 rfl (lv_room (Nat.le_of_ble_eq_true rfl)) dL_law_685 ⟨Nat.le_of_ble_eq_true rfl, Nat.le_of_ble_eq_true rfl⟩) (fun rX6 H locs hrX6 hP hD hS => ?_)
      obtain ⟨hrX6, -⟩ := hrX6
      refine lv_as hrX6.symm ?_
      refine lv_icmp_eq (tgt := 706) hx hb dL_law_688 (by decide) (fun _ => ?_) (fun c => absurd rfl c)
      exact E_706 XF XN XA XW XP XQ XO XH YM hI _ _ hP hD hS
    have q_22 := i32_nk (z := 22) (by decide) c_22
    by_cases c_23 : op = 23
    · refine lv_tableIn (tgt := 693) (off := 661) hx hb dL_law_32 (by rw [c_23]; decide) (by rw [c_23]; decide) (by rw [c_23]; rfl) (by decide) ?_
      obtain ⟨r, YN, YH, YM, hf5, hf6, hI⟩ := h_carry XF XN XA XW XP XQ XO XH XM  hI
      refine lv_aload_n hx hb dL_law_693 rfl (lv_at hl 1 rfl) ?_
      refine wr_i (rest := []) (wc := ((pF g aF (aW 0) (aN 0) (aA 0) (aH 0) (aO 0) XF ++ (pS g aN (aW 0) XN ++ (pW g aW (aP 0) (aQ 0) XW ++ (pP g aP XP ++ (pO g aO XO ++ (pH g aH aB (aW 0) XH)))))))) (wc' := ((pF g aF (aW 0) (aN 0) (aA 0) (aH 0) (aO 0) XF ++ (pS g aN (aW 0) YN ++ (pW g aW (aP 0) (aQ 0) XW ++ (pP g aP XP ++ (pO g aO XO ++ (pH g aH aB (aW 0) YH)))))))) (ws2 := (w5 g aF aN aA aW aP aQ aO aH aB XF YN XA XW XP XQ XO YH ++ (pM g aM XM))) hP hD hS hA [0, 1, 2, 3, 4, 5, 6, 7, 8, 16, 17, 18, 19, 20, 21, 22, 23, 24, 25, 26, 31, 32, 33, 34, 35, 36, 37, 38, 39, 40, 41, 42, 43, 44, 45, 46, 47, 48, 49, 50, 51, 52, 53, 54, 55, 56, 57, 58, 59, 60, 61, 62] rfl rfl (by rfl) (rnV (As := []) ⟨hx, hb, hml, hown, hts⟩ (c_X5_carry l g aF aN aA aW aP aQ aO aH aB _ n _ _ _ _ _ _ _ _ _ hf5) (cwV 0 hts gL_law_X5_carry rfl rfl rfl (by decide +kernel) ⟨Nat.le_of_ble_eq_true rfl, Nat.le_of_ble_eq_true rfl⟩) hKW hP hD [0, 1, 2, 3, 4, 5, 6, 7, 8, 16, 17, 18, 19, 20, 21, 22, 23, 24, 25, 26, 31, 32, 33, 34, 35, 36, 37, 38, 39, 40, 41, 42, 43, 44, 45, 46, 47, 48, 49, 50, 51, 52, 53, 54, 55, 56, 57, 58, 59, 60, 61, 62] (by decide) rfl (va_recv hK hP (ci := 5) (q0 := 0) rfl rfl) rfl hl.1 rfl (lv_room (Nat.le_of_ble_eq_true rfl)) dL_law_694 ⟨Nat.le_of_ble_eq_true rfl, Nat.le_of_ble_eq_true rfl⟩) (fun rX5 H locs hrX5 hP hD hS => ?_)
      obtain ⟨hrX5, -⟩ := hrX5
      refine lv_as hrX5.symm ?_
      refine lv_aload_n hx hb dL_law_697 rfl (lv_at hl 2 rfl) ?_
      refine wr_i (rest := [.int r]) (wc := (pM g aM XM)) (wc' := (pM g aM YM)) (ws2 := (w5 g aF aN aA aW aP aQ aO aH aB XF YN XA XW XP XQ XO YH ++ (pM g aM YM))) hP hD hS hA [63, 64, 65, 66, 67, 68, 69, 70, 71, 72, 73, 74] rfl rfl (by rfl) (rnV (As := []) ⟨hx, hb, hml, hown, hts⟩ (c_X6_carry l g aM _ n _ _ _ hf6) (cwV 0 hts gL_law_X6_carry rfl rfl rfl (by decide +kernel) ⟨Nat.le_of_ble_eq_true rfl, Nat.le_of_ble_eq_true rfl⟩) hKW hP hD [63, 64, 65, 66, 67, 68, 69, 70, 71, 72, 73, 74] (by decide) rfl (va_recv hK hP (ci := 6) (q0 := 63) rfl rfl) rfl hl.1 rfl (lv_room (Nat.le_of_ble_eq_true rfl)) dL_law_698 ⟨Nat.le_of_ble_eq_true rfl, Nat.le_of_ble_eq_true rfl⟩) (fun rX6 H locs hrX6 hP hD hS => ?_)
      obtain ⟨hrX6, -⟩ := hrX6
      refine lv_as hrX6.symm ?_
      refine lv_icmp_eq (tgt := 706) hx hb dL_law_701 (by decide) (fun _ => ?_) (fun c => absurd rfl c)
      exact E_706 XF YN XA XW XP XQ XO YH YM hI _ _ hP hD hS
    have q_23 := i32_nk (z := 23) (by decide) c_23
    refine lv_tableOut (tgt := 706) hx hb dL_law_32 (by omega) (by decide) ?_
    exact E_706 XF XN XA XW XP XQ XO XH XM hI _ _ hP hD hS
