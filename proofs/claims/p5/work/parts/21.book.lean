set_option maxHeartbeats 8000000 in
set_option maxRecDepth 100000 in
theorem c_X1_clearDraft (l : Launch) (dC : Nat → ClassId) (dI : Nat → Nat → Nat) (cI cZ : ClassId) (sz : Nat) (h0 : Nat) (x_clauses : Nat) (x_asked : Nat) (x_signs : Nat) (x_numbers : Nat) (x_paces : Nat) (f_x_clauses : Nat → Int32) (R_x_clauses : zr f_x_clauses 10 (0) (16)) : Met l yX1_clearDraft (Cond.code yX1_clearDraft cX1_clearDraft 1 none :: lw_good) ({ frames := 0, cells := 0, slots := 0, locals := 0 }) (va_Pc [.ref h0] (fun U => U.heap.size = sz ∧ va_P (dC, dI) vwCl [(h0, .inr (1, [.ref x_clauses, .ref x_asked, .ref x_signs, .ref x_numbers, .ref x_paces])), (x_clauses, .inl (cI, 10, .inl f_x_clauses))] U.heap ∧ va_K (dC, dI) vwCl [(cI, .int), (cZ, .boolean)] U ∧ va_D (fun _ => True) [(h0, .inr (1, [.ref x_clauses, .ref x_asked, .ref x_signs, .ref x_numbers, .ref x_paces])), (x_clauses, .inl (cI, 10, .inl f_x_clauses))])) (va_Qv (fun _ : Unit => True) (fun _ t => ∃ (g_x_clauses : Nat → Int32), (zr g_x_clauses 10 (0) (16)) ∧ va_P (dC, dI) vwCl [(h0, .inr (1, [.ref x_clauses, .ref x_asked, .ref x_signs, .ref x_numbers, .ref x_paces])), (x_clauses, .inl (cI, 10, .inl g_x_clauses))] t.heap ∧ va_K (dC, dI) vwCl [(cI, .int), (cZ, .boolean)] t ∧ va_D (va_A [(h0, .inr (1, [.ref x_clauses, .ref x_asked, .ref x_signs, .ref x_numbers, .ref x_paces])), (x_clauses, .inl (cI, 10, .inl f_x_clauses))] sz) [(h0, .inr (1, [.ref x_clauses, .ref x_asked, .ref x_signs, .ref x_numbers, .ref x_paces])), (x_clauses, .inl (cI, 10, .inl g_x_clauses))]) (va_A [(h0, .inr (1, [.ref x_clauses, .ref x_asked, .ref x_signs, .ref x_numbers, .ref x_paces])), (x_clauses, .inl (cI, 10, .inl f_x_clauses))] sz)) 0 0 (va_A [(h0, .inr (1, [.ref x_clauses, .ref x_asked, .ref x_signs, .ref x_numbers, .ref x_paces])), (x_clauses, .inl (cI, 10, .inl f_x_clauses))] sz) := by
  refine Met.ofW (cc := cX1_clearDraft) (maxL := 1) (ret := none) (by decide) rfl ?_
  intro p e s m args below meth c s₁ B hml hv
  obtain ⟨rfl, hsz, hP, hK, hD0⟩ := hv
  have hx := B.exec
  have hb := B.bytes
  have hr := B.returns
  have hts := atoms_spec (ws := Cond.code yX1_clearDraft cX1_clearDraft 1 none :: lw_good) B.pre
  have hown : s.vm.findClass RX1 = some m.cls := findClass_of_methodNamed B.named
  have hlocks := B.notSynchronized
  have hiX1 : ∀ w ∈ wsX10, w ∈ (Cond.code yX1_clearDraft cX1_clearDraft 1 none :: lw_good) := fun w h => List.mem_cons_of_mem _ (zi_X1 w h)
  have hw0 := hts (.fieldLink RX1 9 "BunchRace$OrderBook" "clauses" "[I") (List.mem_cons_of_mem _ zw_157)
  subst hsz
  have hD := hD0.self (sz := s.heap.size)
  generalize hAe : va_A [(h0, .inr (1, [.ref x_clauses, .ref x_asked, .ref x_signs, .ref x_numbers, .ref x_paces])), (x_clauses, .inl (cI, 10, .inl f_x_clauses))] s.heap.size = A at hD ⊢
  have hA : ∀ q : Nat, s.heap.size ≤ q → A q := fun q h => by rw [← hAe]; exact Or.inr h
  have hS : va_S A s.heap s.heap [] := va_S.rf
  have hP : va_P (dC, dI) vwCl [(h0, .inr (1, [.ref x_clauses, .ref x_asked, .ref x_signs, .ref x_numbers, .ref x_paces])), (x_clauses, .inl (cI, 10, .inl f_x_clauses))] s.heap := hP
  have hl := lv_entry ([.ref h0]) (n := 1) (Nat.le_of_ble_eq_true rfl)
  rw [lg_entry_eq]
  generalize (lg_sl ([.ref h0]) ++ List.replicate (1 - (lg_sl ([.ref h0])).length) Slot.unset).toArray = ls at hl ⊢
  have hl : lv_has ls 1 [(0, .ref h0)] := hl
  refine lv_aload_n hx hb dX1_clearDraft_0 rfl (lv_at hl 0 rfl) ?_
  refine va_get (D := (dC, dI)) (ci := 1) (v := .ref x_clauses) (C := RX1) (T := TX1) (N := 5) hx hb hts hiX1 hown hK hP 0 rfl rfl 0 (by decide) hw0 (fun _ h9 => h9) rfl dX1_clearDraft_1 ?_
  refine lv_bipush (v := 9) hx hb dX1_clearDraft_4 (by decide) ?_
  refine lv_iconst (v := 0) hx hb dX1_clearDraft_6 (by decide) ?_
  refine va_iast hx hb hK hP hD hS 1 0 rfl rfl (zz_inl rfl) dX1_clearDraft_7 (fun H locs hP hD hS => ?_)
  have hP : va_P (dC, dI) vwCl [(h0, .inr (1, [.ref x_clauses, .ref x_asked, .ref x_signs, .ref x_numbers, .ref x_paces])), (x_clauses, .inl (cI, 10, .inl (upd f_x_clauses (Int32.toNatClampNeg 9) 0)))] H := hP
  have hD : va_D A [(h0, .inr (1, [.ref x_clauses, .ref x_asked, .ref x_signs, .ref x_numbers, .ref x_paces])), (x_clauses, .inl (cI, 10, .inl (upd f_x_clauses (Int32.toNatClampNeg 9) 0)))] := hD
  have R_2 : zr (upd f_x_clauses (Int32.toNatClampNeg 9) 0) 10 (0) (16) := zr_upd (b := (0:Int)) R_x_clauses _ (by decide) (by omega) (by omega)
  generalize upd f_x_clauses (Int32.toNatClampNeg 9) 0 = f_1 at hP hD R_2
  have hP9 := hP.sub (ws' := [(h0, .inr (1, [.ref x_clauses, .ref x_asked, .ref x_signs, .ref x_numbers, .ref x_paces])), (x_clauses, .inl (cI, 10, .inl f_1))]) [0, 1] rfl
  have hD9 := hD.sub (ws' := [(h0, .inr (1, [.ref x_clauses, .ref x_asked, .ref x_signs, .ref x_numbers, .ref x_paces])), (x_clauses, .inl (cI, 10, .inl f_1))]) [0, 1] (by decide) rfl
  have hf9_0 : zr f_1 10 (0) (16) := R_2
  exact W.vret hx hb hr (fun t ht hW => ⟨⟨(), rfl, trivial, f_1, hf9_0, by rw [ht]; exact hP9, va_K.moved hW.alike hK, hD9⟩, hS.F ht⟩) hS.2.2 dX1_clearDraft_8

set_option maxHeartbeats 8000000 in
set_option maxRecDepth 100000 in
theorem c_X1_draftClause (l : Launch) (dC : Nat → ClassId) (dI : Nat → Nat → Nat) (cI cZ : ClassId) (sz : Nat) (h0 : Nat) (pA : Int32) (pA_i : Int) (pA_h : pA.toInt = pA_i) (B_pA : 0 ≤ pA_i ∧ pA_i ≤ 4) (pS : Int32) (pS_i : Int) (pS_h : pS.toInt = pS_i) (pN : Int32) (pN_i : Int) (pN_h : pN.toInt = pN_i) (pP : Int32) (pP_i : Int) (pP_h : pP.toInt = pP_i) (B_pP : 0 ≤ pP_i ∧ pP_i ≤ 9) (x_clauses : Nat) (x_asked : Nat) (x_signs : Nat) (x_numbers : Nat) (x_paces : Nat) (f_x_clauses : Nat → Int32) (R_x_clauses : zr f_x_clauses 10 (0) (16)) (f_x_asked : Nat → Int32) (R_x_asked : zr f_x_asked 160 (0) (4)) (f_x_signs : Nat → Int32) (f_x_numbers : Nat → Int32) (f_x_paces : Nat → Int32) (R_x_paces : zr f_x_paces 160 (0) (9)) : Met l yX1_draftClause (Cond.code yX1_draftClause cX1_draftClause 6 none :: lw_good) ({ frames := 0, cells := 0, slots := 0, locals := 0 }) (va_Pc [.ref h0, .int pA, .int pS, .int pN, .int pP] (fun U => U.heap.size = sz ∧ va_P (dC, dI) vwCl [(h0, .inr (1, [.ref x_clauses, .ref x_asked, .ref x_signs, .ref x_numbers, .ref x_paces])), (x_clauses, .inl (cI, 10, .inl f_x_clauses)), (x_asked, .inl (cI, 160, .inl f_x_asked)), (x_signs, .inl (cI, 160, .inl f_x_signs)), (x_numbers, .inl (cI, 160, .inl f_x_numbers)), (x_paces, .inl (cI, 160, .inl f_x_paces))] U.heap ∧ va_K (dC, dI) vwCl [(cI, .int), (cZ, .boolean)] U ∧ va_D (fun _ => True) [(h0, .inr (1, [.ref x_clauses, .ref x_asked, .ref x_signs, .ref x_numbers, .ref x_paces])), (x_clauses, .inl (cI, 10, .inl f_x_clauses)), (x_asked, .inl (cI, 160, .inl f_x_asked)), (x_signs, .inl (cI, 160, .inl f_x_signs)), (x_numbers, .inl (cI, 160, .inl f_x_numbers)), (x_paces, .inl (cI, 160, .inl f_x_paces))])) (va_Qv (fun _ : Unit => True) (fun _ t => ∃ (g_x_clauses : Nat → Int32) (g_x_asked : Nat → Int32) (g_x_signs : Nat → Int32) (g_x_numbers : Nat → Int32) (g_x_paces : Nat → Int32), (zr g_x_clauses 10 (0) (16)) ∧ (zr g_x_asked 160 (0) (4)) ∧ (zr g_x_paces 160 (0) (9)) ∧ va_P (dC, dI) vwCl [(h0, .inr (1, [.ref x_clauses, .ref x_asked, .ref x_signs, .ref x_numbers, .ref x_paces])), (x_clauses, .inl (cI, 10, .inl g_x_clauses)), (x_asked, .inl (cI, 160, .inl g_x_asked)), (x_signs, .inl (cI, 160, .inl g_x_signs)), (x_numbers, .inl (cI, 160, .inl g_x_numbers)), (x_paces, .inl (cI, 160, .inl g_x_paces))] t.heap ∧ va_K (dC, dI) vwCl [(cI, .int), (cZ, .boolean)] t ∧ va_D (va_A [(h0, .inr (1, [.ref x_clauses, .ref x_asked, .ref x_signs, .ref x_numbers, .ref x_paces])), (x_clauses, .inl (cI, 10, .inl f_x_clauses)), (x_asked, .inl (cI, 160, .inl f_x_asked)), (x_signs, .inl (cI, 160, .inl f_x_signs)), (x_numbers, .inl (cI, 160, .inl f_x_numbers)), (x_paces, .inl (cI, 160, .inl f_x_paces))] sz) [(h0, .inr (1, [.ref x_clauses, .ref x_asked, .ref x_signs, .ref x_numbers, .ref x_paces])), (x_clauses, .inl (cI, 10, .inl g_x_clauses)), (x_asked, .inl (cI, 160, .inl g_x_asked)), (x_signs, .inl (cI, 160, .inl g_x_signs)), (x_numbers, .inl (cI, 160, .inl g_x_numbers)), (x_paces, .inl (cI, 160, .inl g_x_paces))]) (va_A [(h0, .inr (1, [.ref x_clauses, .ref x_asked, .ref x_signs, .ref x_numbers, .ref x_paces])), (x_clauses, .inl (cI, 10, .inl f_x_clauses)), (x_asked, .inl (cI, 160, .inl f_x_asked)), (x_signs, .inl (cI, 160, .inl f_x_signs)), (x_numbers, .inl (cI, 160, .inl f_x_numbers)), (x_paces, .inl (cI, 160, .inl f_x_paces))] sz)) 0 0 (va_A [(h0, .inr (1, [.ref x_clauses, .ref x_asked, .ref x_signs, .ref x_numbers, .ref x_paces])), (x_clauses, .inl (cI, 10, .inl f_x_clauses)), (x_asked, .inl (cI, 160, .inl f_x_asked)), (x_signs, .inl (cI, 160, .inl f_x_signs)), (x_numbers, .inl (cI, 160, .inl f_x_numbers)), (x_paces, .inl (cI, 160, .inl f_x_paces))] sz) := by
  refine Met.ofW (cc := cX1_draftClause) (maxL := 6) (ret := none) (by decide) rfl ?_
  intro p e s m args below meth c s₁ B hml hv
  obtain ⟨rfl, hsz, hP, hK, hD0⟩ := hv
  have hx := B.exec
  have hb := B.bytes
  have hr := B.returns
  have hts := atoms_spec (ws := Cond.code yX1_draftClause cX1_draftClause 6 none :: lw_good) B.pre
  have hown : s.vm.findClass RX1 = some m.cls := findClass_of_methodNamed B.named
  have hlocks := B.notSynchronized
  have hiX1 : ∀ w ∈ wsX10, w ∈ (Cond.code yX1_draftClause cX1_draftClause 6 none :: lw_good) := fun w h => List.mem_cons_of_mem _ (zi_X1 w h)
  have hw0 := hts (.fieldLink RX1 9 "BunchRace$OrderBook" "clauses" "[I") (List.mem_cons_of_mem _ zw_157)
  have hw1 := hts (.fieldLink RX1 15 "BunchRace$OrderBook" "asked" "[I") (List.mem_cons_of_mem _ zw_158)
  have hw2 := hts (.fieldLink RX1 18 "BunchRace$OrderBook" "signs" "[I") (List.mem_cons_of_mem _ zw_159)
  have hw3 := hts (.fieldLink RX1 21 "BunchRace$OrderBook" "numbers" "[I") (List.mem_cons_of_mem _ zw_160)
  have hw4 := hts (.fieldLink RX1 24 "BunchRace$OrderBook" "paces" "[I") (List.mem_cons_of_mem _ zw_161)
  subst hsz
  have hD := hD0.self (sz := s.heap.size)
  generalize hAe : va_A [(h0, .inr (1, [.ref x_clauses, .ref x_asked, .ref x_signs, .ref x_numbers, .ref x_paces])), (x_clauses, .inl (cI, 10, .inl f_x_clauses)), (x_asked, .inl (cI, 160, .inl f_x_asked)), (x_signs, .inl (cI, 160, .inl f_x_signs)), (x_numbers, .inl (cI, 160, .inl f_x_numbers)), (x_paces, .inl (cI, 160, .inl f_x_paces))] s.heap.size = A at hD ⊢
  have hA : ∀ q : Nat, s.heap.size ≤ q → A q := fun q h => by rw [← hAe]; exact Or.inr h
  have hS : va_S A s.heap s.heap [] := va_S.rf
  have hP : va_P (dC, dI) vwCl [(h0, .inr (1, [.ref x_clauses, .ref x_asked, .ref x_signs, .ref x_numbers, .ref x_paces])), (x_clauses, .inl (cI, 10, .inl f_x_clauses)), (x_asked, .inl (cI, 160, .inl f_x_asked)), (x_signs, .inl (cI, 160, .inl f_x_signs)), (x_numbers, .inl (cI, 160, .inl f_x_numbers)), (x_paces, .inl (cI, 160, .inl f_x_paces))] s.heap := hP
  have hl := lv_entry ([.ref h0, .int pA, .int pS, .int pN, .int pP]) (n := 6) (Nat.le_of_ble_eq_true rfl)
  rw [lg_entry_eq]
  generalize (lg_sl ([.ref h0, .int pA, .int pS, .int pN, .int pP]) ++ List.replicate (6 - (lg_sl ([.ref h0, .int pA, .int pS, .int pN, .int pP])).length) Slot.unset).toArray = ls at hl ⊢
  have hl : lv_has ls 6 [(0, .ref h0), (1, .int pA), (2, .int pS), (3, .int pN), (4, .int pP)] := hl
  refine lv_aload_n hx hb dX1_draftClause_0 rfl (lv_at hl 0 rfl) ?_
  refine va_get (D := (dC, dI)) (ci := 1) (v := .ref x_clauses) (C := RX1) (T := TX1) (N := 5) hx hb hts hiX1 hown hK hP 0 rfl rfl 0 (by decide) hw0 (fun _ h9 => h9) rfl dX1_draftClause_1 ?_
  refine lv_bipush (v := 9) hx hb dX1_draftClause_4 (by decide) ?_
  refine va_iald hx hb hK hP 1 0 rfl rfl (zz_inl rfl) dX1_draftClause_6 ?_
  refine lv_topi (fun v_1 ev_1 => ?_)
  have bv_1 : 0 ≤ v_1.toInt ∧ v_1.toInt ≤ 16 := by rw [ev_1]; exact zr_get (a := (9:Int)) R_x_clauses (by decide) (by omega) (by omega)
  refine lv_bipush (v := 16) hx hb dX1_draftClause_7 (by decide) ?_
  refine lv_icmp_lt (tgt := 13) hx hb dX1_draftClause_9 (by decide) (fun c_2 => ?_) (fun c_2 => ?_)
  ·
    have c_2 : (v_1).toInt < (16:Int) := zz_lt rfl (by decide) c_2
    refine lv_sipush (v := 144) hx hb dX1_draftClause_13 (by decide) ?_
    refine lv_aload_n hx hb dX1_draftClause_16 rfl (lv_at hl 0 rfl) ?_
    refine va_get (D := (dC, dI)) (ci := 1) (v := .ref x_clauses) (C := RX1) (T := TX1) (N := 5) hx hb hts hiX1 hown hK hP 0 rfl rfl 0 (by decide) hw0 (fun _ h9 => h9) rfl dX1_draftClause_17 ?_
    refine lv_bipush (v := 9) hx hb dX1_draftClause_20 (by decide) ?_
    refine va_iald hx hb hK hP 1 0 rfl rfl (zz_inl rfl) dX1_draftClause_22 ?_
    refine lv_topi (fun v_3 ev_3 => ?_)
    obtain rfl : v_1 = v_3 := ev_1.trans ev_3.symm
    refine lv_iadd hx hb dX1_draftClause_23 ?_
    refine lv_topi (fun v_4 ev_4 => ?_)
    have hv_4 : v_4.toInt = ((144:Int) + (v_1).toInt) := by rw [ev_4]; exact zz_addI (by decide) rfl (by omega) (by omega)
    refine lv_istore (lv' := [(5, .int v_4), (0, .ref h0), (1, .int pA), (2, .int pS), (3, .int pN), (4, .int pP)]) hx hb dX1_draftClause_24 hl (by decide) rfl (fun ls hl => ?_)
    refine lv_aload_n hx hb dX1_draftClause_26 rfl (lv_at hl 1 rfl) ?_
    refine va_get (D := (dC, dI)) (ci := 1) (v := .ref x_asked) (C := RX1) (T := TX1) (N := 5) hx hb hts hiX1 hown hK hP 0 rfl rfl 1 (by decide) hw1 (fun _ h9 => h9) rfl dX1_draftClause_27 ?_
    refine lv_iload hx hb dX1_draftClause_30 (lv_at hl 0 rfl) ?_
    refine lv_iload_n hx hb dX1_draftClause_32 rfl (lv_at hl 2 rfl) ?_
    refine va_iast hx hb hK hP hD hS 2 0 rfl rfl (zz_in (a := ((144:Int) + (v_1).toInt)) hv_4 (by omega) (by omega)) dX1_draftClause_33 (fun H locs hP hD hS => ?_)
    have hP : va_P (dC, dI) vwCl [(h0, .inr (1, [.ref x_clauses, .ref x_asked, .ref x_signs, .ref x_numbers, .ref x_paces])), (x_clauses, .inl (cI, 10, .inl f_x_clauses)), (x_asked, .inl (cI, 160, .inl (upd f_x_asked (Int32.toNatClampNeg v_4) pA))), (x_signs, .inl (cI, 160, .inl f_x_signs)), (x_numbers, .inl (cI, 160, .inl f_x_numbers)), (x_paces, .inl (cI, 160, .inl f_x_paces))] H := hP
    have hD : va_D A [(h0, .inr (1, [.ref x_clauses, .ref x_asked, .ref x_signs, .ref x_numbers, .ref x_paces])), (x_clauses, .inl (cI, 10, .inl f_x_clauses)), (x_asked, .inl (cI, 160, .inl (upd f_x_asked (Int32.toNatClampNeg v_4) pA))), (x_signs, .inl (cI, 160, .inl f_x_signs)), (x_numbers, .inl (cI, 160, .inl f_x_numbers)), (x_paces, .inl (cI, 160, .inl f_x_paces))] := hD
    have R_6 : zr (upd f_x_asked (Int32.toNatClampNeg v_4) pA) 160 (0) (4) := zr_upd (b := pA_i) R_x_asked _ pA_h (by omega) (by omega)
    generalize upd f_x_asked (Int32.toNatClampNeg v_4) pA = f_5 at hP hD R_6
    refine lv_aload_n hx hb dX1_draftClause_34 rfl (lv_at hl 1 rfl) ?_
    refine va_get (D := (dC, dI)) (ci := 1) (v := .ref x_signs) (C := RX1) (T := TX1) (N := 5) hx hb hts hiX1 hown hK hP 0 rfl rfl 2 (by decide) hw2 (fun _ h9 => h9) rfl dX1_draftClause_35 ?_
    refine lv_iload hx hb dX1_draftClause_38 (lv_at hl 0 rfl) ?_
    refine lv_iload_n hx hb dX1_draftClause_40 rfl (lv_at hl 3 rfl) ?_
    refine va_iast hx hb hK hP hD hS 3 0 rfl rfl (zz_in (a := ((144:Int) + (v_1).toInt)) hv_4 (by omega) (by omega)) dX1_draftClause_41 (fun H locs hP hD hS => ?_)
    have hP : va_P (dC, dI) vwCl [(h0, .inr (1, [.ref x_clauses, .ref x_asked, .ref x_signs, .ref x_numbers, .ref x_paces])), (x_clauses, .inl (cI, 10, .inl f_x_clauses)), (x_asked, .inl (cI, 160, .inl f_5)), (x_signs, .inl (cI, 160, .inl (upd f_x_signs (Int32.toNatClampNeg v_4) pS))), (x_numbers, .inl (cI, 160, .inl f_x_numbers)), (x_paces, .inl (cI, 160, .inl f_x_paces))] H := hP
    have hD : va_D A [(h0, .inr (1, [.ref x_clauses, .ref x_asked, .ref x_signs, .ref x_numbers, .ref x_paces])), (x_clauses, .inl (cI, 10, .inl f_x_clauses)), (x_asked, .inl (cI, 160, .inl f_5)), (x_signs, .inl (cI, 160, .inl (upd f_x_signs (Int32.toNatClampNeg v_4) pS))), (x_numbers, .inl (cI, 160, .inl f_x_numbers)), (x_paces, .inl (cI, 160, .inl f_x_paces))] := hD
    generalize upd f_x_signs (Int32.toNatClampNeg v_4) pS = f_7 at hP hD
    refine lv_aload_n hx hb dX1_draftClause_42 rfl (lv_at hl 1 rfl) ?_
    refine va_get (D := (dC, dI)) (ci := 1) (v := .ref x_numbers) (C := RX1) (T := TX1) (N := 5) hx hb hts hiX1 hown hK hP 0 rfl rfl 3 (by decide) hw3 (fun _ h9 => h9) rfl dX1_draftClause_43 ?_
    refine lv_iload hx hb dX1_draftClause_46 (lv_at hl 0 rfl) ?_
    refine lv_iload_n hx hb dX1_draftClause_48 rfl (lv_at hl 4 rfl) ?_
    refine va_iast hx hb hK hP hD hS 4 0 rfl rfl (zz_in (a := ((144:Int) + (v_1).toInt)) hv_4 (by omega) (by omega)) dX1_draftClause_49 (fun H locs hP hD hS => ?_)
    have hP : va_P (dC, dI) vwCl [(h0, .inr (1, [.ref x_clauses, .ref x_asked, .ref x_signs, .ref x_numbers, .ref x_paces])), (x_clauses, .inl (cI, 10, .inl f_x_clauses)), (x_asked, .inl (cI, 160, .inl f_5)), (x_signs, .inl (cI, 160, .inl f_7)), (x_numbers, .inl (cI, 160, .inl (upd f_x_numbers (Int32.toNatClampNeg v_4) pN))), (x_paces, .inl (cI, 160, .inl f_x_paces))] H := hP
    have hD : va_D A [(h0, .inr (1, [.ref x_clauses, .ref x_asked, .ref x_signs, .ref x_numbers, .ref x_paces])), (x_clauses, .inl (cI, 10, .inl f_x_clauses)), (x_asked, .inl (cI, 160, .inl f_5)), (x_signs, .inl (cI, 160, .inl f_7)), (x_numbers, .inl (cI, 160, .inl (upd f_x_numbers (Int32.toNatClampNeg v_4) pN))), (x_paces, .inl (cI, 160, .inl f_x_paces))] := hD
    generalize upd f_x_numbers (Int32.toNatClampNeg v_4) pN = f_8 at hP hD
    refine lv_aload_n hx hb dX1_draftClause_50 rfl (lv_at hl 1 rfl) ?_
    refine va_get (D := (dC, dI)) (ci := 1) (v := .ref x_paces) (C := RX1) (T := TX1) (N := 5) hx hb hts hiX1 hown hK hP 0 rfl rfl 4 (by decide) hw4 (fun _ h9 => h9) rfl dX1_draftClause_51 ?_
    refine lv_iload hx hb dX1_draftClause_54 (lv_at hl 0 rfl) ?_
    refine lv_iload hx hb dX1_draftClause_56 (lv_at hl 5 rfl) ?_
    refine va_iast hx hb hK hP hD hS 5 0 rfl rfl (zz_in (a := ((144:Int) + (v_1).toInt)) hv_4 (by omega) (by omega)) dX1_draftClause_58 (fun H locs hP hD hS => ?_)
    have hP : va_P (dC, dI) vwCl [(h0, .inr (1, [.ref x_clauses, .ref x_asked, .ref x_signs, .ref x_numbers, .ref x_paces])), (x_clauses, .inl (cI, 10, .inl f_x_clauses)), (x_asked, .inl (cI, 160, .inl f_5)), (x_signs, .inl (cI, 160, .inl f_7)), (x_numbers, .inl (cI, 160, .inl f_8)), (x_paces, .inl (cI, 160, .inl (upd f_x_paces (Int32.toNatClampNeg v_4) pP)))] H := hP
    have hD : va_D A [(h0, .inr (1, [.ref x_clauses, .ref x_asked, .ref x_signs, .ref x_numbers, .ref x_paces])), (x_clauses, .inl (cI, 10, .inl f_x_clauses)), (x_asked, .inl (cI, 160, .inl f_5)), (x_signs, .inl (cI, 160, .inl f_7)), (x_numbers, .inl (cI, 160, .inl f_8)), (x_paces, .inl (cI, 160, .inl (upd f_x_paces (Int32.toNatClampNeg v_4) pP)))] := hD
    have R_10 : zr (upd f_x_paces (Int32.toNatClampNeg v_4) pP) 160 (0) (9) := zr_upd (b := pP_i) R_x_paces _ pP_h (by omega) (by omega)
    generalize upd f_x_paces (Int32.toNatClampNeg v_4) pP = f_9 at hP hD R_10
    refine lv_aload_n hx hb dX1_draftClause_59 rfl (lv_at hl 1 rfl) ?_
    refine va_get (D := (dC, dI)) (ci := 1) (v := .ref x_clauses) (C := RX1) (T := TX1) (N := 5) hx hb hts hiX1 hown hK hP 0 rfl rfl 0 (by decide) hw0 (fun _ h9 => h9) rfl dX1_draftClause_60 ?_
    refine lv_bipush (v := 9) hx hb dX1_draftClause_63 (by decide) ?_
    refine lv_dup2_11 hx hb dX1_draftClause_65 rfl rfl ?_
    refine va_iald hx hb hK hP 1 0 rfl rfl (zz_inl rfl) dX1_draftClause_66 ?_
    refine lv_topi (fun v_11 ev_11 => ?_)
    obtain rfl : v_1 = v_11 := ev_1.trans ev_11.symm
    refine lv_iconst (v := 1) hx hb dX1_draftClause_67 (by decide) ?_
    refine lv_iadd hx hb dX1_draftClause_68 ?_
    refine lv_topi (fun v_12 ev_12 => ?_)
    have hv_12 : v_12.toInt = ((v_1).toInt + (1:Int)) := by rw [ev_12]; exact zz_addI rfl (by decide) (by omega) (by omega)
    refine va_iast hx hb hK hP hD hS 1 0 rfl rfl (zz_inl rfl) dX1_draftClause_69 (fun H locs hP hD hS => ?_)
    have hP : va_P (dC, dI) vwCl [(h0, .inr (1, [.ref x_clauses, .ref x_asked, .ref x_signs, .ref x_numbers, .ref x_paces])), (x_clauses, .inl (cI, 10, .inl (upd f_x_clauses (Int32.toNatClampNeg 9) v_12))), (x_asked, .inl (cI, 160, .inl f_5)), (x_signs, .inl (cI, 160, .inl f_7)), (x_numbers, .inl (cI, 160, .inl f_8)), (x_paces, .inl (cI, 160, .inl f_9))] H := hP
    have hD : va_D A [(h0, .inr (1, [.ref x_clauses, .ref x_asked, .ref x_signs, .ref x_numbers, .ref x_paces])), (x_clauses, .inl (cI, 10, .inl (upd f_x_clauses (Int32.toNatClampNeg 9) v_12))), (x_asked, .inl (cI, 160, .inl f_5)), (x_signs, .inl (cI, 160, .inl f_7)), (x_numbers, .inl (cI, 160, .inl f_8)), (x_paces, .inl (cI, 160, .inl f_9))] := hD
    have R_14 : zr (upd f_x_clauses (Int32.toNatClampNeg 9) v_12) 10 (0) (16) := zr_upd (b := ((v_1).toInt + (1:Int))) R_x_clauses _ hv_12 (by omega) (by omega)
    generalize upd f_x_clauses (Int32.toNatClampNeg 9) v_12 = f_13 at hP hD R_14
    have hP9 := hP.sub (ws' := [(h0, .inr (1, [.ref x_clauses, .ref x_asked, .ref x_signs, .ref x_numbers, .ref x_paces])), (x_clauses, .inl (cI, 10, .inl f_13)), (x_asked, .inl (cI, 160, .inl f_5)), (x_signs, .inl (cI, 160, .inl f_7)), (x_numbers, .inl (cI, 160, .inl f_8)), (x_paces, .inl (cI, 160, .inl f_9))]) [0, 1, 2, 3, 4, 5] rfl
    have hD9 := hD.sub (ws' := [(h0, .inr (1, [.ref x_clauses, .ref x_asked, .ref x_signs, .ref x_numbers, .ref x_paces])), (x_clauses, .inl (cI, 10, .inl f_13)), (x_asked, .inl (cI, 160, .inl f_5)), (x_signs, .inl (cI, 160, .inl f_7)), (x_numbers, .inl (cI, 160, .inl f_8)), (x_paces, .inl (cI, 160, .inl f_9))]) [0, 1, 2, 3, 4, 5] (by decide) rfl
    have hf9_0 : zr f_13 10 (0) (16) := R_14
    have hf9_1 : zr f_5 160 (0) (4) := R_6
    have hf9_2 : zr f_9 160 (0) (9) := R_10
    exact W.vret hx hb hr (fun t ht hW => ⟨⟨(), rfl, trivial, f_13, f_5, f_7, f_8, f_9, hf9_0, hf9_1, hf9_2, by rw [ht]; exact hP9, va_K.moved hW.alike hK, hD9⟩, hS.F ht⟩) hS.2.2 dX1_draftClause_70
  ·
    have c_2 : ¬ ((v_1).toInt < (16:Int)) := zz_ltn rfl (by decide) c_2
    have hP9 := hP.sub (ws' := [(h0, .inr (1, [.ref x_clauses, .ref x_asked, .ref x_signs, .ref x_numbers, .ref x_paces])), (x_clauses, .inl (cI, 10, .inl f_x_clauses)), (x_asked, .inl (cI, 160, .inl f_x_asked)), (x_signs, .inl (cI, 160, .inl f_x_signs)), (x_numbers, .inl (cI, 160, .inl f_x_numbers)), (x_paces, .inl (cI, 160, .inl f_x_paces))]) [0, 1, 2, 3, 4, 5] rfl
    have hD9 := hD.sub (ws' := [(h0, .inr (1, [.ref x_clauses, .ref x_asked, .ref x_signs, .ref x_numbers, .ref x_paces])), (x_clauses, .inl (cI, 10, .inl f_x_clauses)), (x_asked, .inl (cI, 160, .inl f_x_asked)), (x_signs, .inl (cI, 160, .inl f_x_signs)), (x_numbers, .inl (cI, 160, .inl f_x_numbers)), (x_paces, .inl (cI, 160, .inl f_x_paces))]) [0, 1, 2, 3, 4, 5] (by decide) rfl
    have hf9_0 : zr f_x_clauses 10 (0) (16) := R_x_clauses
    have hf9_1 : zr f_x_asked 160 (0) (4) := R_x_asked
    have hf9_2 : zr f_x_paces 160 (0) (9) := R_x_paces
    exact W.vret hx hb hr (fun t ht hW => ⟨⟨(), rfl, trivial, f_x_clauses, f_x_asked, f_x_signs, f_x_numbers, f_x_paces, hf9_0, hf9_1, hf9_2, by rw [ht]; exact hP9, va_K.moved hW.alike hK, hD9⟩, hS.F ht⟩) hS.2.2 dX1_draftClause_12

set_option maxHeartbeats 8000000 in
set_option maxRecDepth 100000 in
theorem c_X1_takeDraft (l : Launch) (dC : Nat → ClassId) (dI : Nat → Nat → Nat) (cI cZ : ClassId) (sz : Nat) (h0 : Nat) (pR : Int32) (pR_i : Int) (pR_h : pR.toInt = pR_i) (B_pR : 0 ≤ pR_i ∧ pR_i ≤ 8) (x_clauses : Nat) (x_asked : Nat) (x_signs : Nat) (x_numbers : Nat) (x_paces : Nat) (f_x_clauses : Nat → Int32) (R_x_clauses : zr f_x_clauses 10 (0) (16)) (f_x_asked : Nat → Int32) (R_x_asked : zr f_x_asked 160 (0) (4)) (f_x_signs : Nat → Int32) (f_x_numbers : Nat → Int32) (f_x_paces : Nat → Int32) (R_x_paces : zr f_x_paces 160 (0) (9)) : Met l yX1_takeDraft (Cond.code yX1_takeDraft cX1_takeDraft 5 none :: lw_good) ({ frames := 0, cells := 0, slots := 0, locals := 0 }) (va_Pc [.ref h0, .int pR] (fun U => U.heap.size = sz ∧ va_P (dC, dI) vwCl [(h0, .inr (1, [.ref x_clauses, .ref x_asked, .ref x_signs, .ref x_numbers, .ref x_paces])), (x_clauses, .inl (cI, 10, .inl f_x_clauses)), (x_asked, .inl (cI, 160, .inl f_x_asked)), (x_signs, .inl (cI, 160, .inl f_x_signs)), (x_numbers, .inl (cI, 160, .inl f_x_numbers)), (x_paces, .inl (cI, 160, .inl f_x_paces))] U.heap ∧ va_K (dC, dI) vwCl [(cI, .int), (cZ, .boolean)] U ∧ va_D (fun _ => True) [(h0, .inr (1, [.ref x_clauses, .ref x_asked, .ref x_signs, .ref x_numbers, .ref x_paces])), (x_clauses, .inl (cI, 10, .inl f_x_clauses)), (x_asked, .inl (cI, 160, .inl f_x_asked)), (x_signs, .inl (cI, 160, .inl f_x_signs)), (x_numbers, .inl (cI, 160, .inl f_x_numbers)), (x_paces, .inl (cI, 160, .inl f_x_paces))])) (va_Qv (fun _ : Unit => True) (fun _ t => ∃ (g_x_clauses : Nat → Int32) (g_x_asked : Nat → Int32) (g_x_signs : Nat → Int32) (g_x_numbers : Nat → Int32) (g_x_paces : Nat → Int32), (zr g_x_clauses 10 (0) (16)) ∧ (zr g_x_asked 160 (0) (4)) ∧ (zr g_x_paces 160 (0) (9)) ∧ va_P (dC, dI) vwCl [(h0, .inr (1, [.ref x_clauses, .ref x_asked, .ref x_signs, .ref x_numbers, .ref x_paces])), (x_clauses, .inl (cI, 10, .inl g_x_clauses)), (x_asked, .inl (cI, 160, .inl g_x_asked)), (x_signs, .inl (cI, 160, .inl g_x_signs)), (x_numbers, .inl (cI, 160, .inl g_x_numbers)), (x_paces, .inl (cI, 160, .inl g_x_paces))] t.heap ∧ va_K (dC, dI) vwCl [(cI, .int), (cZ, .boolean)] t ∧ va_D (va_A [(h0, .inr (1, [.ref x_clauses, .ref x_asked, .ref x_signs, .ref x_numbers, .ref x_paces])), (x_clauses, .inl (cI, 10, .inl f_x_clauses)), (x_asked, .inl (cI, 160, .inl f_x_asked)), (x_signs, .inl (cI, 160, .inl f_x_signs)), (x_numbers, .inl (cI, 160, .inl f_x_numbers)), (x_paces, .inl (cI, 160, .inl f_x_paces))] sz) [(h0, .inr (1, [.ref x_clauses, .ref x_asked, .ref x_signs, .ref x_numbers, .ref x_paces])), (x_clauses, .inl (cI, 10, .inl g_x_clauses)), (x_asked, .inl (cI, 160, .inl g_x_asked)), (x_signs, .inl (cI, 160, .inl g_x_signs)), (x_numbers, .inl (cI, 160, .inl g_x_numbers)), (x_paces, .inl (cI, 160, .inl g_x_paces))]) (va_A [(h0, .inr (1, [.ref x_clauses, .ref x_asked, .ref x_signs, .ref x_numbers, .ref x_paces])), (x_clauses, .inl (cI, 10, .inl f_x_clauses)), (x_asked, .inl (cI, 160, .inl f_x_asked)), (x_signs, .inl (cI, 160, .inl f_x_signs)), (x_numbers, .inl (cI, 160, .inl f_x_numbers)), (x_paces, .inl (cI, 160, .inl f_x_paces))] sz)) 0 0 (va_A [(h0, .inr (1, [.ref x_clauses, .ref x_asked, .ref x_signs, .ref x_numbers, .ref x_paces])), (x_clauses, .inl (cI, 10, .inl f_x_clauses)), (x_asked, .inl (cI, 160, .inl f_x_asked)), (x_signs, .inl (cI, 160, .inl f_x_signs)), (x_numbers, .inl (cI, 160, .inl f_x_numbers)), (x_paces, .inl (cI, 160, .inl f_x_paces))] sz) := by
  refine Met.ofW (cc := cX1_takeDraft) (maxL := 5) (ret := none) (by decide) rfl ?_
  intro p e s m args below meth c s₁ B hml hv
  obtain ⟨rfl, hsz, hP, hK, hD0⟩ := hv
  have hx := B.exec
  have hb := B.bytes
  have hr := B.returns
  have hts := atoms_spec (ws := Cond.code yX1_takeDraft cX1_takeDraft 5 none :: lw_good) B.pre
  have hown : s.vm.findClass RX1 = some m.cls := findClass_of_methodNamed B.named
  have hlocks := B.notSynchronized
  have hiX1 : ∀ w ∈ wsX10, w ∈ (Cond.code yX1_takeDraft cX1_takeDraft 5 none :: lw_good) := fun w h => List.mem_cons_of_mem _ (zi_X1 w h)
  have hw0 := hts (.fieldLink RX1 9 "BunchRace$OrderBook" "clauses" "[I") (List.mem_cons_of_mem _ zw_157)
  have hw1 := hts (.fieldLink RX1 15 "BunchRace$OrderBook" "asked" "[I") (List.mem_cons_of_mem _ zw_158)
  have hw2 := hts (.fieldLink RX1 18 "BunchRace$OrderBook" "signs" "[I") (List.mem_cons_of_mem _ zw_159)
  have hw3 := hts (.fieldLink RX1 21 "BunchRace$OrderBook" "numbers" "[I") (List.mem_cons_of_mem _ zw_160)
  have hw4 := hts (.fieldLink RX1 24 "BunchRace$OrderBook" "paces" "[I") (List.mem_cons_of_mem _ zw_161)
  subst hsz
  have hD := hD0.self (sz := s.heap.size)
  generalize hAe : va_A [(h0, .inr (1, [.ref x_clauses, .ref x_asked, .ref x_signs, .ref x_numbers, .ref x_paces])), (x_clauses, .inl (cI, 10, .inl f_x_clauses)), (x_asked, .inl (cI, 160, .inl f_x_asked)), (x_signs, .inl (cI, 160, .inl f_x_signs)), (x_numbers, .inl (cI, 160, .inl f_x_numbers)), (x_paces, .inl (cI, 160, .inl f_x_paces))] s.heap.size = A at hD ⊢
  have hA : ∀ q : Nat, s.heap.size ≤ q → A q := fun q h => by rw [← hAe]; exact Or.inr h
  have hS : va_S A s.heap s.heap [] := va_S.rf
  have hP : va_P (dC, dI) vwCl [(h0, .inr (1, [.ref x_clauses, .ref x_asked, .ref x_signs, .ref x_numbers, .ref x_paces])), (x_clauses, .inl (cI, 10, .inl f_x_clauses)), (x_asked, .inl (cI, 160, .inl f_x_asked)), (x_signs, .inl (cI, 160, .inl f_x_signs)), (x_numbers, .inl (cI, 160, .inl f_x_numbers)), (x_paces, .inl (cI, 160, .inl f_x_paces))] s.heap := hP
  have hl := lv_entry ([.ref h0, .int pR]) (n := 5) (Nat.le_of_ble_eq_true rfl)
  rw [lg_entry_eq]
  generalize (lg_sl ([.ref h0, .int pR]) ++ List.replicate (5 - (lg_sl ([.ref h0, .int pR])).length) Slot.unset).toArray = ls at hl ⊢
  have hl : lv_has ls 5 [(0, .ref h0), (1, .int pR)] := hl
  refine lv_sipush (v := 144) hx hb dX1_takeDraft_0 (by decide) ?_
  refine lv_istore_n (lv' := [(2, .int 144), (0, .ref h0), (1, .int pR)]) hx hb dX1_takeDraft_3 rfl hl (by decide) rfl (fun ls hl => ?_)
  refine lv_iload_n hx hb dX1_takeDraft_4 rfl (lv_at hl 2 rfl) ?_
  refine lv_bipush (v := 16) hx hb dX1_takeDraft_5 (by decide) ?_
  refine lv_imul hx hb dX1_takeDraft_7 ?_
  refine lv_topi (fun v_1 ev_1 => ?_)
  have hv_1 : v_1.toInt = (pR_i * (16:Int)) := by rw [ev_1]; exact zz_mulI pR_h (by decide) (by omega) (by omega)
  refine lv_istore_n (lv' := [(3, .int v_1), (2, .int 144), (0, .ref h0), (1, .int pR)]) hx hb dX1_takeDraft_8 rfl hl (by decide) rfl (fun ls hl => ?_)
  refine lv_iconst (v := 0) hx hb dX1_takeDraft_9 (by decide) ?_
  refine lv_istore (lv' := [(4, .int 0), (3, .int v_1), (2, .int 144), (0, .ref h0), (1, .int pR)]) hx hb dX1_takeDraft_10 hl (by decide) rfl (fun ls hl => ?_)
  have L_30 : ∀ (n : Nat) (i4_L_30 : Int32) (g_x_asked_L_30 : Nat → Int32) (g_x_numbers_L_30 : Nat → Int32) (g_x_paces_L_30 : Nat → Int32) (g_x_signs_L_30 : Nat → Int32) (H : Heap) (locs : List Loc) (ls : Array Slot), (0 ≤ i4_L_30.toInt) → (i4_L_30.toInt ≤ 16) → (zr g_x_asked_L_30 160 (0) (4)) → (zr g_x_paces_L_30 160 (0) (9)) → (16 - i4_L_30.toInt) < (n : Int) → va_P (dC, dI) vwCl [(h0, .inr (1, [.ref x_clauses, .ref x_asked, .ref x_signs, .ref x_numbers, .ref x_paces])), (x_clauses, .inl (cI, 10, .inl f_x_clauses)), (x_asked, .inl (cI, 160, .inl g_x_asked_L_30)), (x_signs, .inl (cI, 160, .inl g_x_signs_L_30)), (x_numbers, .inl (cI, 160, .inl g_x_numbers_L_30)), (x_paces, .inl (cI, 160, .inl g_x_paces_L_30))] H → va_D A [(h0, .inr (1, [.ref x_clauses, .ref x_asked, .ref x_signs, .ref x_numbers, .ref x_paces])), (x_clauses, .inl (cI, 10, .inl f_x_clauses)), (x_asked, .inl (cI, 160, .inl g_x_asked_L_30)), (x_signs, .inl (cI, 160, .inl g_x_signs_L_30)), (x_numbers, .inl (cI, 160, .inl g_x_numbers_L_30)), (x_paces, .inl (cI, 160, .inl g_x_paces_L_30))] → va_S A s.heap H locs → lv_has ls 5 [(4, .int i4_L_30), (3, .int v_1), (2, .int 144), (0, .ref h0), (1, .int pR)] → W p l e ((headSpec (Cond.code yX1_takeDraft cX1_takeDraft 5 none :: lw_good) ({ frames := 0, cells := 0, slots := 0, locals := 0 })).room) s m (([.ref h0, .int pR] : List Value).toArray) below meth c H locs 0 0 (MQ below (va_Qv (fun _ : Unit => True) (fun _ t => ∃ (g_x_clauses : Nat → Int32) (g_x_asked : Nat → Int32) (g_x_signs : Nat → Int32) (g_x_numbers : Nat → Int32) (g_x_paces : Nat → Int32), (zr g_x_clauses 10 (0) (16)) ∧ (zr g_x_asked 160 (0) (4)) ∧ (zr g_x_paces 160 (0) (9)) ∧ va_P (dC, dI) vwCl [(h0, .inr (1, [.ref x_clauses, .ref x_asked, .ref x_signs, .ref x_numbers, .ref x_paces])), (x_clauses, .inl (cI, 10, .inl g_x_clauses)), (x_asked, .inl (cI, 160, .inl g_x_asked)), (x_signs, .inl (cI, 160, .inl g_x_signs)), (x_numbers, .inl (cI, 160, .inl g_x_numbers)), (x_paces, .inl (cI, 160, .inl g_x_paces))] t.heap ∧ va_K (dC, dI) vwCl [(cI, .int), (cZ, .boolean)] t ∧ va_D A [(h0, .inr (1, [.ref x_clauses, .ref x_asked, .ref x_signs, .ref x_numbers, .ref x_paces])), (x_clauses, .inl (cI, 10, .inl g_x_clauses)), (x_asked, .inl (cI, 160, .inl g_x_asked)), (x_signs, .inl (cI, 160, .inl g_x_signs)), (x_numbers, .inl (cI, 160, .inl g_x_numbers)), (x_paces, .inl (cI, 160, .inl g_x_paces))]) A) (([.ref h0, .int pR] : List Value).toArray) s 0 0 A) (F0 m 12 ls []) := by
    intro n
    induction n with
    | zero =>
      intro i4_L_30 g_x_asked_L_30 g_x_numbers_L_30 g_x_paces_L_30 g_x_signs_L_30 H locs ls hI0 hI1 hI2 hI3 hM
      exact absurd hM (by omega)
    | succ n ih =>
      intro i4_L_30 g_x_asked_L_30 g_x_numbers_L_30 g_x_paces_L_30 g_x_signs_L_30 H locs ls hI0 hI1 hI2 hI3 hM hP hD hS hl
      have ih_31 := ih
      have hi_32 := hI0
      have hi_33 := hI1
      have hi_34 := hI2
      have hi_35 := hI3
      refine lv_iload hx hb dX1_takeDraft_12 (lv_at hl 0 rfl) ?_
      refine lv_bipush (v := 16) hx hb dX1_takeDraft_14 (by decide) ?_
      refine lv_icmp_ge (tgt := 97) hx hb dX1_takeDraft_16 (by decide) (fun c_36 => ?_) (fun c_36 => ?_)
      ·
        have c_36 : (16:Int) ≤ (i4_L_30).toInt := zz_le (by decide) rfl c_36
        refine lv_aload_n hx hb dX1_takeDraft_97 rfl (lv_at hl 3 rfl) ?_
        refine va_get (D := (dC, dI)) (ci := 1) (v := .ref x_clauses) (C := RX1) (T := TX1) (N := 5) hx hb hts hiX1 hown hK hP 0 rfl rfl 0 (by decide) hw0 (fun _ h9 => h9) rfl dX1_takeDraft_98 ?_
        refine lv_iload_n hx hb dX1_takeDraft_101 rfl (lv_at hl 4 rfl) ?_
        refine lv_aload_n hx hb dX1_takeDraft_102 rfl (lv_at hl 3 rfl) ?_
        refine va_get (D := (dC, dI)) (ci := 1) (v := .ref x_clauses) (C := RX1) (T := TX1) (N := 5) hx hb hts hiX1 hown hK hP 0 rfl rfl 0 (by decide) hw0 (fun _ h9 => h9) rfl dX1_takeDraft_103 ?_
        refine lv_bipush (v := 9) hx hb dX1_takeDraft_106 (by decide) ?_
        refine va_iald hx hb hK hP 1 0 rfl rfl (zz_inl rfl) dX1_takeDraft_108 ?_
        refine lv_topi (fun v_37 ev_37 => ?_)
        have bv_37 : 0 ≤ v_37.toInt ∧ v_37.toInt ≤ 16 := by rw [ev_37]; exact zr_get (a := (9:Int)) R_x_clauses (by decide) (by omega) (by omega)
        refine va_iast hx hb hK hP hD hS 1 0 rfl rfl (zz_in (a := pR_i) pR_h (by omega) (by omega)) dX1_takeDraft_109 (fun H locs hP hD hS => ?_)
        have hP : va_P (dC, dI) vwCl [(h0, .inr (1, [.ref x_clauses, .ref x_asked, .ref x_signs, .ref x_numbers, .ref x_paces])), (x_clauses, .inl (cI, 10, .inl (upd f_x_clauses (Int32.toNatClampNeg pR) v_37))), (x_asked, .inl (cI, 160, .inl g_x_asked_L_30)), (x_signs, .inl (cI, 160, .inl g_x_signs_L_30)), (x_numbers, .inl (cI, 160, .inl g_x_numbers_L_30)), (x_paces, .inl (cI, 160, .inl g_x_paces_L_30))] H := hP
        have hD : va_D A [(h0, .inr (1, [.ref x_clauses, .ref x_asked, .ref x_signs, .ref x_numbers, .ref x_paces])), (x_clauses, .inl (cI, 10, .inl (upd f_x_clauses (Int32.toNatClampNeg pR) v_37))), (x_asked, .inl (cI, 160, .inl g_x_asked_L_30)), (x_signs, .inl (cI, 160, .inl g_x_signs_L_30)), (x_numbers, .inl (cI, 160, .inl g_x_numbers_L_30)), (x_paces, .inl (cI, 160, .inl g_x_paces_L_30))] := hD
        have R_39 : zr (upd f_x_clauses (Int32.toNatClampNeg pR) v_37) 10 (0) (16) := zr_upd (b := (v_37).toInt) R_x_clauses _ rfl (by omega) (by omega)
        generalize upd f_x_clauses (Int32.toNatClampNeg pR) v_37 = f_38 at hP hD R_39
        have hP9 := hP.sub (ws' := [(h0, .inr (1, [.ref x_clauses, .ref x_asked, .ref x_signs, .ref x_numbers, .ref x_paces])), (x_clauses, .inl (cI, 10, .inl f_38)), (x_asked, .inl (cI, 160, .inl g_x_asked_L_30)), (x_signs, .inl (cI, 160, .inl g_x_signs_L_30)), (x_numbers, .inl (cI, 160, .inl g_x_numbers_L_30)), (x_paces, .inl (cI, 160, .inl g_x_paces_L_30))]) [0, 1, 2, 3, 4, 5] rfl
        have hD9 := hD.sub (ws' := [(h0, .inr (1, [.ref x_clauses, .ref x_asked, .ref x_signs, .ref x_numbers, .ref x_paces])), (x_clauses, .inl (cI, 10, .inl f_38)), (x_asked, .inl (cI, 160, .inl g_x_asked_L_30)), (x_signs, .inl (cI, 160, .inl g_x_signs_L_30)), (x_numbers, .inl (cI, 160, .inl g_x_numbers_L_30)), (x_paces, .inl (cI, 160, .inl g_x_paces_L_30))]) [0, 1, 2, 3, 4, 5] (by decide) rfl
        have hf9_0 : zr f_38 10 (0) (16) := R_39
        have hf9_1 : zr g_x_asked_L_30 160 (0) (4) := hi_34
        have hf9_2 : zr g_x_paces_L_30 160 (0) (9) := hi_35
        exact W.vret hx hb hr (fun t ht hW => ⟨⟨(), rfl, trivial, f_38, g_x_asked_L_30, g_x_signs_L_30, g_x_numbers_L_30, g_x_paces_L_30, hf9_0, hf9_1, hf9_2, by rw [ht]; exact hP9, va_K.moved hW.alike hK, hD9⟩, hS.F ht⟩) hS.2.2 dX1_takeDraft_110
      ·
        have c_36 : ¬ ((16:Int) ≤ (i4_L_30).toInt) := zz_len (by decide) rfl c_36
        refine lv_aload_n hx hb dX1_takeDraft_19 rfl (lv_at hl 3 rfl) ?_
        refine va_get (D := (dC, dI)) (ci := 1) (v := .ref x_asked) (C := RX1) (T := TX1) (N := 5) hx hb hts hiX1 hown hK hP 0 rfl rfl 1 (by decide) hw1 (fun _ h9 => h9) rfl dX1_takeDraft_20 ?_
        refine lv_iload_n hx hb dX1_takeDraft_23 rfl (lv_at hl 1 rfl) ?_
        refine lv_iload hx hb dX1_takeDraft_24 (lv_at hl 0 rfl) ?_
        refine lv_iadd hx hb dX1_takeDraft_26 ?_
        refine lv_topi (fun v_40 ev_40 => ?_)
        have hv_40 : v_40.toInt = ((pR_i * (16:Int)) + (i4_L_30).toInt) := by rw [ev_40]; exact zz_addI hv_1 rfl (by omega) (by omega)
        refine lv_aload_n hx hb dX1_takeDraft_27 rfl (lv_at hl 3 rfl) ?_
        refine va_get (D := (dC, dI)) (ci := 1) (v := .ref x_asked) (C := RX1) (T := TX1) (N := 5) hx hb hts hiX1 hown hK hP 0 rfl rfl 1 (by decide) hw1 (fun _ h9 => h9) rfl dX1_takeDraft_28 ?_
        refine lv_iload_n hx hb dX1_takeDraft_31 rfl (lv_at hl 2 rfl) ?_
        refine lv_iload hx hb dX1_takeDraft_32 (lv_at hl 0 rfl) ?_
        refine lv_iadd hx hb dX1_takeDraft_34 ?_
        refine lv_topi (fun v_41 ev_41 => ?_)
        have hv_41 : v_41.toInt = ((144:Int) + (i4_L_30).toInt) := by rw [ev_41]; exact zz_addI (by decide) rfl (by omega) (by omega)
        refine va_iald hx hb hK hP 2 0 rfl rfl (zz_in (a := ((144:Int) + (i4_L_30).toInt)) hv_41 (by omega) (by omega)) dX1_takeDraft_35 ?_
        refine lv_topi (fun v_42 ev_42 => ?_)
        have bv_42 : 0 ≤ v_42.toInt ∧ v_42.toInt ≤ 4 := by rw [ev_42]; exact zr_get (a := ((144:Int) + (i4_L_30).toInt)) hi_34 hv_41 (by omega) (by omega)
        refine va_iast hx hb hK hP hD hS 2 0 rfl rfl (zz_in (a := ((pR_i * (16:Int)) + (i4_L_30).toInt)) hv_40 (by omega) (by omega)) dX1_takeDraft_36 (fun H locs hP hD hS => ?_)
        have hP : va_P (dC, dI) vwCl [(h0, .inr (1, [.ref x_clauses, .ref x_asked, .ref x_signs, .ref x_numbers, .ref x_paces])), (x_clauses, .inl (cI, 10, .inl f_x_clauses)), (x_asked, .inl (cI, 160, .inl (upd g_x_asked_L_30 (Int32.toNatClampNeg v_40) v_42))), (x_signs, .inl (cI, 160, .inl g_x_signs_L_30)), (x_numbers, .inl (cI, 160, .inl g_x_numbers_L_30)), (x_paces, .inl (cI, 160, .inl g_x_paces_L_30))] H := hP
        have hD : va_D A [(h0, .inr (1, [.ref x_clauses, .ref x_asked, .ref x_signs, .ref x_numbers, .ref x_paces])), (x_clauses, .inl (cI, 10, .inl f_x_clauses)), (x_asked, .inl (cI, 160, .inl (upd g_x_asked_L_30 (Int32.toNatClampNeg v_40) v_42))), (x_signs, .inl (cI, 160, .inl g_x_signs_L_30)), (x_numbers, .inl (cI, 160, .inl g_x_numbers_L_30)), (x_paces, .inl (cI, 160, .inl g_x_paces_L_30))] := hD
        have R_44 : zr (upd g_x_asked_L_30 (Int32.toNatClampNeg v_40) v_42) 160 (0) (4) := zr_upd (b := (v_42).toInt) hi_34 _ rfl (by omega) (by omega)
        generalize upd g_x_asked_L_30 (Int32.toNatClampNeg v_40) v_42 = f_43 at hP hD R_44
        refine lv_aload_n hx hb dX1_takeDraft_37 rfl (lv_at hl 3 rfl) ?_
        refine va_get (D := (dC, dI)) (ci := 1) (v := .ref x_signs) (C := RX1) (T := TX1) (N := 5) hx hb hts hiX1 hown hK hP 0 rfl rfl 2 (by decide) hw2 (fun _ h9 => h9) rfl dX1_takeDraft_38 ?_
        refine lv_iload_n hx hb dX1_takeDraft_41 rfl (lv_at hl 1 rfl) ?_
        refine lv_iload hx hb dX1_takeDraft_42 (lv_at hl 0 rfl) ?_
        refine lv_iadd hx hb dX1_takeDraft_44 ?_
        refine lv_topi (fun v_45 ev_45 => ?_)
        have hv_45 : v_45.toInt = ((pR_i * (16:Int)) + (i4_L_30).toInt) := by rw [ev_45]; exact zz_addI hv_1 rfl (by omega) (by omega)
        refine lv_aload_n hx hb dX1_takeDraft_45 rfl (lv_at hl 3 rfl) ?_
        refine va_get (D := (dC, dI)) (ci := 1) (v := .ref x_signs) (C := RX1) (T := TX1) (N := 5) hx hb hts hiX1 hown hK hP 0 rfl rfl 2 (by decide) hw2 (fun _ h9 => h9) rfl dX1_takeDraft_46 ?_
        refine lv_iload_n hx hb dX1_takeDraft_49 rfl (lv_at hl 2 rfl) ?_
        refine lv_iload hx hb dX1_takeDraft_50 (lv_at hl 0 rfl) ?_
        refine lv_iadd hx hb dX1_takeDraft_52 ?_
        refine lv_topi (fun v_46 ev_46 => ?_)
        have hv_46 : v_46.toInt = ((144:Int) + (i4_L_30).toInt) := by rw [ev_46]; exact zz_addI (by decide) rfl (by omega) (by omega)
        refine va_iald hx hb hK hP 3 0 rfl rfl (zz_in (a := ((144:Int) + (i4_L_30).toInt)) hv_46 (by omega) (by omega)) dX1_takeDraft_53 ?_
        refine lv_topi (fun v_47 ev_47 => ?_)
        refine va_iast hx hb hK hP hD hS 3 0 rfl rfl (zz_in (a := ((pR_i * (16:Int)) + (i4_L_30).toInt)) hv_45 (by omega) (by omega)) dX1_takeDraft_54 (fun H locs hP hD hS => ?_)
        have hP : va_P (dC, dI) vwCl [(h0, .inr (1, [.ref x_clauses, .ref x_asked, .ref x_signs, .ref x_numbers, .ref x_paces])), (x_clauses, .inl (cI, 10, .inl f_x_clauses)), (x_asked, .inl (cI, 160, .inl f_43)), (x_signs, .inl (cI, 160, .inl (upd g_x_signs_L_30 (Int32.toNatClampNeg v_45) v_47))), (x_numbers, .inl (cI, 160, .inl g_x_numbers_L_30)), (x_paces, .inl (cI, 160, .inl g_x_paces_L_30))] H := hP
        have hD : va_D A [(h0, .inr (1, [.ref x_clauses, .ref x_asked, .ref x_signs, .ref x_numbers, .ref x_paces])), (x_clauses, .inl (cI, 10, .inl f_x_clauses)), (x_asked, .inl (cI, 160, .inl f_43)), (x_signs, .inl (cI, 160, .inl (upd g_x_signs_L_30 (Int32.toNatClampNeg v_45) v_47))), (x_numbers, .inl (cI, 160, .inl g_x_numbers_L_30)), (x_paces, .inl (cI, 160, .inl g_x_paces_L_30))] := hD
        generalize upd g_x_signs_L_30 (Int32.toNatClampNeg v_45) v_47 = f_48 at hP hD
        refine lv_aload_n hx hb dX1_takeDraft_55 rfl (lv_at hl 3 rfl) ?_
        refine va_get (D := (dC, dI)) (ci := 1) (v := .ref x_numbers) (C := RX1) (T := TX1) (N := 5) hx hb hts hiX1 hown hK hP 0 rfl rfl 3 (by decide) hw3 (fun _ h9 => h9) rfl dX1_takeDraft_56 ?_
        refine lv_iload_n hx hb dX1_takeDraft_59 rfl (lv_at hl 1 rfl) ?_
        refine lv_iload hx hb dX1_takeDraft_60 (lv_at hl 0 rfl) ?_
        refine lv_iadd hx hb dX1_takeDraft_62 ?_
        refine lv_topi (fun v_49 ev_49 => ?_)
        have hv_49 : v_49.toInt = ((pR_i * (16:Int)) + (i4_L_30).toInt) := by rw [ev_49]; exact zz_addI hv_1 rfl (by omega) (by omega)
        refine lv_aload_n hx hb dX1_takeDraft_63 rfl (lv_at hl 3 rfl) ?_
        refine va_get (D := (dC, dI)) (ci := 1) (v := .ref x_numbers) (C := RX1) (T := TX1) (N := 5) hx hb hts hiX1 hown hK hP 0 rfl rfl 3 (by decide) hw3 (fun _ h9 => h9) rfl dX1_takeDraft_64 ?_
        refine lv_iload_n hx hb dX1_takeDraft_67 rfl (lv_at hl 2 rfl) ?_
        refine lv_iload hx hb dX1_takeDraft_68 (lv_at hl 0 rfl) ?_
        refine lv_iadd hx hb dX1_takeDraft_70 ?_
        refine lv_topi (fun v_50 ev_50 => ?_)
        have hv_50 : v_50.toInt = ((144:Int) + (i4_L_30).toInt) := by rw [ev_50]; exact zz_addI (by decide) rfl (by omega) (by omega)
        refine va_iald hx hb hK hP 4 0 rfl rfl (zz_in (a := ((144:Int) + (i4_L_30).toInt)) hv_50 (by omega) (by omega)) dX1_takeDraft_71 ?_
        refine lv_topi (fun v_51 ev_51 => ?_)
        refine va_iast hx hb hK hP hD hS 4 0 rfl rfl (zz_in (a := ((pR_i * (16:Int)) + (i4_L_30).toInt)) hv_49 (by omega) (by omega)) dX1_takeDraft_72 (fun H locs hP hD hS => ?_)
        have hP : va_P (dC, dI) vwCl [(h0, .inr (1, [.ref x_clauses, .ref x_asked, .ref x_signs, .ref x_numbers, .ref x_paces])), (x_clauses, .inl (cI, 10, .inl f_x_clauses)), (x_asked, .inl (cI, 160, .inl f_43)), (x_signs, .inl (cI, 160, .inl f_48)), (x_numbers, .inl (cI, 160, .inl (upd g_x_numbers_L_30 (Int32.toNatClampNeg v_49) v_51))), (x_paces, .inl (cI, 160, .inl g_x_paces_L_30))] H := hP
        have hD : va_D A [(h0, .inr (1, [.ref x_clauses, .ref x_asked, .ref x_signs, .ref x_numbers, .ref x_paces])), (x_clauses, .inl (cI, 10, .inl f_x_clauses)), (x_asked, .inl (cI, 160, .inl f_43)), (x_signs, .inl (cI, 160, .inl f_48)), (x_numbers, .inl (cI, 160, .inl (upd g_x_numbers_L_30 (Int32.toNatClampNeg v_49) v_51))), (x_paces, .inl (cI, 160, .inl g_x_paces_L_30))] := hD
        generalize upd g_x_numbers_L_30 (Int32.toNatClampNeg v_49) v_51 = f_52 at hP hD
        refine lv_aload_n hx hb dX1_takeDraft_73 rfl (lv_at hl 3 rfl) ?_
        refine va_get (D := (dC, dI)) (ci := 1) (v := .ref x_paces) (C := RX1) (T := TX1) (N := 5) hx hb hts hiX1 hown hK hP 0 rfl rfl 4 (by decide) hw4 (fun _ h9 => h9) rfl dX1_takeDraft_74 ?_
        refine lv_iload_n hx hb dX1_takeDraft_77 rfl (lv_at hl 1 rfl) ?_
        refine lv_iload hx hb dX1_takeDraft_78 (lv_at hl 0 rfl) ?_
        refine lv_iadd hx hb dX1_takeDraft_80 ?_
        refine lv_topi (fun v_53 ev_53 => ?_)
        have hv_53 : v_53.toInt = ((pR_i * (16:Int)) + (i4_L_30).toInt) := by rw [ev_53]; exact zz_addI hv_1 rfl (by omega) (by omega)
        refine lv_aload_n hx hb dX1_takeDraft_81 rfl (lv_at hl 3 rfl) ?_
        refine va_get (D := (dC, dI)) (ci := 1) (v := .ref x_paces) (C := RX1) (T := TX1) (N := 5) hx hb hts hiX1 hown hK hP 0 rfl rfl 4 (by decide) hw4 (fun _ h9 => h9) rfl dX1_takeDraft_82 ?_
        refine lv_iload_n hx hb dX1_takeDraft_85 rfl (lv_at hl 2 rfl) ?_
        refine lv_iload hx hb dX1_takeDraft_86 (lv_at hl 0 rfl) ?_
        refine lv_iadd hx hb dX1_takeDraft_88 ?_
        refine lv_topi (fun v_54 ev_54 => ?_)
        have hv_54 : v_54.toInt = ((144:Int) + (i4_L_30).toInt) := by rw [ev_54]; exact zz_addI (by decide) rfl (by omega) (by omega)
        refine va_iald hx hb hK hP 5 0 rfl rfl (zz_in (a := ((144:Int) + (i4_L_30).toInt)) hv_54 (by omega) (by omega)) dX1_takeDraft_89 ?_
        refine lv_topi (fun v_55 ev_55 => ?_)
        have bv_55 : 0 ≤ v_55.toInt ∧ v_55.toInt ≤ 9 := by rw [ev_55]; exact zr_get (a := ((144:Int) + (i4_L_30).toInt)) hi_35 hv_54 (by omega) (by omega)
        refine va_iast hx hb hK hP hD hS 5 0 rfl rfl (zz_in (a := ((pR_i * (16:Int)) + (i4_L_30).toInt)) hv_53 (by omega) (by omega)) dX1_takeDraft_90 (fun H locs hP hD hS => ?_)
        have hP : va_P (dC, dI) vwCl [(h0, .inr (1, [.ref x_clauses, .ref x_asked, .ref x_signs, .ref x_numbers, .ref x_paces])), (x_clauses, .inl (cI, 10, .inl f_x_clauses)), (x_asked, .inl (cI, 160, .inl f_43)), (x_signs, .inl (cI, 160, .inl f_48)), (x_numbers, .inl (cI, 160, .inl f_52)), (x_paces, .inl (cI, 160, .inl (upd g_x_paces_L_30 (Int32.toNatClampNeg v_53) v_55)))] H := hP
        have hD : va_D A [(h0, .inr (1, [.ref x_clauses, .ref x_asked, .ref x_signs, .ref x_numbers, .ref x_paces])), (x_clauses, .inl (cI, 10, .inl f_x_clauses)), (x_asked, .inl (cI, 160, .inl f_43)), (x_signs, .inl (cI, 160, .inl f_48)), (x_numbers, .inl (cI, 160, .inl f_52)), (x_paces, .inl (cI, 160, .inl (upd g_x_paces_L_30 (Int32.toNatClampNeg v_53) v_55)))] := hD
        have R_57 : zr (upd g_x_paces_L_30 (Int32.toNatClampNeg v_53) v_55) 160 (0) (9) := zr_upd (b := (v_55).toInt) hi_35 _ rfl (by omega) (by omega)
        generalize upd g_x_paces_L_30 (Int32.toNatClampNeg v_53) v_55 = f_56 at hP hD R_57
        obtain ⟨v_58, ev_58⟩ : ∃ y : Int32, y = i4_L_30 + 1 := ⟨_, rfl⟩
        have hv_58 : v_58.toInt = ((i4_L_30).toInt + (1:Int)) := by rw [ev_58]; exact zz_addI rfl (by decide) (by omega) (by omega)
        refine lv_iinc (v := v_58) (lv' := [(4, .int v_58), (3, .int v_1), (2, .int 144), (0, .ref h0), (1, .int pR)]) hx hb dX1_takeDraft_91 hl (k := 0) rfl (by rw [ev_58]; rfl) (by decide) rfl (fun ls hl => ?_)
        refine lv_goto (tgt := 12) hx hb dX1_takeDraft_94 (by decide) ?_
        have hb_59_i4_L_30 : (v_58 : Int32).toInt = ((i4_L_30).toInt + (1:Int)) := hv_58
        exact ih_31 v_58 f_43 f_52 f_56 f_48 H locs ls (by omega) (by omega) R_44 R_57 (by omega) (hP.sub [0, 1, 2, 3, 4, 5] rfl) (hD.sub [0, 1, 2, 3, 4, 5] (by decide) rfl) hS (lv_sub hl [0, 1, 2, 3, 4] rfl)
  have hb_60_i4_L_30 : (0 : Int32).toInt = (0:Int) := (by decide)
  exact L_30 1000 0 f_x_asked f_x_numbers f_x_paces f_x_signs s.heap [] ls (by omega) (by omega) R_x_asked R_x_paces (by omega) (hP.sub [0, 1, 2, 3, 4, 5] rfl) (hD.sub [0, 1, 2, 3, 4, 5] (by decide) rfl) hS (lv_sub hl [0, 1, 2, 3, 4] rfl)

set_option maxHeartbeats 8000000 in
set_option maxRecDepth 100000 in
theorem c_X1_holds (l : Launch) (dC : Nat → ClassId) (dI : Nat → Nat → Nat) (cI cZ : ClassId) (sz : Nat) (h0 : Nat) (pP : Int32) (pP_i : Int) (pP_h : pP.toInt = pP_i) (B_pP : 0 ≤ pP_i ∧ pP_i ≤ 159) (pV : Int32) (pV_i : Int) (pV_h : pV.toInt = pV_i) (x_clauses : Nat) (x_asked : Nat) (x_signs : Nat) (x_numbers : Nat) (x_paces : Nat) (f_x_signs : Nat → Int32) (f_x_numbers : Nat → Int32) : Met l yX1_holds (Cond.code yX1_holds cX1_holds 3 (some .boolean) :: lw_good) ({ frames := 0, cells := 0, slots := 0, locals := 0 }) (va_Pc [.ref h0, .int pP, .int pV] (fun U => U.heap.size = sz ∧ va_P (dC, dI) vwCl [(h0, .inr (1, [.ref x_clauses, .ref x_asked, .ref x_signs, .ref x_numbers, .ref x_paces])), (x_signs, .inl (cI, 160, .inl f_x_signs)), (x_numbers, .inl (cI, 160, .inl f_x_numbers))] U.heap ∧ va_K (dC, dI) vwCl [(cI, .int), (cZ, .boolean)] U ∧ va_D (fun _ => True) [(h0, .inr (1, [.ref x_clauses, .ref x_asked, .ref x_signs, .ref x_numbers, .ref x_paces])), (x_signs, .inl (cI, 160, .inl f_x_signs)), (x_numbers, .inl (cI, 160, .inl f_x_numbers))])) (va_Qi (fun (r u : Int32) => r = u) (fun u t => (0 ≤ u.toInt ∧ u.toInt ≤ 1) ∧ va_P (dC, dI) vwCl [(h0, .inr (1, [.ref x_clauses, .ref x_asked, .ref x_signs, .ref x_numbers, .ref x_paces])), (x_signs, .inl (cI, 160, .inl f_x_signs)), (x_numbers, .inl (cI, 160, .inl f_x_numbers))] t.heap ∧ va_K (dC, dI) vwCl [(cI, .int), (cZ, .boolean)] t ∧ va_D (va_A [(h0, .inr (1, [.ref x_clauses, .ref x_asked, .ref x_signs, .ref x_numbers, .ref x_paces])), (x_signs, .inl (cI, 160, .inl f_x_signs)), (x_numbers, .inl (cI, 160, .inl f_x_numbers))] sz) [(h0, .inr (1, [.ref x_clauses, .ref x_asked, .ref x_signs, .ref x_numbers, .ref x_paces])), (x_signs, .inl (cI, 160, .inl f_x_signs)), (x_numbers, .inl (cI, 160, .inl f_x_numbers))]) (va_A [(h0, .inr (1, [.ref x_clauses, .ref x_asked, .ref x_signs, .ref x_numbers, .ref x_paces])), (x_signs, .inl (cI, 160, .inl f_x_signs)), (x_numbers, .inl (cI, 160, .inl f_x_numbers))] sz)) 0 0 (va_A [(h0, .inr (1, [.ref x_clauses, .ref x_asked, .ref x_signs, .ref x_numbers, .ref x_paces])), (x_signs, .inl (cI, 160, .inl f_x_signs)), (x_numbers, .inl (cI, 160, .inl f_x_numbers))] sz) := by
  refine Met.ofW (cc := cX1_holds) (maxL := 3) (ret := (some .boolean)) (by decide) rfl ?_
  intro p e s m args below meth c s₁ B hml hv
  obtain ⟨rfl, hsz, hP, hK, hD0⟩ := hv
  have hx := B.exec
  have hb := B.bytes
  have hr := B.returns
  have hts := atoms_spec (ws := Cond.code yX1_holds cX1_holds 3 (some .boolean) :: lw_good) B.pre
  have hown : s.vm.findClass RX1 = some m.cls := findClass_of_methodNamed B.named
  have hlocks := B.notSynchronized
  have hiX1 : ∀ w ∈ wsX10, w ∈ (Cond.code yX1_holds cX1_holds 3 (some .boolean) :: lw_good) := fun w h => List.mem_cons_of_mem _ (zi_X1 w h)
  have hw0 := hts (.fieldLink RX1 18 "BunchRace$OrderBook" "signs" "[I") (List.mem_cons_of_mem _ zw_159)
  have hw1 := hts (.fieldLink RX1 21 "BunchRace$OrderBook" "numbers" "[I") (List.mem_cons_of_mem _ zw_160)
  subst hsz
  have hD := hD0.self (sz := s.heap.size)
  generalize hAe : va_A [(h0, .inr (1, [.ref x_clauses, .ref x_asked, .ref x_signs, .ref x_numbers, .ref x_paces])), (x_signs, .inl (cI, 160, .inl f_x_signs)), (x_numbers, .inl (cI, 160, .inl f_x_numbers))] s.heap.size = A at hD ⊢
  have hA : ∀ q : Nat, s.heap.size ≤ q → A q := fun q h => by rw [← hAe]; exact Or.inr h
  have hS : va_S A s.heap s.heap [] := va_S.rf
  have hP : va_P (dC, dI) vwCl [(h0, .inr (1, [.ref x_clauses, .ref x_asked, .ref x_signs, .ref x_numbers, .ref x_paces])), (x_signs, .inl (cI, 160, .inl f_x_signs)), (x_numbers, .inl (cI, 160, .inl f_x_numbers))] s.heap := hP
  have hl := lv_entry ([.ref h0, .int pP, .int pV]) (n := 3) (Nat.le_of_ble_eq_true rfl)
  rw [lg_entry_eq]
  generalize (lg_sl ([.ref h0, .int pP, .int pV]) ++ List.replicate (3 - (lg_sl ([.ref h0, .int pP, .int pV])).length) Slot.unset).toArray = ls at hl ⊢
  have hl : lv_has ls 3 [(0, .ref h0), (1, .int pP), (2, .int pV)] := hl
  refine lv_aload_n hx hb dX1_holds_0 rfl (lv_at hl 0 rfl) ?_
  refine va_get (D := (dC, dI)) (ci := 1) (v := .ref x_signs) (C := RX1) (T := TX1) (N := 5) hx hb hts hiX1 hown hK hP 0 rfl rfl 2 (by decide) hw0 (fun _ h9 => h9) rfl dX1_holds_1 ?_
  refine lv_iload_n hx hb dX1_holds_4 rfl (lv_at hl 1 rfl) ?_
  refine va_iald hx hb hK hP 1 0 rfl rfl (zz_in (a := pP_i) pP_h (by omega) (by omega)) dX1_holds_5 ?_
  refine lv_topi (fun v_1 ev_1 => ?_)
  have hs_2 : (v_1 : Int32).toInt = (v_1).toInt := rfl
  rcases (show ((v_1).toInt ≠ 60 ∧ (v_1).toInt ≠ 62) ∨ (v_1).toInt = 60 ∨ (v_1).toInt = 62 by omega) with q_3 | q_3 | q_3
  ·
    refine lv_lookup (tgt := 64) (off := 58) hx hb dX1_holds_6 (by decide) (by rw [hs_2]; simp [Op.lookupswitch.offset]; omega) (by decide) ?_
    refine lv_iload_n hx hb dX1_holds_64 rfl (lv_at hl 2 rfl) ?_
    refine lv_aload_n hx hb dX1_holds_65 rfl (lv_at hl 0 rfl) ?_
    refine va_get (D := (dC, dI)) (ci := 1) (v := .ref x_numbers) (C := RX1) (T := TX1) (N := 5) hx hb hts hiX1 hown hK hP 0 rfl rfl 3 (by decide) hw1 (fun _ h9 => h9) rfl dX1_holds_66 ?_
    refine lv_iload_n hx hb dX1_holds_69 rfl (lv_at hl 1 rfl) ?_
    refine va_iald hx hb hK hP 2 0 rfl rfl (zz_in (a := pP_i) pP_h (by omega) (by omega)) dX1_holds_70 ?_
    refine lv_topi (fun v_4 ev_4 => ?_)
    refine lv_icmp_ne (tgt := 78) hx hb dX1_holds_71 (by decide) (fun c_5 => ?_) (fun c_5 => ?_)
    ·
      have c_5 : ¬ (pV_i = (v_4).toInt) := zz_eqn pV_h rfl c_5
      refine lv_iconst (v := 0) hx hb dX1_holds_78 (by decide) ?_
      have hu9 : (0 : Int32).toInt = (0:Int) := (by decide)
      have hP9 := hP.sub (ws' := [(h0, .inr (1, [.ref x_clauses, .ref x_asked, .ref x_signs, .ref x_numbers, .ref x_paces])), (x_signs, .inl (cI, 160, .inl f_x_signs)), (x_numbers, .inl (cI, 160, .inl f_x_numbers))]) [0, 1, 2] rfl
      have hD9 := hD.sub (ws' := [(h0, .inr (1, [.ref x_clauses, .ref x_asked, .ref x_signs, .ref x_numbers, .ref x_paces])), (x_signs, .inl (cI, 160, .inl f_x_signs)), (x_numbers, .inl (cI, 160, .inl f_x_numbers))]) [0, 1, 2] (by decide) rfl
      have hf9_0 : 0 ≤ (0 : Int32).toInt ∧ (0 : Int32).toInt ≤ 1 := by omega
      exact W.zret (v := 0) hx hb hr rfl (fun t ht hW => ⟨⟨0, 0, rfl, rfl, hf9_0, by rw [ht]; exact hP9, va_K.moved hW.alike hK, hD9⟩, hS.F ht⟩) hS.2.2 dX1_holds_79
    ·
      have c_5 : pV_i = (v_4).toInt := zz_eq pV_h rfl c_5
      refine lv_iconst (v := 1) hx hb dX1_holds_74 (by decide) ?_
      refine lv_goto (tgt := 79) hx hb dX1_holds_75 (by decide) ?_
      have hu9 : (1 : Int32).toInt = (1:Int) := (by decide)
      have hP9 := hP.sub (ws' := [(h0, .inr (1, [.ref x_clauses, .ref x_asked, .ref x_signs, .ref x_numbers, .ref x_paces])), (x_signs, .inl (cI, 160, .inl f_x_signs)), (x_numbers, .inl (cI, 160, .inl f_x_numbers))]) [0, 1, 2] rfl
      have hD9 := hD.sub (ws' := [(h0, .inr (1, [.ref x_clauses, .ref x_asked, .ref x_signs, .ref x_numbers, .ref x_paces])), (x_signs, .inl (cI, 160, .inl f_x_signs)), (x_numbers, .inl (cI, 160, .inl f_x_numbers))]) [0, 1, 2] (by decide) rfl
      have hf9_0 : 0 ≤ (1 : Int32).toInt ∧ (1 : Int32).toInt ≤ 1 := by omega
      exact W.zret (v := 1) hx hb hr rfl (fun t ht hW => ⟨⟨1, 1, rfl, rfl, hf9_0, by rw [ht]; exact hP9, va_K.moved hW.alike hK, hD9⟩, hS.F ht⟩) hS.2.2 dX1_holds_79
  ·
    refine lv_lookup (tgt := 32) (off := 26) hx hb dX1_holds_6 (by decide) (by rw [hs_2, q_3]; rfl) (by decide) ?_
    refine lv_iload_n hx hb dX1_holds_32 rfl (lv_at hl 2 rfl) ?_
    refine lv_aload_n hx hb dX1_holds_33 rfl (lv_at hl 0 rfl) ?_
    refine va_get (D := (dC, dI)) (ci := 1) (v := .ref x_numbers) (C := RX1) (T := TX1) (N := 5) hx hb hts hiX1 hown hK hP 0 rfl rfl 3 (by decide) hw1 (fun _ h9 => h9) rfl dX1_holds_34 ?_
    refine lv_iload_n hx hb dX1_holds_37 rfl (lv_at hl 1 rfl) ?_
    refine va_iald hx hb hK hP 2 0 rfl rfl (zz_in (a := pP_i) pP_h (by omega) (by omega)) dX1_holds_38 ?_
    refine lv_topi (fun v_6 ev_6 => ?_)
    refine lv_icmp_ge (tgt := 46) hx hb dX1_holds_39 (by decide) (fun c_7 => ?_) (fun c_7 => ?_)
    ·
      have c_7 : (v_6).toInt ≤ pV_i := zz_le rfl pV_h c_7
      refine lv_iconst (v := 0) hx hb dX1_holds_46 (by decide) ?_
      have hu9 : (0 : Int32).toInt = (0:Int) := (by decide)
      have hP9 := hP.sub (ws' := [(h0, .inr (1, [.ref x_clauses, .ref x_asked, .ref x_signs, .ref x_numbers, .ref x_paces])), (x_signs, .inl (cI, 160, .inl f_x_signs)), (x_numbers, .inl (cI, 160, .inl f_x_numbers))]) [0, 1, 2] rfl
      have hD9 := hD.sub (ws' := [(h0, .inr (1, [.ref x_clauses, .ref x_asked, .ref x_signs, .ref x_numbers, .ref x_paces])), (x_signs, .inl (cI, 160, .inl f_x_signs)), (x_numbers, .inl (cI, 160, .inl f_x_numbers))]) [0, 1, 2] (by decide) rfl
      have hf9_0 : 0 ≤ (0 : Int32).toInt ∧ (0 : Int32).toInt ≤ 1 := by omega
      exact W.zret (v := 0) hx hb hr rfl (fun t ht hW => ⟨⟨0, 0, rfl, rfl, hf9_0, by rw [ht]; exact hP9, va_K.moved hW.alike hK, hD9⟩, hS.F ht⟩) hS.2.2 dX1_holds_47
    ·
      have c_7 : ¬ ((v_6).toInt ≤ pV_i) := zz_len rfl pV_h c_7
      refine lv_iconst (v := 1) hx hb dX1_holds_42 (by decide) ?_
      refine lv_goto (tgt := 47) hx hb dX1_holds_43 (by decide) ?_
      have hu9 : (1 : Int32).toInt = (1:Int) := (by decide)
      have hP9 := hP.sub (ws' := [(h0, .inr (1, [.ref x_clauses, .ref x_asked, .ref x_signs, .ref x_numbers, .ref x_paces])), (x_signs, .inl (cI, 160, .inl f_x_signs)), (x_numbers, .inl (cI, 160, .inl f_x_numbers))]) [0, 1, 2] rfl
      have hD9 := hD.sub (ws' := [(h0, .inr (1, [.ref x_clauses, .ref x_asked, .ref x_signs, .ref x_numbers, .ref x_paces])), (x_signs, .inl (cI, 160, .inl f_x_signs)), (x_numbers, .inl (cI, 160, .inl f_x_numbers))]) [0, 1, 2] (by decide) rfl
      have hf9_0 : 0 ≤ (1 : Int32).toInt ∧ (1 : Int32).toInt ≤ 1 := by omega
      exact W.zret (v := 1) hx hb hr rfl (fun t ht hW => ⟨⟨1, 1, rfl, rfl, hf9_0, by rw [ht]; exact hP9, va_K.moved hW.alike hK, hD9⟩, hS.F ht⟩) hS.2.2 dX1_holds_47
  ·
    refine lv_lookup (tgt := 48) (off := 42) hx hb dX1_holds_6 (by decide) (by rw [hs_2, q_3]; rfl) (by decide) ?_
    refine lv_iload_n hx hb dX1_holds_48 rfl (lv_at hl 2 rfl) ?_
    refine lv_aload_n hx hb dX1_holds_49 rfl (lv_at hl 0 rfl) ?_
    refine va_get (D := (dC, dI)) (ci := 1) (v := .ref x_numbers) (C := RX1) (T := TX1) (N := 5) hx hb hts hiX1 hown hK hP 0 rfl rfl 3 (by decide) hw1 (fun _ h9 => h9) rfl dX1_holds_50 ?_
    refine lv_iload_n hx hb dX1_holds_53 rfl (lv_at hl 1 rfl) ?_
    refine va_iald hx hb hK hP 2 0 rfl rfl (zz_in (a := pP_i) pP_h (by omega) (by omega)) dX1_holds_54 ?_
    refine lv_topi (fun v_8 ev_8 => ?_)
    refine lv_icmp_le (tgt := 62) hx hb dX1_holds_55 (by decide) (fun c_9 => ?_) (fun c_9 => ?_)
    ·
      have c_9 : pV_i ≤ (v_8).toInt := zz_le pV_h rfl c_9
      refine lv_iconst (v := 0) hx hb dX1_holds_62 (by decide) ?_
      have hu9 : (0 : Int32).toInt = (0:Int) := (by decide)
      have hP9 := hP.sub (ws' := [(h0, .inr (1, [.ref x_clauses, .ref x_asked, .ref x_signs, .ref x_numbers, .ref x_paces])), (x_signs, .inl (cI, 160, .inl f_x_signs)), (x_numbers, .inl (cI, 160, .inl f_x_numbers))]) [0, 1, 2] rfl
      have hD9 := hD.sub (ws' := [(h0, .inr (1, [.ref x_clauses, .ref x_asked, .ref x_signs, .ref x_numbers, .ref x_paces])), (x_signs, .inl (cI, 160, .inl f_x_signs)), (x_numbers, .inl (cI, 160, .inl f_x_numbers))]) [0, 1, 2] (by decide) rfl
      have hf9_0 : 0 ≤ (0 : Int32).toInt ∧ (0 : Int32).toInt ≤ 1 := by omega
      exact W.zret (v := 0) hx hb hr rfl (fun t ht hW => ⟨⟨0, 0, rfl, rfl, hf9_0, by rw [ht]; exact hP9, va_K.moved hW.alike hK, hD9⟩, hS.F ht⟩) hS.2.2 dX1_holds_63
    ·
      have c_9 : ¬ (pV_i ≤ (v_8).toInt) := zz_len pV_h rfl c_9
      refine lv_iconst (v := 1) hx hb dX1_holds_58 (by decide) ?_
      refine lv_goto (tgt := 63) hx hb dX1_holds_59 (by decide) ?_
      have hu9 : (1 : Int32).toInt = (1:Int) := (by decide)
      have hP9 := hP.sub (ws' := [(h0, .inr (1, [.ref x_clauses, .ref x_asked, .ref x_signs, .ref x_numbers, .ref x_paces])), (x_signs, .inl (cI, 160, .inl f_x_signs)), (x_numbers, .inl (cI, 160, .inl f_x_numbers))]) [0, 1, 2] rfl
      have hD9 := hD.sub (ws' := [(h0, .inr (1, [.ref x_clauses, .ref x_asked, .ref x_signs, .ref x_numbers, .ref x_paces])), (x_signs, .inl (cI, 160, .inl f_x_signs)), (x_numbers, .inl (cI, 160, .inl f_x_numbers))]) [0, 1, 2] (by decide) rfl
      have hf9_0 : 0 ≤ (1 : Int32).toInt ∧ (1 : Int32).toInt ≤ 1 := by omega
      exact W.zret (v := 1) hx hb hr rfl (fun t ht hW => ⟨⟨1, 1, rfl, rfl, hf9_0, by rw [ht]; exact hP9, va_K.moved hW.alike hK, hD9⟩, hS.F ht⟩) hS.2.2 dX1_holds_63

set_option maxHeartbeats 8000000 in
set_option maxRecDepth 100000 in
theorem c_X1_paceBy (l : Launch) (dC : Nat → ClassId) (dI : Nat → Nat → Nat) (cI cZ : ClassId) (sz : Nat) (h0 : Nat) (pR : Int32) (pR_i : Int) (pR_h : pR.toInt = pR_i) (B_pR : 0 ≤ pR_i ∧ pR_i ≤ 8) (pVa : Nat) (x_clauses : Nat) (x_asked : Nat) (x_signs : Nat) (x_numbers : Nat) (x_paces : Nat) (f_x_clauses : Nat → Int32) (R_x_clauses : zr f_x_clauses 10 (0) (16)) (f_x_asked : Nat → Int32) (R_x_asked : zr f_x_asked 160 (0) (4)) (f_x_signs : Nat → Int32) (f_x_numbers : Nat → Int32) (f_x_paces : Nat → Int32) (R_x_paces : zr f_x_paces 160 (0) (9)) (f_pVa : Nat → Int32) : Met l yX1_paceBy (Cond.code yX1_paceBy cX1_paceBy 5 (some .int) :: lw_good) ({ frames := 1, cells := 0, slots := 0, locals := 22 }) (va_Pc [.ref h0, .int pR, .ref pVa] (fun U => U.heap.size = sz ∧ va_P (dC, dI) vwCl [(h0, .inr (1, [.ref x_clauses, .ref x_asked, .ref x_signs, .ref x_numbers, .ref x_paces])), (x_clauses, .inl (cI, 10, .inl f_x_clauses)), (x_asked, .inl (cI, 160, .inl f_x_asked)), (x_signs, .inl (cI, 160, .inl f_x_signs)), (x_numbers, .inl (cI, 160, .inl f_x_numbers)), (x_paces, .inl (cI, 160, .inl f_x_paces)), (pVa, .inl (cI, 5, .inl f_pVa))] U.heap ∧ va_K (dC, dI) vwCl [(cI, .int), (cZ, .boolean)] U ∧ va_D (fun _ => True) [(h0, .inr (1, [.ref x_clauses, .ref x_asked, .ref x_signs, .ref x_numbers, .ref x_paces])), (x_clauses, .inl (cI, 10, .inl f_x_clauses)), (x_asked, .inl (cI, 160, .inl f_x_asked)), (x_signs, .inl (cI, 160, .inl f_x_signs)), (x_numbers, .inl (cI, 160, .inl f_x_numbers)), (x_paces, .inl (cI, 160, .inl f_x_paces)), (pVa, .inl (cI, 5, .inl f_pVa))])) (va_Qi (fun (r u : Int32) => r = u) (fun u t => (0 ≤ u.toInt ∧ u.toInt ≤ 9) ∧ va_P (dC, dI) vwCl [(h0, .inr (1, [.ref x_clauses, .ref x_asked, .ref x_signs, .ref x_numbers, .ref x_paces])), (x_clauses, .inl (cI, 10, .inl f_x_clauses)), (x_asked, .inl (cI, 160, .inl f_x_asked)), (x_signs, .inl (cI, 160, .inl f_x_signs)), (x_numbers, .inl (cI, 160, .inl f_x_numbers)), (x_paces, .inl (cI, 160, .inl f_x_paces)), (pVa, .inl (cI, 5, .inl f_pVa))] t.heap ∧ va_K (dC, dI) vwCl [(cI, .int), (cZ, .boolean)] t ∧ va_D (va_A [(h0, .inr (1, [.ref x_clauses, .ref x_asked, .ref x_signs, .ref x_numbers, .ref x_paces])), (x_clauses, .inl (cI, 10, .inl f_x_clauses)), (x_asked, .inl (cI, 160, .inl f_x_asked)), (x_signs, .inl (cI, 160, .inl f_x_signs)), (x_numbers, .inl (cI, 160, .inl f_x_numbers)), (x_paces, .inl (cI, 160, .inl f_x_paces)), (pVa, .inl (cI, 5, .inl f_pVa))] sz) [(h0, .inr (1, [.ref x_clauses, .ref x_asked, .ref x_signs, .ref x_numbers, .ref x_paces])), (x_clauses, .inl (cI, 10, .inl f_x_clauses)), (x_asked, .inl (cI, 160, .inl f_x_asked)), (x_signs, .inl (cI, 160, .inl f_x_signs)), (x_numbers, .inl (cI, 160, .inl f_x_numbers)), (x_paces, .inl (cI, 160, .inl f_x_paces)), (pVa, .inl (cI, 5, .inl f_pVa))]) (va_A [(h0, .inr (1, [.ref x_clauses, .ref x_asked, .ref x_signs, .ref x_numbers, .ref x_paces])), (x_clauses, .inl (cI, 10, .inl f_x_clauses)), (x_asked, .inl (cI, 160, .inl f_x_asked)), (x_signs, .inl (cI, 160, .inl f_x_signs)), (x_numbers, .inl (cI, 160, .inl f_x_numbers)), (x_paces, .inl (cI, 160, .inl f_x_paces)), (pVa, .inl (cI, 5, .inl f_pVa))] sz)) 0 0 (va_A [(h0, .inr (1, [.ref x_clauses, .ref x_asked, .ref x_signs, .ref x_numbers, .ref x_paces])), (x_clauses, .inl (cI, 10, .inl f_x_clauses)), (x_asked, .inl (cI, 160, .inl f_x_asked)), (x_signs, .inl (cI, 160, .inl f_x_signs)), (x_numbers, .inl (cI, 160, .inl f_x_numbers)), (x_paces, .inl (cI, 160, .inl f_x_paces)), (pVa, .inl (cI, 5, .inl f_pVa))] sz) := by
  refine Met.ofW (cc := cX1_paceBy) (maxL := 5) (ret := (some .int)) (by decide) rfl ?_
  intro p e s m args below meth c s₁ B hml hv
  obtain ⟨rfl, hsz, hP, hK, hD0⟩ := hv
  have hx := B.exec
  have hb := B.bytes
  have hr := B.returns
  have hts := atoms_spec (ws := Cond.code yX1_paceBy cX1_paceBy 5 (some .int) :: lw_good) B.pre
  have hown : s.vm.findClass RX1 = some m.cls := findClass_of_methodNamed B.named
  have hlocks := B.notSynchronized
  have hiX1 : ∀ w ∈ wsX10, w ∈ (Cond.code yX1_paceBy cX1_paceBy 5 (some .int) :: lw_good) := fun w h => List.mem_cons_of_mem _ (zi_X1 w h)
  have hw0 := hts (.fieldLink RX1 9 "BunchRace$OrderBook" "clauses" "[I") (List.mem_cons_of_mem _ zw_157)
  have hw1 := hts (.fieldLink RX1 15 "BunchRace$OrderBook" "asked" "[I") (List.mem_cons_of_mem _ zw_158)
  have hw2 := hts (.initialized RX1) (List.mem_cons_of_mem _ zw_52)
  have hw3 := hts (.methodLink RX1 27 yX1_holds) (List.mem_cons_of_mem _ zw_570)
  have hw4 := hts (.instanceMethod yX1_holds) (List.mem_cons_of_mem _ zw_572)
  have hw5 := hts (.selects RX1 yX1_holds yX1_holds) (List.mem_cons_of_mem _ zw_12)
  have hw6 := hts (.fieldLink RX1 24 "BunchRace$OrderBook" "paces" "[I") (List.mem_cons_of_mem _ zw_161)
  subst hsz
  have hD := hD0.self (sz := s.heap.size)
  generalize hAe : va_A [(h0, .inr (1, [.ref x_clauses, .ref x_asked, .ref x_signs, .ref x_numbers, .ref x_paces])), (x_clauses, .inl (cI, 10, .inl f_x_clauses)), (x_asked, .inl (cI, 160, .inl f_x_asked)), (x_signs, .inl (cI, 160, .inl f_x_signs)), (x_numbers, .inl (cI, 160, .inl f_x_numbers)), (x_paces, .inl (cI, 160, .inl f_x_paces)), (pVa, .inl (cI, 5, .inl f_pVa))] s.heap.size = A at hD ⊢
  have hA : ∀ q : Nat, s.heap.size ≤ q → A q := fun q h => by rw [← hAe]; exact Or.inr h
  have hS : va_S A s.heap s.heap [] := va_S.rf
  have hP : va_P (dC, dI) vwCl [(h0, .inr (1, [.ref x_clauses, .ref x_asked, .ref x_signs, .ref x_numbers, .ref x_paces])), (x_clauses, .inl (cI, 10, .inl f_x_clauses)), (x_asked, .inl (cI, 160, .inl f_x_asked)), (x_signs, .inl (cI, 160, .inl f_x_signs)), (x_numbers, .inl (cI, 160, .inl f_x_numbers)), (x_paces, .inl (cI, 160, .inl f_x_paces)), (pVa, .inl (cI, 5, .inl f_pVa))] s.heap := hP
  have hl := lv_entry ([.ref h0, .int pR, .ref pVa]) (n := 5) (Nat.le_of_ble_eq_true rfl)
  rw [lg_entry_eq]
  generalize (lg_sl ([.ref h0, .int pR, .ref pVa]) ++ List.replicate (5 - (lg_sl ([.ref h0, .int pR, .ref pVa])).length) Slot.unset).toArray = ls at hl ⊢
  have hl : lv_has ls 5 [(0, .ref h0), (1, .int pR), (2, .ref pVa)] := hl
  refine lv_iload_n hx hb dX1_paceBy_0 rfl (lv_at hl 1 rfl) ?_
  refine lv_bipush (v := 16) hx hb dX1_paceBy_1 (by decide) ?_
  refine lv_imul hx hb dX1_paceBy_3 ?_
  refine lv_topi (fun v_1 ev_1 => ?_)
  have hv_1 : v_1.toInt = (pR_i * (16:Int)) := by rw [ev_1]; exact zz_mulI pR_h (by decide) (by omega) (by omega)
  refine lv_istore_n (lv' := [(3, .int v_1), (0, .ref h0), (1, .int pR), (2, .ref pVa)]) hx hb dX1_paceBy_4 rfl hl (by decide) rfl (fun ls hl => ?_)
  refine lv_iconst (v := 0) hx hb dX1_paceBy_5 (by decide) ?_
  refine lv_istore (lv' := [(4, .int 0), (3, .int v_1), (0, .ref h0), (1, .int pR), (2, .ref pVa)]) hx hb dX1_paceBy_6 hl (by decide) rfl (fun ls hl => ?_)
  have L_15 : ∀ (n : Nat) (i4_L_15 : Int32) (H : Heap) (locs : List Loc) (ls : Array Slot), (0 ≤ i4_L_15.toInt) → (i4_L_15.toInt ≤ 16) → (16 - i4_L_15.toInt) < (n : Int) → va_P (dC, dI) vwCl [(h0, .inr (1, [.ref x_clauses, .ref x_asked, .ref x_signs, .ref x_numbers, .ref x_paces])), (x_clauses, .inl (cI, 10, .inl f_x_clauses)), (x_asked, .inl (cI, 160, .inl f_x_asked)), (x_signs, .inl (cI, 160, .inl f_x_signs)), (x_numbers, .inl (cI, 160, .inl f_x_numbers)), (x_paces, .inl (cI, 160, .inl f_x_paces)), (pVa, .inl (cI, 5, .inl f_pVa))] H → va_D A [(h0, .inr (1, [.ref x_clauses, .ref x_asked, .ref x_signs, .ref x_numbers, .ref x_paces])), (x_clauses, .inl (cI, 10, .inl f_x_clauses)), (x_asked, .inl (cI, 160, .inl f_x_asked)), (x_signs, .inl (cI, 160, .inl f_x_signs)), (x_numbers, .inl (cI, 160, .inl f_x_numbers)), (x_paces, .inl (cI, 160, .inl f_x_paces)), (pVa, .inl (cI, 5, .inl f_pVa))] → va_S A s.heap H locs → lv_has ls 5 [(4, .int i4_L_15), (3, .int v_1), (0, .ref h0), (1, .int pR), (2, .ref pVa)] → W p l e ((headSpec (Cond.code yX1_paceBy cX1_paceBy 5 (some .int) :: lw_good) ({ frames := 1, cells := 0, slots := 0, locals := 22 })).room) s m (([.ref h0, .int pR, .ref pVa] : List Value).toArray) below meth c H locs 0 0 (MQ below (va_Qi (fun (r u : Int32) => r = u) (fun u t => (0 ≤ u.toInt ∧ u.toInt ≤ 9) ∧ va_P (dC, dI) vwCl [(h0, .inr (1, [.ref x_clauses, .ref x_asked, .ref x_signs, .ref x_numbers, .ref x_paces])), (x_clauses, .inl (cI, 10, .inl f_x_clauses)), (x_asked, .inl (cI, 160, .inl f_x_asked)), (x_signs, .inl (cI, 160, .inl f_x_signs)), (x_numbers, .inl (cI, 160, .inl f_x_numbers)), (x_paces, .inl (cI, 160, .inl f_x_paces)), (pVa, .inl (cI, 5, .inl f_pVa))] t.heap ∧ va_K (dC, dI) vwCl [(cI, .int), (cZ, .boolean)] t ∧ va_D A [(h0, .inr (1, [.ref x_clauses, .ref x_asked, .ref x_signs, .ref x_numbers, .ref x_paces])), (x_clauses, .inl (cI, 10, .inl f_x_clauses)), (x_asked, .inl (cI, 160, .inl f_x_asked)), (x_signs, .inl (cI, 160, .inl f_x_signs)), (x_numbers, .inl (cI, 160, .inl f_x_numbers)), (x_paces, .inl (cI, 160, .inl f_x_paces)), (pVa, .inl (cI, 5, .inl f_pVa))]) A) (([.ref h0, .int pR, .ref pVa] : List Value).toArray) s 0 0 A) (F0 m 8 ls []) := by
    intro n
    induction n with
    | zero =>
      intro i4_L_15 H locs ls hI0 hI1 hM
      exact absurd hM (by omega)
    | succ n ih =>
      intro i4_L_15 H locs ls hI0 hI1 hM hP hD hS hl
      have ih_16 := ih
      have hi_17 := hI0
      have hi_18 := hI1
      refine lv_iload hx hb dX1_paceBy_8 (lv_at hl 0 rfl) ?_
      refine lv_aload_n hx hb dX1_paceBy_10 rfl (lv_at hl 2 rfl) ?_
      refine va_get (D := (dC, dI)) (ci := 1) (v := .ref x_clauses) (C := RX1) (T := TX1) (N := 5) hx hb hts hiX1 hown hK hP 0 rfl rfl 0 (by decide) hw0 (fun _ h9 => h9) rfl dX1_paceBy_11 ?_
      refine lv_iload_n hx hb dX1_paceBy_14 rfl (lv_at hl 3 rfl) ?_
      refine va_iald hx hb hK hP 1 0 rfl rfl (zz_in (a := pR_i) pR_h (by omega) (by omega)) dX1_paceBy_15 ?_
      refine lv_topi (fun v_19 ev_19 => ?_)
      have bv_19 : 0 ≤ v_19.toInt ∧ v_19.toInt ≤ 16 := by rw [ev_19]; exact zr_get (a := pR_i) R_x_clauses pR_h (by omega) (by omega)
      refine lv_icmp_ge (tgt := 57) hx hb dX1_paceBy_16 (by decide) (fun c_20 => ?_) (fun c_20 => ?_)
      ·
        have c_20 : (v_19).toInt ≤ (i4_L_15).toInt := zz_le rfl rfl c_20
        refine lv_iconst (v := 4) hx hb dX1_paceBy_57 (by decide) ?_
        have hu9 : (4 : Int32).toInt = (4:Int) := (by decide)
        have hP9 := hP.sub (ws' := [(h0, .inr (1, [.ref x_clauses, .ref x_asked, .ref x_signs, .ref x_numbers, .ref x_paces])), (x_clauses, .inl (cI, 10, .inl f_x_clauses)), (x_asked, .inl (cI, 160, .inl f_x_asked)), (x_signs, .inl (cI, 160, .inl f_x_signs)), (x_numbers, .inl (cI, 160, .inl f_x_numbers)), (x_paces, .inl (cI, 160, .inl f_x_paces)), (pVa, .inl (cI, 5, .inl f_pVa))]) [0, 1, 2, 3, 4, 5, 6] rfl
        have hD9 := hD.sub (ws' := [(h0, .inr (1, [.ref x_clauses, .ref x_asked, .ref x_signs, .ref x_numbers, .ref x_paces])), (x_clauses, .inl (cI, 10, .inl f_x_clauses)), (x_asked, .inl (cI, 160, .inl f_x_asked)), (x_signs, .inl (cI, 160, .inl f_x_signs)), (x_numbers, .inl (cI, 160, .inl f_x_numbers)), (x_paces, .inl (cI, 160, .inl f_x_paces)), (pVa, .inl (cI, 5, .inl f_pVa))]) [0, 1, 2, 3, 4, 5, 6] (by decide) rfl
        have hf9_0 : 0 ≤ (4 : Int32).toInt ∧ (4 : Int32).toInt ≤ 9 := by omega
        exact W.iret (v := 4) hx hb hr (fun t ht hW => ⟨⟨4, 4, rfl, rfl, hf9_0, by rw [ht]; exact hP9, va_K.moved hW.alike hK, hD9⟩, hS.F ht⟩) hS.2.2 dX1_paceBy_58
      ·
        have c_20 : ¬ ((v_19).toInt ≤ (i4_L_15).toInt) := zz_len rfl rfl c_20
        refine lv_aload_n hx hb dX1_paceBy_19 rfl (lv_at hl 2 rfl) ?_
        refine lv_iload_n hx hb dX1_paceBy_20 rfl (lv_at hl 1 rfl) ?_
        refine lv_iload hx hb dX1_paceBy_21 (lv_at hl 0 rfl) ?_
        refine lv_iadd hx hb dX1_paceBy_23 ?_
        refine lv_topi (fun v_21 ev_21 => ?_)
        have hv_21 : v_21.toInt = ((pR_i * (16:Int)) + (i4_L_15).toInt) := by rw [ev_21]; exact zz_addI hv_1 rfl (by omega) (by omega)
        refine lv_aload_n hx hb dX1_paceBy_24 rfl (lv_at hl 4 rfl) ?_
        refine lv_aload_n hx hb dX1_paceBy_25 rfl (lv_at hl 2 rfl) ?_
        refine va_get (D := (dC, dI)) (ci := 1) (v := .ref x_asked) (C := RX1) (T := TX1) (N := 5) hx hb hts hiX1 hown hK hP 0 rfl rfl 1 (by decide) hw1 (fun _ h9 => h9) rfl dX1_paceBy_26 ?_
        refine lv_iload_n hx hb dX1_paceBy_29 rfl (lv_at hl 1 rfl) ?_
        refine lv_iload hx hb dX1_paceBy_30 (lv_at hl 0 rfl) ?_
        refine lv_iadd hx hb dX1_paceBy_32 ?_
        refine lv_topi (fun v_22 ev_22 => ?_)
        have hv_22 : v_22.toInt = ((pR_i * (16:Int)) + (i4_L_15).toInt) := by rw [ev_22]; exact zz_addI hv_1 rfl (by omega) (by omega)
        refine va_iald hx hb hK hP 2 0 rfl rfl (zz_in (a := ((pR_i * (16:Int)) + (i4_L_15).toInt)) hv_22 (by omega) (by omega)) dX1_paceBy_33 ?_
        refine lv_topi (fun v_23 ev_23 => ?_)
        have bv_23 : 0 ≤ v_23.toInt ∧ v_23.toInt ≤ 4 := by rw [ev_23]; exact zr_get (a := ((pR_i * (16:Int)) + (i4_L_15).toInt)) R_x_asked hv_22 (by omega) (by omega)
        refine va_iald hx hb hK hP 6 0 rfl rfl (zz_in (a := (v_23).toInt) rfl (by omega) (by omega)) dX1_paceBy_34 ?_
        refine lv_topi (fun v_24 ev_24 => ?_)
        have hPc := hP.sub (ws' := [(h0, .inr (1, [.ref x_clauses, .ref x_asked, .ref x_signs, .ref x_numbers, .ref x_paces])), (x_signs, .inl (cI, 160, .inl f_x_signs)), (x_numbers, .inl (cI, 160, .inl f_x_numbers))]) [0, 3, 4] rfl
        have hDc := hD.sub (ws' := [(h0, .inr (1, [.ref x_clauses, .ref x_asked, .ref x_signs, .ref x_numbers, .ref x_paces])), (x_signs, .inl (cI, 160, .inl f_x_signs)), (x_numbers, .inl (cI, 160, .inl f_x_numbers))]) [0, 3, 4] (by decide) rfl
        have hFc := va_free (wc := [(h0, .inr (1, [.ref x_clauses, .ref x_asked, .ref x_signs, .ref x_numbers, .ref x_paces])), (x_signs, .inl (cI, 160, .inl f_x_signs)), (x_numbers, .inl (cI, 160, .inl f_x_numbers))]) hD hS hA [0, 3, 4] rfl
        refine va_calli (va_runV (As := [.int v_21, .int v_24]) (rest := []) ⟨hx, hb, hml, hown, hts⟩ (c_X1_holds l dC dI cI cZ (H).size h0 v_21 ((pR_i * (16:Int)) + (i4_L_15).toInt) hv_21 (by omega) v_24 ((v_24).toInt) rfl x_clauses x_asked x_signs x_numbers x_paces f_x_signs f_x_numbers) ⟨callB_of 2 hts (zz_good zw_573) rfl rfl rfl hw2 hw3 (by decide +kernel) ⟨Nat.le_of_ble_eq_true rfl, Nat.le_of_ble_eq_true rfl⟩, hw4, hw5⟩ ⟨fun a U g mk q => by obtain ⟨q0, q1, qP, qK, qD⟩ := q; exact ⟨q0, q1, qP, va_K.moved (u := U) (U := U.calling g mk a) (Vm.Alike.refl U.vm) qK, qD⟩, va_recv hK hPc (ci := 1) (q0 := 0) rfl rfl, fun U hU hW => ⟨rfl, by rw [hU], by rw [hU]; exact hPc, va_K.moved hW.alike hK, hDc.weaken (fun _ _ _ _ => trivial)⟩⟩ rfl rfl hl.1 rfl (lv_room (Nat.le_of_ble_eq_true rfl)) dX1_paceBy_35 ⟨Nat.le_of_ble_eq_true rfl, Nat.le_of_ble_eq_true rfl⟩) hS (fun q _ h => hFc q h) hFc (fun r_25 u t H1 locs ht hvm hpost hB hz1 hk1 hS => ?_)
        subst hpost
        obtain ⟨hf_26, hP1, hK1, hD1⟩ := hB
        rw [ht] at hP1
        obtain ⟨hP, hD⟩ := va_join (wr := [(x_clauses, .inl (cI, 10, .inl f_x_clauses)), (x_asked, .inl (cI, 160, .inl f_x_asked)), (x_paces, .inl (cI, 160, .inl f_x_paces)), (pVa, .inl (cI, 5, .inl f_pVa))]) (w1 := [(h0, .inr (1, [.ref x_clauses, .ref x_asked, .ref x_signs, .ref x_numbers, .ref x_paces])), (x_signs, .inl (cI, 160, .inl f_x_signs)), (x_numbers, .inl (cI, 160, .inl f_x_numbers))]) hP hD [0, 3, 4] [1, 2, 5, 6] rfl rfl (by decide) (by decide) hk1 hFc hP1 hD1
        generalize H1 = H at hP hS ⊢
        have hP : va_P (dC, dI) vwCl [(x_clauses, .inl (cI, 10, .inl f_x_clauses)), (x_asked, .inl (cI, 160, .inl f_x_asked)), (x_paces, .inl (cI, 160, .inl f_x_paces)), (pVa, .inl (cI, 5, .inl f_pVa)), (h0, .inr (1, [.ref x_clauses, .ref x_asked, .ref x_signs, .ref x_numbers, .ref x_paces])), (x_signs, .inl (cI, 160, .inl f_x_signs)), (x_numbers, .inl (cI, 160, .inl f_x_numbers))] H := hP
        have hD : va_D A [(x_clauses, .inl (cI, 10, .inl f_x_clauses)), (x_asked, .inl (cI, 160, .inl f_x_asked)), (x_paces, .inl (cI, 160, .inl f_x_paces)), (pVa, .inl (cI, 5, .inl f_pVa)), (h0, .inr (1, [.ref x_clauses, .ref x_asked, .ref x_signs, .ref x_numbers, .ref x_paces])), (x_signs, .inl (cI, 160, .inl f_x_signs)), (x_numbers, .inl (cI, 160, .inl f_x_numbers))] := hD
        have hf_26 : 0 ≤ r_25.toInt ∧ r_25.toInt ≤ 1 := hf_26
        refine lv_if_eq (tgt := 51) hx hb dX1_paceBy_38 (by decide) (fun c_27 => ?_) (fun c_27 => ?_)
        ·
          have c_27 : (r_25).toInt = (0:Int) := zz_eq rfl (by decide) c_27
          obtain ⟨v_28, ev_28⟩ : ∃ y : Int32, y = i4_L_15 + 1 := ⟨_, rfl⟩
          have hv_28 : v_28.toInt = ((i4_L_15).toInt + (1:Int)) := by rw [ev_28]; exact zz_addI rfl (by decide) (by omega) (by omega)
          refine lv_iinc (v := v_28) (lv' := [(4, .int v_28), (3, .int v_1), (0, .ref h0), (1, .int pR), (2, .ref pVa)]) hx hb dX1_paceBy_51 hl (k := 0) rfl (by rw [ev_28]; rfl) (by decide) rfl (fun ls hl => ?_)
          refine lv_goto (tgt := 8) hx hb dX1_paceBy_54 (by decide) ?_
          have hb_29_i4_L_15 : (v_28 : Int32).toInt = ((i4_L_15).toInt + (1:Int)) := hv_28
          exact ih_16 v_28 H locs ls (by omega) (by omega) (by omega) (hP.sub [4, 0, 1, 5, 6, 2, 3] rfl) (hD.sub [4, 0, 1, 5, 6, 2, 3] (by decide) rfl) hS (lv_sub hl [0, 1, 2, 3, 4] rfl)
        ·
          have c_27 : ¬ ((r_25).toInt = (0:Int)) := zz_eqn rfl (by decide) c_27
          refine lv_aload_n hx hb dX1_paceBy_41 rfl (lv_at hl 2 rfl) ?_
          refine va_get (D := (dC, dI)) (ci := 1) (v := .ref x_paces) (C := RX1) (T := TX1) (N := 5) hx hb hts hiX1 hown hK hP 4 rfl rfl 4 (by decide) hw6 (fun _ h9 => h9) rfl dX1_paceBy_42 ?_
          refine lv_iload_n hx hb dX1_paceBy_45 rfl (lv_at hl 1 rfl) ?_
          refine lv_iload hx hb dX1_paceBy_46 (lv_at hl 0 rfl) ?_
          refine lv_iadd hx hb dX1_paceBy_48 ?_
          refine lv_topi (fun v_30 ev_30 => ?_)
          have hv_30 : v_30.toInt = ((pR_i * (16:Int)) + (i4_L_15).toInt) := by rw [ev_30]; exact zz_addI hv_1 rfl (by omega) (by omega)
          refine va_iald hx hb hK hP 2 0 rfl rfl (zz_in (a := ((pR_i * (16:Int)) + (i4_L_15).toInt)) hv_30 (by omega) (by omega)) dX1_paceBy_49 ?_
          refine lv_topi (fun v_31 ev_31 => ?_)
          have bv_31 : 0 ≤ v_31.toInt ∧ v_31.toInt ≤ 9 := by rw [ev_31]; exact zr_get (a := ((pR_i * (16:Int)) + (i4_L_15).toInt)) R_x_paces hv_30 (by omega) (by omega)
          have hu9 : (v_31 : Int32).toInt = (v_31).toInt := rfl
          have hP9 := hP.sub (ws' := [(h0, .inr (1, [.ref x_clauses, .ref x_asked, .ref x_signs, .ref x_numbers, .ref x_paces])), (x_clauses, .inl (cI, 10, .inl f_x_clauses)), (x_asked, .inl (cI, 160, .inl f_x_asked)), (x_signs, .inl (cI, 160, .inl f_x_signs)), (x_numbers, .inl (cI, 160, .inl f_x_numbers)), (x_paces, .inl (cI, 160, .inl f_x_paces)), (pVa, .inl (cI, 5, .inl f_pVa))]) [4, 0, 1, 5, 6, 2, 3] rfl
          have hD9 := hD.sub (ws' := [(h0, .inr (1, [.ref x_clauses, .ref x_asked, .ref x_signs, .ref x_numbers, .ref x_paces])), (x_clauses, .inl (cI, 10, .inl f_x_clauses)), (x_asked, .inl (cI, 160, .inl f_x_asked)), (x_signs, .inl (cI, 160, .inl f_x_signs)), (x_numbers, .inl (cI, 160, .inl f_x_numbers)), (x_paces, .inl (cI, 160, .inl f_x_paces)), (pVa, .inl (cI, 5, .inl f_pVa))]) [4, 0, 1, 5, 6, 2, 3] (by decide) rfl
          have hf9_0 : 0 ≤ v_31.toInt ∧ v_31.toInt ≤ 9 := by omega
          exact W.iret (v := v_31) hx hb hr (fun t ht hW => ⟨⟨v_31, v_31, rfl, rfl, hf9_0, by rw [ht]; exact hP9, va_K.moved hW.alike hK, hD9⟩, hS.F ht⟩) hS.2.2 dX1_paceBy_50
  have hb_32_i4_L_15 : (0 : Int32).toInt = (0:Int) := (by decide)
  exact L_15 1000 0 s.heap [] ls (by omega) (by omega) (by omega) (hP.sub [0, 1, 2, 3, 4, 5, 6] rfl) (hD.sub [0, 1, 2, 3, 4, 5, 6] (by decide) rfl) hS (lv_sub hl [0, 1, 2, 3, 4] rfl)

set_option maxHeartbeats 8000000 in
set_option maxRecDepth 100000 in
theorem c_X8_byteOf (l : Launch) (dC : Nat → ClassId) (dI : Nat → Nat → Nat) (cI cZ : ClassId) (sz : Nat) (h0 : Nat) (pW : Int32) (pW_i : Int) (pW_h : pW.toInt = pW_i) (pP : Int32) (pP_i : Int) (pP_h : pP.toInt = pP_i) (B_pP : 0 ≤ pP_i ∧ pP_i ≤ 3) (v_x_length : Int32) (v_x_length_i : Int) (v_x_length_h : v_x_length.toInt = v_x_length_i) (B_v_x_length : 0 ≤ v_x_length_i ∧ v_x_length_i ≤ 100) (x_bytes : Nat) : Met l yX8_byteOf (Cond.code yX8_byteOf cX8_byteOf 3 (some .int) :: lw_good) ({ frames := 0, cells := 0, slots := 0, locals := 0 }) (va_Pc [.ref h0, .int pW, .int pP] (fun U => U.heap.size = sz ∧ va_P (dC, dI) vwCl [(h0, .inr (8, [.int v_x_length, .ref x_bytes]))] U.heap ∧ va_K (dC, dI) vwCl [(cI, .int), (cZ, .boolean)] U ∧ va_D (fun _ => True) [(h0, .inr (8, [.int v_x_length, .ref x_bytes]))])) (va_Qi (fun (r u : Int32) => r = u) (fun u t => (u.toInt = ((bz pW pP_i.toNat : Nat) : Int)) ∧ va_P (dC, dI) vwCl [(h0, .inr (8, [.int v_x_length, .ref x_bytes]))] t.heap ∧ va_K (dC, dI) vwCl [(cI, .int), (cZ, .boolean)] t ∧ va_D (va_A [(h0, .inr (8, [.int v_x_length, .ref x_bytes]))] sz) [(h0, .inr (8, [.int v_x_length, .ref x_bytes]))]) (va_A [(h0, .inr (8, [.int v_x_length, .ref x_bytes]))] sz)) 0 0 (va_A [(h0, .inr (8, [.int v_x_length, .ref x_bytes]))] sz) := by
  refine Met.ofW (cc := cX8_byteOf) (maxL := 3) (ret := (some .int)) (by decide) rfl ?_
  intro p e s m args below meth c s₁ B hml hv
  obtain ⟨rfl, hsz, hP, hK, hD0⟩ := hv
  have hx := B.exec
  have hb := B.bytes
  have hr := B.returns
  have hts := atoms_spec (ws := Cond.code yX8_byteOf cX8_byteOf 3 (some .int) :: lw_good) B.pre
  have hown : s.vm.findClass RX8 = some m.cls := findClass_of_methodNamed B.named
  have hlocks := B.notSynchronized
  subst hsz
  have hD := hD0.self (sz := s.heap.size)
  generalize hAe : va_A [(h0, .inr (8, [.int v_x_length, .ref x_bytes]))] s.heap.size = A at hD ⊢
  have hA : ∀ q : Nat, s.heap.size ≤ q → A q := fun q h => by rw [← hAe]; exact Or.inr h
  have hS : va_S A s.heap s.heap [] := va_S.rf
  have hP : va_P (dC, dI) vwCl [(h0, .inr (8, [.int v_x_length, .ref x_bytes]))] s.heap := hP
  have hl := lv_entry ([.ref h0, .int pW, .int pP]) (n := 3) (Nat.le_of_ble_eq_true rfl)
  rw [lg_entry_eq]
  generalize (lg_sl ([.ref h0, .int pW, .int pP]) ++ List.replicate (3 - (lg_sl ([.ref h0, .int pW, .int pP])).length) Slot.unset).toArray = ls at hl ⊢
  have hl : lv_has ls 3 [(0, .ref h0), (1, .int pW), (2, .int pP)] := hl
  refine lv_iload_n hx hb dX8_byteOf_0 rfl (lv_at hl 1 rfl) ?_
  refine lv_bipush (v := 8) hx hb dX8_byteOf_1 (by decide) ?_
  refine lv_iconst (v := 3) hx hb dX8_byteOf_3 (by decide) ?_
  refine lv_iload_n hx hb dX8_byteOf_4 rfl (lv_at hl 2 rfl) ?_
  refine lv_isub hx hb dX8_byteOf_5 ?_
  refine lv_topi (fun v_1 ev_1 => ?_)
  have hv_1 : v_1.toInt = ((3:Int) - pP_i) := by rw [ev_1]; exact zz_subI (by decide) pP_h (by omega) (by omega)
  refine lv_imul hx hb dX8_byteOf_6 ?_
  refine lv_topi (fun v_2 ev_2 => ?_)
  have hv_2 : v_2.toInt = ((8:Int) * ((3:Int) - pP_i)) := by rw [ev_2]; exact zz_mulI (by decide) hv_1 (by omega) (by omega)
  refine lv_iushr (v := (pW.toUInt32 >>> (v_2.toUInt32 &&& Int32.toUInt32 31)).toInt32) hx hb dX8_byteOf_7 rfl ?_
  refine lv_sipush (v := 255) hx hb dX8_byteOf_8 (by decide) ?_
  refine lv_iand hx hb dX8_byteOf_11 ?_
  have hu9 : (((pW.toUInt32 >>> (v_2.toUInt32 &&& Int32.toUInt32 31)).toInt32) &&& 255 : Int32).toInt = (((pW.toUInt32 >>> (v_2.toUInt32 &&& Int32.toUInt32 31)).toInt32) &&& 255).toInt := rfl
  have hP9 := hP.sub (ws' := [(h0, .inr (8, [.int v_x_length, .ref x_bytes]))]) [0] rfl
  have hD9 := hD.sub (ws' := [(h0, .inr (8, [.int v_x_length, .ref x_bytes]))]) [0] (by decide) rfl
  have hf9_0 : (((pW.toUInt32 >>> (v_2.toUInt32 &&& Int32.toUInt32 31)).toInt32) &&& 255).toInt = ((bz pW pP_i.toNat : Nat) : Int) := zz_byteU pW v_2 (by omega) (by omega) hv_2
  exact W.iret (v := ((pW.toUInt32 >>> (v_2.toUInt32 &&& Int32.toUInt32 31)).toInt32) &&& 255) hx hb hr (fun t ht hW => ⟨⟨((pW.toUInt32 >>> (v_2.toUInt32 &&& Int32.toUInt32 31)).toInt32) &&& 255, ((pW.toUInt32 >>> (v_2.toUInt32 &&& Int32.toUInt32 31)).toInt32) &&& 255, rfl, rfl, hf9_0, by rw [ht]; exact hP9, va_K.moved hW.alike hK, hD9⟩, hS.F ht⟩) hS.2.2 dX8_byteOf_12

set_option maxHeartbeats 8000000 in
set_option maxRecDepth 100000 in
theorem c_X8_bytesIn (l : Launch) (dC : Nat → ClassId) (dI : Nat → Nat → Nat) (cI cZ : ClassId) (sz : Nat) (h0 : Nat) (pW : Int32) (pW_i : Int) (pW_h : pW.toInt = pW_i) (v_x_length : Int32) (v_x_length_i : Int) (v_x_length_h : v_x_length.toInt = v_x_length_i) (B_v_x_length : 0 ≤ v_x_length_i ∧ v_x_length_i ≤ 100) (x_bytes : Nat) : Met l yX8_bytesIn (Cond.code yX8_bytesIn cX8_bytesIn 4 (some .int) :: lw_good) ({ frames := 1, cells := 0, slots := 0, locals := 22 }) (va_Pc [.ref h0, .int pW] (fun U => U.heap.size = sz ∧ va_P (dC, dI) vwCl [(h0, .inr (8, [.int v_x_length, .ref x_bytes]))] U.heap ∧ va_K (dC, dI) vwCl [(cI, .int), (cZ, .boolean)] U ∧ va_D (fun _ => True) [(h0, .inr (8, [.int v_x_length, .ref x_bytes]))])) (va_Qi (fun (r u : Int32) => r = u) (fun u t => (u.toInt = ((bc pW 4 : Nat) : Int)) ∧ (0 ≤ u.toInt ∧ u.toInt ≤ 4) ∧ va_P (dC, dI) vwCl [(h0, .inr (8, [.int v_x_length, .ref x_bytes]))] t.heap ∧ va_K (dC, dI) vwCl [(cI, .int), (cZ, .boolean)] t ∧ va_D (va_A [(h0, .inr (8, [.int v_x_length, .ref x_bytes]))] sz) [(h0, .inr (8, [.int v_x_length, .ref x_bytes]))]) (va_A [(h0, .inr (8, [.int v_x_length, .ref x_bytes]))] sz)) 0 0 (va_A [(h0, .inr (8, [.int v_x_length, .ref x_bytes]))] sz) := by
  refine Met.ofW (cc := cX8_bytesIn) (maxL := 4) (ret := (some .int)) (by decide) rfl ?_
  intro p e s m args below meth c s₁ B hml hv
  obtain ⟨rfl, hsz, hP, hK, hD0⟩ := hv
  have hx := B.exec
  have hb := B.bytes
  have hr := B.returns
  have hts := atoms_spec (ws := Cond.code yX8_bytesIn cX8_bytesIn 4 (some .int) :: lw_good) B.pre
  have hown : s.vm.findClass RX8 = some m.cls := findClass_of_methodNamed B.named
  have hlocks := B.notSynchronized
  have hw0 := hts (.initialized RX8) (List.mem_cons_of_mem _ zw_51)
  have hw1 := hts (.methodLink RX8 19 yX8_byteOf) (List.mem_cons_of_mem _ zw_430)
  have hw2 := hts (.instanceMethod yX8_byteOf) (List.mem_cons_of_mem _ zw_431)
  have hw3 := hts (.selects RX8 yX8_byteOf yX8_byteOf) (List.mem_cons_of_mem _ zw_432)
  subst hsz
  have hD := hD0.self (sz := s.heap.size)
  generalize hAe : va_A [(h0, .inr (8, [.int v_x_length, .ref x_bytes]))] s.heap.size = A at hD ⊢
  have hA : ∀ q : Nat, s.heap.size ≤ q → A q := fun q h => by rw [← hAe]; exact Or.inr h
  have hS : va_S A s.heap s.heap [] := va_S.rf
  have hP : va_P (dC, dI) vwCl [(h0, .inr (8, [.int v_x_length, .ref x_bytes]))] s.heap := hP
  have hl := lv_entry ([.ref h0, .int pW]) (n := 4) (Nat.le_of_ble_eq_true rfl)
  rw [lg_entry_eq]
  generalize (lg_sl ([.ref h0, .int pW]) ++ List.replicate (4 - (lg_sl ([.ref h0, .int pW])).length) Slot.unset).toArray = ls at hl ⊢
  have hl : lv_has ls 4 [(0, .ref h0), (1, .int pW)] := hl
  refine lv_iconst (v := 0) hx hb dX8_bytesIn_0 (by decide) ?_
  refine lv_istore_n (lv' := [(2, .int 0), (0, .ref h0), (1, .int pW)]) hx hb dX8_bytesIn_1 rfl hl (by decide) rfl (fun ls hl => ?_)
  refine lv_iconst (v := 0) hx hb dX8_bytesIn_2 (by decide) ?_
  refine lv_istore_n (lv' := [(3, .int 0), (2, .int 0), (0, .ref h0), (1, .int pW)]) hx hb dX8_bytesIn_3 rfl hl (by decide) rfl (fun ls hl => ?_)
  have L_10 : ∀ (n : Nat) (i3_L_10 : Int32) (i2_L_10 : Int32) (H : Heap) (locs : List Loc) (ls : Array Slot), (0 ≤ i3_L_10.toInt) → (i3_L_10.toInt ≤ 4) → (0 ≤ i2_L_10.toInt) → (i2_L_10.toInt ≤ 4) → (i2_L_10.toInt = ((bc pW i3_L_10.toInt.toNat : Nat) : Int)) → (4 - i3_L_10.toInt) < (n : Int) → va_P (dC, dI) vwCl [(h0, .inr (8, [.int v_x_length, .ref x_bytes]))] H → va_D A [(h0, .inr (8, [.int v_x_length, .ref x_bytes]))] → va_S A s.heap H locs → lv_has ls 4 [(3, .int i3_L_10), (2, .int i2_L_10), (0, .ref h0), (1, .int pW)] → W p l e ((headSpec (Cond.code yX8_bytesIn cX8_bytesIn 4 (some .int) :: lw_good) ({ frames := 1, cells := 0, slots := 0, locals := 22 })).room) s m (([.ref h0, .int pW] : List Value).toArray) below meth c H locs 0 0 (MQ below (va_Qi (fun (r u : Int32) => r = u) (fun u t => (u.toInt = ((bc pW 4 : Nat) : Int)) ∧ (0 ≤ u.toInt ∧ u.toInt ≤ 4) ∧ va_P (dC, dI) vwCl [(h0, .inr (8, [.int v_x_length, .ref x_bytes]))] t.heap ∧ va_K (dC, dI) vwCl [(cI, .int), (cZ, .boolean)] t ∧ va_D A [(h0, .inr (8, [.int v_x_length, .ref x_bytes]))]) A) (([.ref h0, .int pW] : List Value).toArray) s 0 0 A) (F0 m 4 ls []) := by
    intro n
    induction n with
    | zero =>
      intro i3_L_10 i2_L_10 H locs ls hI0 hI1 hI2 hI3 hI4 hM
      exact absurd hM (by omega)
    | succ n ih =>
      intro i3_L_10 i2_L_10 H locs ls hI0 hI1 hI2 hI3 hI4 hM hP hD hS hl
      have ih_11 := ih
      have hi_12 := hI0
      have hi_13 := hI1
      have hi_14 := hI2
      have hi_15 := hI3
      have hi_16 := hI4
      have hst := bc_step pW (i := i3_L_10.toInt) (by omega)
      have hbl := bc_le pW i3_L_10.toInt.toNat
      refine lv_iload_n hx hb dX8_bytesIn_4 rfl (lv_at hl 0 rfl) ?_
      refine lv_iconst (v := 4) hx hb dX8_bytesIn_5 (by decide) ?_
      refine lv_icmp_ge (tgt := 27) hx hb dX8_bytesIn_6 (by decide) (fun c_17 => ?_) (fun c_17 => ?_)
      ·
        have c_17 : (4:Int) ≤ (i3_L_10).toInt := zz_le (by decide) rfl c_17
        refine lv_iload_n hx hb dX8_bytesIn_27 rfl (lv_at hl 1 rfl) ?_
        have hu9 : (i2_L_10 : Int32).toInt = (i2_L_10).toInt := rfl
        have hP9 := hP.sub (ws' := [(h0, .inr (8, [.int v_x_length, .ref x_bytes]))]) [0] rfl
        have hD9 := hD.sub (ws' := [(h0, .inr (8, [.int v_x_length, .ref x_bytes]))]) [0] (by decide) rfl
        have hf9_0 : i2_L_10.toInt = ((bc pW 4 : Nat) : Int) := by have e4 : bc pW i3_L_10.toInt.toNat = bc pW 4 := (by rw [show i3_L_10.toInt.toNat = 4 by omega]); omega
        have hf9_1 : 0 ≤ i2_L_10.toInt ∧ i2_L_10.toInt ≤ 4 := by omega
        exact W.iret (v := i2_L_10) hx hb hr (fun t ht hW => ⟨⟨i2_L_10, i2_L_10, rfl, rfl, hf9_0, hf9_1, by rw [ht]; exact hP9, va_K.moved hW.alike hK, hD9⟩, hS.F ht⟩) hS.2.2 dX8_bytesIn_28
      ·
        have c_17 : ¬ ((4:Int) ≤ (i3_L_10).toInt) := zz_len (by decide) rfl c_17
        refine lv_aload_n hx hb dX8_bytesIn_9 rfl (lv_at hl 2 rfl) ?_
        refine lv_iload_n hx hb dX8_bytesIn_10 rfl (lv_at hl 3 rfl) ?_
        refine lv_iload_n hx hb dX8_bytesIn_11 rfl (lv_at hl 0 rfl) ?_
        have hPc := hP.sub (ws' := [(h0, .inr (8, [.int v_x_length, .ref x_bytes]))]) [0] rfl
        have hDc := hD.sub (ws' := [(h0, .inr (8, [.int v_x_length, .ref x_bytes]))]) [0] (by decide) rfl
        have hFc := va_free (wc := [(h0, .inr (8, [.int v_x_length, .ref x_bytes]))]) hD hS hA [0] rfl
        refine va_calli (va_runV (As := [.int pW, .int i3_L_10]) (rest := []) ⟨hx, hb, hml, hown, hts⟩ (c_X8_byteOf l dC dI cI cZ (H).size h0 pW pW_i pW_h i3_L_10 ((i3_L_10).toInt) rfl (by omega) v_x_length v_x_length_i v_x_length_h (by omega) x_bytes) ⟨callB_of 2 hts (zz_good zw_433) rfl rfl rfl hw0 hw1 (by decide +kernel) ⟨Nat.le_of_ble_eq_true rfl, Nat.le_of_ble_eq_true rfl⟩, hw2, hw3⟩ ⟨fun a U g mk q => by obtain ⟨q0, q1, qP, qK, qD⟩ := q; exact ⟨q0, q1, qP, va_K.moved (u := U) (U := U.calling g mk a) (Vm.Alike.refl U.vm) qK, qD⟩, va_recv hK hPc (ci := 8) (q0 := 0) rfl rfl, fun U hU hW => ⟨rfl, by rw [hU], by rw [hU]; exact hPc, va_K.moved hW.alike hK, hDc.weaken (fun _ _ _ _ => trivial)⟩⟩ rfl rfl hl.1 rfl (lv_room (Nat.le_of_ble_eq_true rfl)) dX8_bytesIn_12 ⟨Nat.le_of_ble_eq_true rfl, Nat.le_of_ble_eq_true rfl⟩) hS (fun q _ h => hFc q h) hFc (fun r_18 u t H1 locs ht hvm hpost hB hz1 hk1 hS => ?_)
        subst hpost
        obtain ⟨hf_19, hP1, hK1, hD1⟩ := hB
        rw [ht] at hP1
        obtain ⟨hP, hD⟩ := va_join (wr := []) (w1 := [(h0, .inr (8, [.int v_x_length, .ref x_bytes]))]) hP hD [0] [] rfl rfl (by decide) (by decide) hk1 hFc hP1 hD1
        generalize H1 = H at hP hS ⊢
        have hP : va_P (dC, dI) vwCl [(h0, .inr (8, [.int v_x_length, .ref x_bytes]))] H := hP
        have hD : va_D A [(h0, .inr (8, [.int v_x_length, .ref x_bytes]))] := hD
        have hf_19 : r_18.toInt = ((bz pW ((i3_L_10).toInt).toNat : Nat) : Int) := hf_19
        refine lv_if_eq (tgt := 21) hx hb dX8_bytesIn_15 (by decide) (fun c_20 => ?_) (fun c_20 => ?_)
        ·
          have c_20 : (r_18).toInt = (0:Int) := zz_eq rfl (by decide) c_20
          obtain ⟨v_21, ev_21⟩ : ∃ y : Int32, y = i3_L_10 + 1 := ⟨_, rfl⟩
          have hv_21 : v_21.toInt = ((i3_L_10).toInt + (1:Int)) := by rw [ev_21]; exact zz_addI rfl (by decide) (by omega) (by omega)
          refine lv_iinc (v := v_21) (lv' := [(3, .int v_21), (2, .int i2_L_10), (0, .ref h0), (1, .int pW)]) hx hb dX8_bytesIn_21 hl (k := 0) rfl (by rw [ev_21]; rfl) (by decide) rfl (fun ls hl => ?_)
          refine lv_goto (tgt := 4) hx hb dX8_bytesIn_24 (by decide) ?_
          have hb_22_i3_L_10 : (v_21 : Int32).toInt = ((i3_L_10).toInt + (1:Int)) := hv_21
          have hb_22_i2_L_10 : (i2_L_10 : Int32).toInt = (i2_L_10).toInt := rfl
          exact ih_11 v_21 i2_L_10 H locs ls (by omega) (by omega) (by omega) (by omega) (by rw [hb_22_i3_L_10]; omega) (by omega) (hP.sub [0] rfl) (hD.sub [0] (by decide) rfl) hS (lv_sub hl [0, 1, 2, 3] rfl)
        ·
          have c_20 : ¬ ((r_18).toInt = (0:Int)) := zz_eqn rfl (by decide) c_20
          obtain ⟨v_23, ev_23⟩ : ∃ y : Int32, y = i2_L_10 + 1 := ⟨_, rfl⟩
          have hv_23 : v_23.toInt = ((i2_L_10).toInt + (1:Int)) := by rw [ev_23]; exact zz_addI rfl (by decide) (by omega) (by omega)
          refine lv_iinc (v := v_23) (lv' := [(2, .int v_23), (3, .int i3_L_10), (0, .ref h0), (1, .int pW)]) hx hb dX8_bytesIn_18 hl (k := 1) rfl (by rw [ev_23]; rfl) (by decide) rfl (fun ls hl => ?_)
          obtain ⟨v_24, ev_24⟩ : ∃ y : Int32, y = i3_L_10 + 1 := ⟨_, rfl⟩
          have hv_24 : v_24.toInt = ((i3_L_10).toInt + (1:Int)) := by rw [ev_24]; exact zz_addI rfl (by decide) (by omega) (by omega)
          refine lv_iinc (v := v_24) (lv' := [(3, .int v_24), (2, .int v_23), (0, .ref h0), (1, .int pW)]) hx hb dX8_bytesIn_21 hl (k := 1) rfl (by rw [ev_24]; rfl) (by decide) rfl (fun ls hl => ?_)
          refine lv_goto (tgt := 4) hx hb dX8_bytesIn_24 (by decide) ?_
          have hb_25_i3_L_10 : (v_24 : Int32).toInt = ((i3_L_10).toInt + (1:Int)) := hv_24
          have hb_25_i2_L_10 : (v_23 : Int32).toInt = ((i2_L_10).toInt + (1:Int)) := hv_23
          exact ih_11 v_24 v_23 H locs ls (by omega) (by omega) (by omega) (by omega) (by rw [hb_25_i3_L_10]; omega) (by omega) (hP.sub [0] rfl) (hD.sub [0] (by decide) rfl) hS (lv_sub hl [0, 1, 2, 3] rfl)
  have hb_26_i3_L_10 : (0 : Int32).toInt = (0:Int) := (by decide)
  have hb_26_i2_L_10 : (0 : Int32).toInt = (0:Int) := (by decide)
  exact L_10 1000 0 0 s.heap [] ls (by omega) (by omega) (by omega) (by omega) (by rfl) (by omega) (hP.sub [0] rfl) (hD.sub [0] (by decide) rfl) hS (lv_sub hl [0, 1, 2, 3] rfl)

set_option maxHeartbeats 8000000 in
set_option maxRecDepth 100000 in
theorem c_X8_append (l : Launch) (dC : Nat → ClassId) (dI : Nat → Nat → Nat) (cI cZ : ClassId) (sz : Nat) (h0 : Nat) (pW : Int32) (pW_i : Int) (pW_h : pW.toInt = pW_i) (v_x_length : Int32) (v_x_length_i : Int) (v_x_length_h : v_x_length.toInt = v_x_length_i) (B_v_x_length : 0 ≤ v_x_length_i ∧ v_x_length_i ≤ 100) (x_bytes : Nat) (f_x_bytes : Nat → Int32) (hh0 : v_x_length_i + ((bc pW 4 : Nat) : Int) ≤ 100) : Met l yX8_append (Cond.code yX8_append cX8_append 4 none :: lw_good) ({ frames := 1, cells := 0, slots := 0, locals := 22 }) (va_Pc [.ref h0, .int pW] (fun U => U.heap.size = sz ∧ va_P (dC, dI) vwCl [(h0, .inr (8, [.int v_x_length, .ref x_bytes])), (x_bytes, .inl (cI, 100, .inl f_x_bytes))] U.heap ∧ va_K (dC, dI) vwCl [(cI, .int), (cZ, .boolean)] U ∧ va_D (fun _ => True) [(h0, .inr (8, [.int v_x_length, .ref x_bytes])), (x_bytes, .inl (cI, 100, .inl f_x_bytes))])) (va_Qv (fun _ : Unit => True) (fun _ t => ∃ (w_h0_length : Int32) (g_x_bytes : Nat → Int32), (w_h0_length.toInt = v_x_length_i + ((bc pW 4 : Nat) : Int)) ∧ (zTG f_x_bytes g_x_bytes v_x_length_i (bz pW) (bc pW) 4) ∧ (0 ≤ w_h0_length.toInt ∧ w_h0_length.toInt ≤ 100) ∧ va_P (dC, dI) vwCl [(h0, .inr (8, [.int w_h0_length, .ref x_bytes])), (x_bytes, .inl (cI, 100, .inl g_x_bytes))] t.heap ∧ va_K (dC, dI) vwCl [(cI, .int), (cZ, .boolean)] t ∧ va_D (va_A [(h0, .inr (8, [.int v_x_length, .ref x_bytes])), (x_bytes, .inl (cI, 100, .inl f_x_bytes))] sz) [(h0, .inr (8, [.int w_h0_length, .ref x_bytes])), (x_bytes, .inl (cI, 100, .inl g_x_bytes))]) (va_A [(h0, .inr (8, [.int v_x_length, .ref x_bytes])), (x_bytes, .inl (cI, 100, .inl f_x_bytes))] sz)) 0 0 (va_A [(h0, .inr (8, [.int v_x_length, .ref x_bytes])), (x_bytes, .inl (cI, 100, .inl f_x_bytes))] sz) := by
  refine Met.ofW (cc := cX8_append) (maxL := 4) (ret := none) (by decide) rfl ?_
  intro p e s m args below meth c s₁ B hml hv
  obtain ⟨rfl, hsz, hP, hK, hD0⟩ := hv
  have hx := B.exec
  have hb := B.bytes
  have hr := B.returns
  have hts := atoms_spec (ws := Cond.code yX8_append cX8_append 4 none :: lw_good) B.pre
  have hown : s.vm.findClass RX8 = some m.cls := findClass_of_methodNamed B.named
  have hlocks := B.notSynchronized
  have hiX8 : ∀ w ∈ wsX80, w ∈ (Cond.code yX8_append cX8_append 4 none :: lw_good) := fun w h => List.mem_cons_of_mem _ (zi_X8 w h)
  have hw0 := hts (.initialized RX8) (List.mem_cons_of_mem _ zw_51)
  have hw1 := hts (.methodLink RX8 19 yX8_byteOf) (List.mem_cons_of_mem _ zw_430)
  have hw2 := hts (.instanceMethod yX8_byteOf) (List.mem_cons_of_mem _ zw_431)
  have hw3 := hts (.selects RX8 yX8_byteOf yX8_byteOf) (List.mem_cons_of_mem _ zw_432)
  have hw4 := hts (.fieldLink RX8 9 "BunchRace$Tape" "length" "I") (List.mem_cons_of_mem _ zw_141)
  have hw5 := hts (.fieldLink RX8 15 "BunchRace$Tape" "bytes" "[I") (List.mem_cons_of_mem _ zw_144)
  subst hsz
  have hD := hD0.self (sz := s.heap.size)
  generalize hAe : va_A [(h0, .inr (8, [.int v_x_length, .ref x_bytes])), (x_bytes, .inl (cI, 100, .inl f_x_bytes))] s.heap.size = A at hD ⊢
  have hA : ∀ q : Nat, s.heap.size ≤ q → A q := fun q h => by rw [← hAe]; exact Or.inr h
  have hS : va_S A s.heap s.heap [] := va_S.rf
  have hP : va_P (dC, dI) vwCl [(h0, .inr (8, [.int v_x_length, .ref x_bytes])), (x_bytes, .inl (cI, 100, .inl f_x_bytes))] s.heap := hP
  have hl := lv_entry ([.ref h0, .int pW]) (n := 4) (Nat.le_of_ble_eq_true rfl)
  rw [lg_entry_eq]
  generalize (lg_sl ([.ref h0, .int pW]) ++ List.replicate (4 - (lg_sl ([.ref h0, .int pW])).length) Slot.unset).toArray = ls at hl ⊢
  have hl : lv_has ls 4 [(0, .ref h0), (1, .int pW)] := hl
  refine lv_iconst (v := 0) hx hb dX8_append_0 (by decide) ?_
  refine lv_istore_n (lv' := [(2, .int 0), (0, .ref h0), (1, .int pW)]) hx hb dX8_append_1 rfl hl (by decide) rfl (fun ls hl => ?_)
  have L_14 : ∀ (n : Nat) (i2_L_14 : Int32) (g_x_bytes_L_14 : Nat → Int32) (w_h0_length_L_14 : Int32) (H : Heap) (locs : List Loc) (ls : Array Slot), (0 ≤ i2_L_14.toInt) → (i2_L_14.toInt ≤ 4) → (0 ≤ w_h0_length_L_14.toInt) → (w_h0_length_L_14.toInt ≤ 100) → ((w_h0_length_L_14).toInt = v_x_length_i + ((bc pW i2_L_14.toInt.toNat : Nat) : Int)) → (zTG f_x_bytes g_x_bytes_L_14 v_x_length_i (bz pW) (bc pW) i2_L_14.toInt.toNat) → (4 - i2_L_14.toInt) < (n : Int) → va_P (dC, dI) vwCl [(h0, .inr (8, [.int w_h0_length_L_14, .ref x_bytes])), (x_bytes, .inl (cI, 100, .inl g_x_bytes_L_14))] H → va_D A [(h0, .inr (8, [.int w_h0_length_L_14, .ref x_bytes])), (x_bytes, .inl (cI, 100, .inl g_x_bytes_L_14))] → va_S A s.heap H locs → lv_has ls 4 [(2, .int i2_L_14), (0, .ref h0), (1, .int pW)] → W p l e ((headSpec (Cond.code yX8_append cX8_append 4 none :: lw_good) ({ frames := 1, cells := 0, slots := 0, locals := 22 })).room) s m (([.ref h0, .int pW] : List Value).toArray) below meth c H locs 0 0 (MQ below (va_Qv (fun _ : Unit => True) (fun _ t => ∃ (w_h0_length : Int32) (g_x_bytes : Nat → Int32), (w_h0_length.toInt = v_x_length_i + ((bc pW 4 : Nat) : Int)) ∧ (zTG f_x_bytes g_x_bytes v_x_length_i (bz pW) (bc pW) 4) ∧ (0 ≤ w_h0_length.toInt ∧ w_h0_length.toInt ≤ 100) ∧ va_P (dC, dI) vwCl [(h0, .inr (8, [.int w_h0_length, .ref x_bytes])), (x_bytes, .inl (cI, 100, .inl g_x_bytes))] t.heap ∧ va_K (dC, dI) vwCl [(cI, .int), (cZ, .boolean)] t ∧ va_D A [(h0, .inr (8, [.int w_h0_length, .ref x_bytes])), (x_bytes, .inl (cI, 100, .inl g_x_bytes))]) A) (([.ref h0, .int pW] : List Value).toArray) s 0 0 A) (F0 m 2 ls []) := by
    intro n
    induction n with
    | zero =>
      intro i2_L_14 g_x_bytes_L_14 w_h0_length_L_14 H locs ls hI0 hI1 hI2 hI3 hI4 hI5 hM
      exact absurd hM (by omega)
    | succ n ih =>
      intro i2_L_14 g_x_bytes_L_14 w_h0_length_L_14 H locs ls hI0 hI1 hI2 hI3 hI4 hI5 hM hP hD hS hl
      have ih_15 := ih
      have hi_16 := hI0
      have hi_17 := hI1
      have hi_18 := hI2
      have hi_19 := hI3
      have hi_20 := hI4
      have hi_21 := hI5
      have hst := bc_step pW (i := i2_L_14.toInt) (by omega)
      have hmo : 4 ≤ i2_L_14.toInt ∨ bc pW (i2_L_14.toInt + 1).toNat ≤ bc pW 4 := by rcases (show 4 ≤ i2_L_14.toInt ∨ i2_L_14.toInt < 4 by omega) with q | q; exact Or.inl q; exact Or.inr (bc_mono pW (by omega))
      refine lv_iload_n hx hb dX8_append_2 rfl (lv_at hl 0 rfl) ?_
      refine lv_iconst (v := 4) hx hb dX8_append_3 (by decide) ?_
      refine lv_icmp_ge (tgt := 53) hx hb dX8_append_4 (by decide) (fun c_22 => ?_) (fun c_22 => ?_)
      ·
        have c_22 : (4:Int) ≤ (i2_L_14).toInt := zz_le (by decide) rfl c_22
        have hx9_w_h0_length : (w_h0_length_L_14 : Int32).toInt = (w_h0_length_L_14).toInt := rfl
        have hP9 := hP.sub (ws' := [(h0, .inr (8, [.int w_h0_length_L_14, .ref x_bytes])), (x_bytes, .inl (cI, 100, .inl g_x_bytes_L_14))]) [0, 1] rfl
        have hD9 := hD.sub (ws' := [(h0, .inr (8, [.int w_h0_length_L_14, .ref x_bytes])), (x_bytes, .inl (cI, 100, .inl g_x_bytes_L_14))]) [0, 1] (by decide) rfl
        have hf9_0 : w_h0_length_L_14.toInt = v_x_length_i + ((bc pW 4 : Nat) : Int) := by have e4 : bc pW i2_L_14.toInt.toNat = bc pW 4 := (by rw [show i2_L_14.toInt.toNat = 4 by omega]); omega
        have hf9_1 : zTG f_x_bytes g_x_bytes_L_14 v_x_length_i (bz pW) (bc pW) 4 := zTG_k hi_21 (by omega)
        have hf9_2 : 0 ≤ w_h0_length_L_14.toInt ∧ w_h0_length_L_14.toInt ≤ 100 := by omega
        exact W.vret hx hb hr (fun t ht hW => ⟨⟨(), rfl, trivial, w_h0_length_L_14, g_x_bytes_L_14, hf9_0, hf9_1, hf9_2, by rw [ht]; exact hP9, va_K.moved hW.alike hK, hD9⟩, hS.F ht⟩) hS.2.2 dX8_append_53
      ·
        have c_22 : ¬ ((4:Int) ≤ (i2_L_14).toInt) := zz_len (by decide) rfl c_22
        refine lv_aload_n hx hb dX8_append_7 rfl (lv_at hl 1 rfl) ?_
        refine lv_iload_n hx hb dX8_append_8 rfl (lv_at hl 2 rfl) ?_
        refine lv_iload_n hx hb dX8_append_9 rfl (lv_at hl 0 rfl) ?_
        have hPc := hP.sub (ws' := [(h0, .inr (8, [.int w_h0_length_L_14, .ref x_bytes]))]) [0] rfl
        have hDc := hD.sub (ws' := [(h0, .inr (8, [.int w_h0_length_L_14, .ref x_bytes]))]) [0] (by decide) rfl
        have hFc := va_free (wc := [(h0, .inr (8, [.int w_h0_length_L_14, .ref x_bytes]))]) hD hS hA [0] rfl
        refine va_calli (va_runV (As := [.int pW, .int i2_L_14]) (rest := []) ⟨hx, hb, hml, hown, hts⟩ (c_X8_byteOf l dC dI cI cZ (H).size h0 pW pW_i pW_h i2_L_14 ((i2_L_14).toInt) rfl (by omega) w_h0_length_L_14 ((w_h0_length_L_14).toInt) rfl (by omega) x_bytes) ⟨callB_of 2 hts (zz_good zw_433) rfl rfl rfl hw0 hw1 (by decide +kernel) ⟨Nat.le_of_ble_eq_true rfl, Nat.le_of_ble_eq_true rfl⟩, hw2, hw3⟩ ⟨fun a U g mk q => by obtain ⟨q0, q1, qP, qK, qD⟩ := q; exact ⟨q0, q1, qP, va_K.moved (u := U) (U := U.calling g mk a) (Vm.Alike.refl U.vm) qK, qD⟩, va_recv hK hPc (ci := 8) (q0 := 0) rfl rfl, fun U hU hW => ⟨rfl, by rw [hU], by rw [hU]; exact hPc, va_K.moved hW.alike hK, hDc.weaken (fun _ _ _ _ => trivial)⟩⟩ rfl rfl hl.1 rfl (lv_room (Nat.le_of_ble_eq_true rfl)) dX8_append_10 ⟨Nat.le_of_ble_eq_true rfl, Nat.le_of_ble_eq_true rfl⟩) hS (fun q _ h => hFc q h) hFc (fun r_23 u t H1 locs ht hvm hpost hB hz1 hk1 hS => ?_)
        subst hpost
        obtain ⟨hf_24, hP1, hK1, hD1⟩ := hB
        rw [ht] at hP1
        obtain ⟨hP, hD⟩ := va_join (wr := [(x_bytes, .inl (cI, 100, .inl g_x_bytes_L_14))]) (w1 := [(h0, .inr (8, [.int w_h0_length_L_14, .ref x_bytes]))]) hP hD [0] [1] rfl rfl (by decide) (by decide) hk1 hFc hP1 hD1
        generalize H1 = H at hP hS ⊢
        have hP : va_P (dC, dI) vwCl [(x_bytes, .inl (cI, 100, .inl g_x_bytes_L_14)), (h0, .inr (8, [.int w_h0_length_L_14, .ref x_bytes]))] H := hP
        have hD : va_D A [(x_bytes, .inl (cI, 100, .inl g_x_bytes_L_14)), (h0, .inr (8, [.int w_h0_length_L_14, .ref x_bytes]))] := hD
        have hf_24 : r_23.toInt = ((bz pW ((i2_L_14).toInt).toNat : Nat) : Int) := hf_24
        refine lv_istore_n (lv' := [(3, .int r_23), (2, .int i2_L_14), (0, .ref h0), (1, .int pW)]) hx hb dX8_append_13 rfl hl (by decide) rfl (fun ls hl => ?_)
        refine lv_iload_n hx hb dX8_append_14 rfl (lv_at hl 0 rfl) ?_
        refine lv_if_eq (tgt := 47) hx hb dX8_append_15 (by decide) (fun c_25 => ?_) (fun c_25 => ?_)
        ·
          have c_25 : (r_23).toInt = (0:Int) := zz_eq rfl (by decide) c_25
          obtain ⟨v_26, ev_26⟩ : ∃ y : Int32, y = i2_L_14 + 1 := ⟨_, rfl⟩
          have hv_26 : v_26.toInt = ((i2_L_14).toInt + (1:Int)) := by rw [ev_26]; exact zz_addI rfl (by decide) (by omega) (by omega)
          refine lv_iinc (v := v_26) (lv' := [(2, .int v_26), (3, .int r_23), (0, .ref h0), (1, .int pW)]) hx hb dX8_append_47 hl (k := 1) rfl (by rw [ev_26]; rfl) (by decide) rfl (fun ls hl => ?_)
          refine lv_goto (tgt := 2) hx hb dX8_append_50 (by decide) ?_
          have hb_27_i2_L_14 : (v_26 : Int32).toInt = ((i2_L_14).toInt + (1:Int)) := hv_26
          have hb_27_w_h0_length_L_14 : (w_h0_length_L_14 : Int32).toInt = (w_h0_length_L_14).toInt := rfl
          exact ih_15 v_26 g_x_bytes_L_14 w_h0_length_L_14 H locs ls (by omega) (by omega) (by omega) (by omega) (by rw [hb_27_i2_L_14]; omega) (zTG_no hi_21 (by omega) (by omega)) (by omega) (hP.sub [1, 0] rfl) (hD.sub [1, 0] (by decide) rfl) hS (lv_sub hl [0, 2, 3] rfl)
        ·
          have c_25 : ¬ ((r_23).toInt = (0:Int)) := zz_eqn rfl (by decide) c_25
          refine lv_aload_n hx hb dX8_append_18 rfl (lv_at hl 2 rfl) ?_
          refine va_get (D := (dC, dI)) (ci := 8) (v := .int w_h0_length_L_14) (C := RX8) (T := TX8) (N := 2) hx hb hts hiX8 hown hK hP 1 rfl rfl 0 (by decide) hw4 (fun _ h9 => h9) rfl dX8_append_19 ?_
          refine lv_bipush (v := 100) hx hb dX8_append_22 (by decide) ?_
          refine lv_icmp_ge (tgt := 47) hx hb dX8_append_24 (by decide) (fun c_28 => ?_) (fun c_28 => ?_)
          ·
            have c_28 : (100:Int) ≤ (w_h0_length_L_14).toInt := zz_le (by decide) rfl c_28
            exact absurd c_28 (by omega)
          ·
            have c_28 : ¬ ((100:Int) ≤ (w_h0_length_L_14).toInt) := zz_len (by decide) rfl c_28
            refine lv_aload_n hx hb dX8_append_27 rfl (lv_at hl 2 rfl) ?_
            refine va_get (D := (dC, dI)) (ci := 8) (v := .ref x_bytes) (C := RX8) (T := TX8) (N := 2) hx hb hts hiX8 hown hK hP 1 rfl rfl 1 (by decide) hw5 (fun _ h9 => h9) rfl dX8_append_28 ?_
            refine lv_aload_n hx hb dX8_append_31 rfl (lv_at hl 2 rfl) ?_
            refine va_get (D := (dC, dI)) (ci := 8) (v := .int w_h0_length_L_14) (C := RX8) (T := TX8) (N := 2) hx hb hts hiX8 hown hK hP 1 rfl rfl 0 (by decide) hw4 (fun _ h9 => h9) rfl dX8_append_32 ?_
            refine lv_iload_n hx hb dX8_append_35 rfl (lv_at hl 0 rfl) ?_
            refine va_iast hx hb hK hP hD hS 0 0 rfl rfl (zz_in (a := (w_h0_length_L_14).toInt) rfl (by omega) (by omega)) dX8_append_36 (fun H locs hP hD hS => ?_)
            have hP : va_P (dC, dI) vwCl [(x_bytes, .inl (cI, 100, .inl (upd g_x_bytes_L_14 (Int32.toNatClampNeg w_h0_length_L_14) r_23))), (h0, .inr (8, [.int w_h0_length_L_14, .ref x_bytes]))] H := hP
            have hD : va_D A [(x_bytes, .inl (cI, 100, .inl (upd g_x_bytes_L_14 (Int32.toNatClampNeg w_h0_length_L_14) r_23))), (h0, .inr (8, [.int w_h0_length_L_14, .ref x_bytes]))] := hD
            have hT_30 : zTG f_x_bytes (upd g_x_bytes_L_14 (Int32.toNatClampNeg w_h0_length_L_14) r_23) v_x_length_i (bz pW) (bc pW) ((i2_L_14).toInt.toNat + 1) := zTG_st hi_21 (zCN_bc pW) (by omega) rfl (by omega) rfl (by omega) rfl
            generalize upd g_x_bytes_L_14 (Int32.toNatClampNeg w_h0_length_L_14) r_23 = f_29 at hP hD hT_30
            refine lv_aload_n hx hb dX8_append_37 rfl (lv_at hl 2 rfl) ?_
            refine lv_dup hx hb dX8_append_38 rfl ?_
            refine va_get (D := (dC, dI)) (ci := 8) (v := .int w_h0_length_L_14) (C := RX8) (T := TX8) (N := 2) hx hb hts hiX8 hown hK hP 1 rfl rfl 0 (by decide) hw4 (fun _ h9 => h9) rfl dX8_append_39 ?_
            refine lv_iconst (v := 1) hx hb dX8_append_42 (by decide) ?_
            refine lv_iadd hx hb dX8_append_43 ?_
            refine lv_topi (fun v_31 ev_31 => ?_)
            have hv_31 : v_31.toInt = ((w_h0_length_L_14).toInt + (1:Int)) := by rw [ev_31]; exact zz_addI rfl (by decide) (by omega) (by omega)
            refine va_put (D := (dC, dI)) (ci := 8) (v := .int v_31) (ty := .int) (C := RX8) (T := TX8) (N := 2) hx hb hts hiX8 tyX8 tyX8_ok nmX8 hown hK hP hD hS 1 rfl rfl 0 (by decide) hw4 (fun _ h9 => h9) rfl (by decide +kernel) rfl rfl (Nat.le_of_ble_eq_true rfl) dX8_append_44 (fun H locs hP hD hS => ?_)
            have hP : va_P (dC, dI) vwCl [(x_bytes, .inl (cI, 100, .inl f_29)), (h0, .inr (8, [.int v_31, .ref x_bytes]))] H := hP
            have hD : va_D A [(x_bytes, .inl (cI, 100, .inl f_29)), (h0, .inr (8, [.int v_31, .ref x_bytes]))] := hD
            obtain ⟨v_32, ev_32⟩ : ∃ y : Int32, y = i2_L_14 + 1 := ⟨_, rfl⟩
            have hv_32 : v_32.toInt = ((i2_L_14).toInt + (1:Int)) := by rw [ev_32]; exact zz_addI rfl (by decide) (by omega) (by omega)
            refine lv_iinc (v := v_32) (lv' := [(2, .int v_32), (3, .int r_23), (0, .ref h0), (1, .int pW)]) hx hb dX8_append_47 hl (k := 1) rfl (by rw [ev_32]; rfl) (by decide) rfl (fun ls hl => ?_)
            refine lv_goto (tgt := 2) hx hb dX8_append_50 (by decide) ?_
            have hb_33_i2_L_14 : (v_32 : Int32).toInt = ((i2_L_14).toInt + (1:Int)) := hv_32
            have hb_33_w_h0_length_L_14 : (v_31 : Int32).toInt = ((w_h0_length_L_14).toInt + (1:Int)) := hv_31
            exact ih_15 v_32 f_29 v_31 H locs ls (by omega) (by omega) (by omega) (by omega) (by rw [hb_33_i2_L_14]; omega) (zTG_k hT_30 (by omega)) (by omega) (hP.sub [1, 0] rfl) (hD.sub [1, 0] (by decide) rfl) hS (lv_sub hl [0, 2, 3] rfl)
  have hb_34_i2_L_14 : (0 : Int32).toInt = (0:Int) := (by decide)
  have hb_34_w_h0_length_L_14 : (v_x_length : Int32).toInt = v_x_length_i := v_x_length_h
  exact L_14 1000 0 f_x_bytes v_x_length s.heap [] ls (by omega) (by omega) (by omega) (by omega) (by first | omega | (simp [bc]; omega)) (zTG_zero _ _ _ _) (by omega) (hP.sub [0, 1] rfl) (hD.sub [0, 1] (by decide) rfl) hS (lv_sub hl [0, 1, 2] rfl)
