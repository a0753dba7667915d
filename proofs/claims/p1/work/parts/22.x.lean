set_option maxHeartbeats 4000000 in
set_option maxRecDepth 100000 in
theorem c_X1_clearDraft (l : Launch) (dC : Nat → ClassId) (dI : Nat → Nat → Nat) (cI cZ : ClassId) (sz : Nat) (h0 : Nat) (x_clauses : Nat) (x_asked : Nat) (x_signs : Nat) (x_numbers : Nat) (x_paces : Nat) (pf : Nat → Int32) : Met l yX1_clearDraft (Cond.code yX1_clearDraft cX1_clearDraft 1 none :: lw_good) ({ frames := 0, cells := 0, slots := 0, locals := 0 }) (va_Pc [.ref h0] (fun U => U.heap.size = sz ∧ va_P (dC, dI) vwCl [(h0, .inr (1, [.ref x_clauses, .ref x_asked, .ref x_signs, .ref x_numbers, .ref x_paces])), (x_clauses, .inl (cI, 10, .inl pf))] U.heap ∧ va_K (dC, dI) vwCl [(cI, .int), (cZ, .boolean)] U ∧ va_D (fun _ => True) [(h0, .inr (1, [.ref x_clauses, .ref x_asked, .ref x_signs, .ref x_numbers, .ref x_paces])), (x_clauses, .inl (cI, 10, .inl pf))])) (va_Qv (fun _ : Unit => True) (fun _ t => ∃ (pf2 : Nat → Int32), va_P (dC, dI) vwCl [(h0, .inr (1, [.ref x_clauses, .ref x_asked, .ref x_signs, .ref x_numbers, .ref x_paces])), (x_clauses, .inl (cI, 10, .inl pf2))] t.heap ∧ va_K (dC, dI) vwCl [(cI, .int), (cZ, .boolean)] t ∧ va_D (va_A [(h0, .inr (1, [.ref x_clauses, .ref x_asked, .ref x_signs, .ref x_numbers, .ref x_paces])), (x_clauses, .inl (cI, 10, .inl pf))] sz) [(h0, .inr (1, [.ref x_clauses, .ref x_asked, .ref x_signs, .ref x_numbers, .ref x_paces])), (x_clauses, .inl (cI, 10, .inl pf2))]) (va_A [(h0, .inr (1, [.ref x_clauses, .ref x_asked, .ref x_signs, .ref x_numbers, .ref x_paces])), (x_clauses, .inl (cI, 10, .inl pf))] sz)) 0 0 (va_A [(h0, .inr (1, [.ref x_clauses, .ref x_asked, .ref x_signs, .ref x_numbers, .ref x_paces])), (x_clauses, .inl (cI, 10, .inl pf))] sz) := by
  refine Met.ofW (cc := cX1_clearDraft) (maxL := 1) (ret := none) (by decide) rfl ?_
  intro p e s m args below meth c s₁ B hml hv
  obtain ⟨rfl, hsz, hP, hK, hD0⟩ := hv
  have hx := B.exec
  have hb := B.bytes
  have hr := B.returns
  have hts := atoms_spec (ws := Cond.code yX1_clearDraft cX1_clearDraft 1 none :: lw_good) B.pre
  have hown : s.vm.findClass RX1 = some m.cls := findClass_of_methodNamed B.named
  have hlocks := B.notSynchronized
  have hiX1 : ∀ w ∈ wsX10, w ∈ (Cond.code yX1_clearDraft cX1_clearDraft 1 none :: lw_good) := fun w h => List.mem_cons_of_mem _ (zi_X1 w h)
  have hw0 := hts (.fieldLink RX1 9 "BunchRace$OrderBook" "clauses" "[I") (List.mem_cons_of_mem _ zw_157)
  subst hsz
  have hD := hD0.self (sz := s.heap.size)
  generalize hAe : va_A [(h0, .inr (1, [.ref x_clauses, .ref x_asked, .ref x_signs, .ref x_numbers, .ref x_paces])), (x_clauses, .inl (cI, 10, .inl pf))] s.heap.size = A at hD ⊢
  have hA : ∀ q : Nat, s.heap.size ≤ q → A q := fun q h => by rw [← hAe]; exact Or.inr h
  have hS : va_S A s.heap s.heap [] := va_S.rf
  have hP : va_P (dC, dI) vwCl [(h0, .inr (1, [.ref x_clauses, .ref x_asked, .ref x_signs, .ref x_numbers, .ref x_paces])), (x_clauses, .inl (cI, 10, .inl pf))] s.heap := hP
  have hl := lv_entry ([.ref h0]) (n := 1) (Nat.le_of_ble_eq_true rfl)
  rw [lg_entry_eq]
  generalize (lg_sl ([.ref h0]) ++ List.replicate (1 - (lg_sl ([.ref h0])).length) Slot.unset).toArray = ls at hl ⊢
  have hl : lv_has ls 1 [(0, .ref h0)] := hl
  refine lv_aload_n hx hb dX1_clearDraft_0 rfl (lv_at hl 0 rfl) ?_
  refine va_get (D := (dC, dI)) (ci := 1) (v := .ref x_clauses) (C := RX1) (T := TX1) (N := 5) hx hb hts hiX1 hown hK hP 0 rfl rfl 0 (by decide) hw0 (fun _ h9 => h9) rfl dX1_clearDraft_1 ?_
  refine lv_bipush (v := 9) hx hb dX1_clearDraft_4 (by decide) ?_
  refine lv_iconst (v := 0) hx hb dX1_clearDraft_6 (by decide) ?_
  refine va_iast hx hb hK hP hD hS 1 0 rfl rfl (zz_inl rfl) dX1_clearDraft_7 (fun H locs hP hD hS => ?_)
  have hP : va_P (dC, dI) vwCl [(h0, .inr (1, [.ref x_clauses, .ref x_asked, .ref x_signs, .ref x_numbers, .ref x_paces])), (x_clauses, .inl (cI, 10, .inl (upd pf (Int32.toNatClampNeg 9) 0)))] H := hP
  have hD : va_D A [(h0, .inr (1, [.ref x_clauses, .ref x_asked, .ref x_signs, .ref x_numbers, .ref x_paces])), (x_clauses, .inl (cI, 10, .inl (upd pf (Int32.toNatClampNeg 9) 0)))] := hD
  have hP9 := hP.sub (ws' := [(h0, .inr (1, [.ref x_clauses, .ref x_asked, .ref x_signs, .ref x_numbers, .ref x_paces])), (x_clauses, .inl (cI, 10, .inl (upd pf (Int32.toNatClampNeg 9) 0)))]) [0, 1] rfl
  have hD9 := hD.sub (ws' := [(h0, .inr (1, [.ref x_clauses, .ref x_asked, .ref x_signs, .ref x_numbers, .ref x_paces])), (x_clauses, .inl (cI, 10, .inl (upd pf (Int32.toNatClampNeg 9) 0)))]) [0, 1] (by decide) rfl
  refine W.widen (k := 0) (n := 0) (Nat.le_of_ble_eq_true rfl) (Nat.le_of_ble_eq_true rfl) ?_
  exact W.vret hx hb hr (fun t ht hW => ⟨⟨(), rfl, trivial, (upd pf (Int32.toNatClampNeg 9) 0), by rw [ht]; exact hP9, va_K.moved hW.alike hK, hD9⟩, hS.F ht⟩) hS.2.2 dX1_clearDraft_8

set_option maxHeartbeats 4000000 in
set_option maxRecDepth 100000 in
theorem c_X2_faultOf (l : Launch) (dC : Nat → ClassId) (dI : Nat → Nat → Nat) (cI cZ : ClassId) (sz : Nat) (h0 : Nat) (pTape : Nat) (x_bytes : Nat) (pBook : Nat) (y_clauses : Nat) (y_asked : Nat) (y_signs : Nat) (y_numbers : Nat) (y_paces : Nat) (pf : Nat → Int32) : Met l yX2_faultOf (Cond.code yX2_faultOf cX2_faultOf 4 (some .int) :: lw_good) ({ frames := 1, cells := 0, slots := 0, locals := 20 }) (va_Pc [.ref h0, .ref pTape, .ref pBook] (fun U => U.heap.size = sz ∧ va_P (dC, dI) vwCl [(h0, .inr (2, [.int 0, .int 0, .int 0, .int 0, .int 0])), (pTape, .inr (8, [.int 0, .ref x_bytes])), (pBook, .inr (1, [.ref y_clauses, .ref y_asked, .ref y_signs, .ref y_numbers, .ref y_paces])), (y_clauses, .inl (cI, 10, .inl pf))] U.heap ∧ va_K (dC, dI) vwCl [(cI, .int), (cZ, .boolean)] U ∧ va_D (fun _ => True) [(h0, .inr (2, [.int 0, .int 0, .int 0, .int 0, .int 0])), (pTape, .inr (8, [.int 0, .ref x_bytes])), (pBook, .inr (1, [.ref y_clauses, .ref y_asked, .ref y_signs, .ref y_numbers, .ref y_paces])), (y_clauses, .inl (cI, 10, .inl pf))])) (va_Qi (fun (r u : Int32) => r = u) (fun u t => ∃ (pf2 : Nat → Int32), (u.toInt = -1) ∧ va_P (dC, dI) vwCl [(h0, .inr (2, [.int 0, .int 0, .int 0, .int 0, .int 0])), (pTape, .inr (8, [.int 0, .ref x_bytes])), (pBook, .inr (1, [.ref y_clauses, .ref y_asked, .ref y_signs, .ref y_numbers, .ref y_paces])), (y_clauses, .inl (cI, 10, .inl pf2))] t.heap ∧ va_K (dC, dI) vwCl [(cI, .int), (cZ, .boolean)] t ∧ va_D (va_A [(h0, .inr (2, [.int 0, .int 0, .int 0, .int 0, .int 0])), (pTape, .inr (8, [.int 0, .ref x_bytes])), (pBook, .inr (1, [.ref y_clauses, .ref y_asked, .ref y_signs, .ref y_numbers, .ref y_paces])), (y_clauses, .inl (cI, 10, .inl pf))] sz) [(h0, .inr (2, [.int 0, .int 0, .int 0, .int 0, .int 0])), (pTape, .inr (8, [.int 0, .ref x_bytes])), (pBook, .inr (1, [.ref y_clauses, .ref y_asked, .ref y_signs, .ref y_numbers, .ref y_paces])), (y_clauses, .inl (cI, 10, .inl pf2))]) (va_A [(h0, .inr (2, [.int 0, .int 0, .int 0, .int 0, .int 0])), (pTape, .inr (8, [.int 0, .ref x_bytes])), (pBook, .inr (1, [.ref y_clauses, .ref y_asked, .ref y_signs, .ref y_numbers, .ref y_paces])), (y_clauses, .inl (cI, 10, .inl pf))] sz)) 0 0 (va_A [(h0, .inr (2, [.int 0, .int 0, .int 0, .int 0, .int 0])), (pTape, .inr (8, [.int 0, .ref x_bytes])), (pBook, .inr (1, [.ref y_clauses, .ref y_asked, .ref y_signs, .ref y_numbers, .ref y_paces])), (y_clauses, .inl (cI, 10, .inl pf))] sz) := by
  refine Met.ofW (cc := cX2_faultOf) (maxL := 4) (ret := (some .int)) (by decide) rfl ?_
  intro p e s m args below meth c s₁ B hml hv
  obtain ⟨rfl, hsz, hP, hK, hD0⟩ := hv
  have hx := B.exec
  have hb := B.bytes
  have hr := B.returns
  have hts := atoms_spec (ws := Cond.code yX2_faultOf cX2_faultOf 4 (some .int) :: lw_good) B.pre
  have hown : s.vm.findClass RX2 = some m.cls := findClass_of_methodNamed B.named
  have hlocks := B.notSynchronized
  have hiX2 : ∀ w ∈ wsX20, w ∈ (Cond.code yX2_faultOf cX2_faultOf 4 (some .int) :: lw_good) := fun w h => List.mem_cons_of_mem _ (zi_X2 w h)
  have hiX8 : ∀ w ∈ wsX80, w ∈ (Cond.code yX2_faultOf cX2_faultOf 4 (some .int) :: lw_good) := fun w h => List.mem_cons_of_mem _ (zi_X8 w h)
  have hw0 := hts (.initialized RX1) (List.mem_cons_of_mem _ zw_52)
  have hw1 := hts (.methodLink RX2 27 yX1_clearDraft) (List.mem_cons_of_mem _ zw_450)
  have hw2 := hts (.instanceMethod yX1_clearDraft) (List.mem_cons_of_mem _ zw_451)
  have hw3 := hts (.selects RX1 yX1_clearDraft yX1_clearDraft) (List.mem_cons_of_mem _ zw_452)
  have hw4 := hts (.fieldLink RX2 11 "BunchRace$OrderReader" "awaited" "I") (List.mem_cons_of_mem _ zw_179)
  have hw5 := hts (.fieldLink RX2 32 "BunchRace$Tape" "length" "I") (List.mem_cons_of_mem _ zw_142)
  subst hsz
  have hD := hD0.self (sz := s.heap.size)
  generalize hAe : va_A [(h0, .inr (2, [.int 0, .int 0, .int 0, .int 0, .int 0])), (pTape, .inr (8, [.int 0, .ref x_bytes])), (pBook, .inr (1, [.ref y_clauses, .ref y_asked, .ref y_signs, .ref y_numbers, .ref y_paces])), (y_clauses, .inl (cI, 10, .inl pf))] s.heap.size = A at hD ⊢
  have hA : ∀ q : Nat, s.heap.size ≤ q → A q := fun q h => by rw [← hAe]; exact Or.inr h
  have hS : va_S A s.heap s.heap [] := va_S.rf
  have hP : va_P (dC, dI) vwCl [(h0, .inr (2, [.int 0, .int 0, .int 0, .int 0, .int 0])), (pTape, .inr (8, [.int 0, .ref x_bytes])), (pBook, .inr (1, [.ref y_clauses, .ref y_asked, .ref y_signs, .ref y_numbers, .ref y_paces])), (y_clauses, .inl (cI, 10, .inl pf))] s.heap := hP
  have hl := lv_entry ([.ref h0, .ref pTape, .ref pBook]) (n := 4) (Nat.le_of_ble_eq_true rfl)
  rw [lg_entry_eq]
  generalize (lg_sl ([.ref h0, .ref pTape, .ref pBook]) ++ List.replicate (4 - (lg_sl ([.ref h0, .ref pTape, .ref pBook])).length) Slot.unset).toArray = ls at hl ⊢
  have hl : lv_has ls 4 [(0, .ref h0), (1, .ref pTape), (2, .ref pBook)] := hl
  refine lv_aload_n hx hb dX2_faultOf_0 rfl (lv_at hl 2 rfl) ?_
  have hPc := hP.sub (ws' := [(pBook, .inr (1, [.ref y_clauses, .ref y_asked, .ref y_signs, .ref y_numbers, .ref y_paces])), (y_clauses, .inl (cI, 10, .inl pf))]) [2, 3] rfl
  have hDc := hD.sub (ws' := [(pBook, .inr (1, [.ref y_clauses, .ref y_asked, .ref y_signs, .ref y_numbers, .ref y_paces])), (y_clauses, .inl (cI, 10, .inl pf))]) [2, 3] (by decide) rfl
  have hFc := va_free (wc := [(pBook, .inr (1, [.ref y_clauses, .ref y_asked, .ref y_signs, .ref y_numbers, .ref y_paces])), (y_clauses, .inl (cI, 10, .inl pf))]) hD hS hA [2, 3] rfl
  refine va_callv (va_runV (As := []) (rest := []) ⟨hx, hb, hml, hown, hts⟩ (c_X1_clearDraft l dC dI cI cZ (s.heap).size pBook y_clauses y_asked y_signs y_numbers y_paces pf) ⟨callB_of 0 hts (zz_good zw_453) rfl rfl rfl hw0 hw1 (by decide +kernel) ⟨Nat.le_of_ble_eq_true rfl, Nat.le_of_ble_eq_true rfl⟩, hw2, hw3⟩ ⟨fun a U g mk q => by obtain ⟨q0, q1, qP, qK, qD⟩ := q; exact ⟨q0, q1, qP, va_K.moved (u := U) (U := U.calling g mk a) (Vm.Alike.refl U.vm) qK, qD⟩, va_recv hK hPc (ci := 1) (q0 := 0) rfl rfl, fun U hU hW => ⟨rfl, by rw [hU], by rw [hU]; exact hPc, va_K.moved hW.alike hK, hDc.weaken (fun _ _ _ _ => trivial)⟩⟩ rfl rfl hl.1 rfl (lv_room (Nat.le_of_ble_eq_true rfl)) dX2_faultOf_1 ⟨Nat.le_of_ble_eq_true rfl, Nat.le_of_ble_eq_true rfl⟩) hS (fun q _ h => hFc q h) hFc (fun u t H1 locs ht hvm hpost hB hz1 hk1 hS => ?_)
  obtain ⟨pf2_1, hP1, hK1, hD1⟩ := hB
  rw [ht] at hP1
  obtain ⟨hP, hD⟩ := va_join (wr := [(h0, .inr (2, [.int 0, .int 0, .int 0, .int 0, .int 0])), (pTape, .inr (8, [.int 0, .ref x_bytes]))]) (w1 := [(pBook, .inr (1, [.ref y_clauses, .ref y_asked, .ref y_signs, .ref y_numbers, .ref y_paces])), (y_clauses, .inl (cI, 10, .inl pf2_1))]) hP hD [2, 3] [0, 1] rfl rfl (by decide) (by decide) hk1 hFc hP1 hD1
  generalize H1 = H at hP hS ⊢
  have hP : va_P (dC, dI) vwCl [(h0, .inr (2, [.int 0, .int 0, .int 0, .int 0, .int 0])), (pTape, .inr (8, [.int 0, .ref x_bytes])), (pBook, .inr (1, [.ref y_clauses, .ref y_asked, .ref y_signs, .ref y_numbers, .ref y_paces])), (y_clauses, .inl (cI, 10, .inl pf2_1))] H := hP
  have hD : va_D A [(h0, .inr (2, [.int 0, .int 0, .int 0, .int 0, .int 0])), (pTape, .inr (8, [.int 0, .ref x_bytes])), (pBook, .inr (1, [.ref y_clauses, .ref y_asked, .ref y_signs, .ref y_numbers, .ref y_paces])), (y_clauses, .inl (cI, 10, .inl pf2_1))] := hD
  refine lv_aload_n hx hb dX2_faultOf_4 rfl (lv_at hl 0 rfl) ?_
  refine lv_iconst (v := 0) hx hb dX2_faultOf_5 (by decide) ?_
  refine va_put (D := (dC, dI)) (ci := 2) (v := .int 0) (ty := .int) (C := RX2) (T := TX2) (N := 5) hx hb hts hiX2 tyX2 tyX2_ok nmX2 hown hK hP hD hS 0 rfl rfl 0 (by decide) hw4 (fun _ h9 => h9) rfl (by decide +kernel) rfl rfl (Nat.le_of_ble_eq_true rfl) dX2_faultOf_6 (fun H locs hP hD hS => ?_)
  have hP : va_P (dC, dI) vwCl [(h0, .inr (2, [.int 0, .int 0, .int 0, .int 0, .int 0])), (pTape, .inr (8, [.int 0, .ref x_bytes])), (pBook, .inr (1, [.ref y_clauses, .ref y_asked, .ref y_signs, .ref y_numbers, .ref y_paces])), (y_clauses, .inl (cI, 10, .inl pf2_1))] H := hP
  have hD : va_D A [(h0, .inr (2, [.int 0, .int 0, .int 0, .int 0, .int 0])), (pTape, .inr (8, [.int 0, .ref x_bytes])), (pBook, .inr (1, [.ref y_clauses, .ref y_asked, .ref y_signs, .ref y_numbers, .ref y_paces])), (y_clauses, .inl (cI, 10, .inl pf2_1))] := hD
  refine lv_iconst (v := 0) hx hb dX2_faultOf_9 (by decide) ?_
  refine lv_istore_n (lv' := [(3, .int 0), (0, .ref h0), (1, .ref pTape), (2, .ref pBook)]) hx hb dX2_faultOf_10 rfl hl (by decide) rfl (fun ls hl => ?_)
  refine lv_iload_n hx hb dX2_faultOf_11 rfl (lv_at hl 0 rfl) ?_
  refine lv_aload_n hx hb dX2_faultOf_12 rfl (lv_at hl 2 rfl) ?_
  refine va_get (D := (dC, dI)) (ci := 8) (v := .int 0) (C := RX8) (T := TX8) (N := 2) hx hb hts hiX8 hown hK hP 1 rfl rfl 0 (by decide) hw5 (fun _ h9 => h9) rfl dX2_faultOf_13 ?_
  refine lv_icmp_ge (tgt := 41) hx hb dX2_faultOf_16 (by decide) (fun c_2 => ?_) (fun c_2 => ?_)
  ·
    refine lv_aload_n hx hb dX2_faultOf_41 rfl (lv_at hl 1 rfl) ?_
    refine va_get (D := (dC, dI)) (ci := 2) (v := .int 0) (C := RX2) (T := TX2) (N := 5) hx hb hts hiX2 hown hK hP 0 rfl rfl 0 (by decide) hw4 (fun _ h9 => h9) rfl dX2_faultOf_42 ?_
    refine lv_if_eq (tgt := 57) hx hb dX2_faultOf_45 (by decide) (fun c_3 => ?_) (fun c_3 => ?_)
    ·
      refine lv_iconst (v := (-1)) hx hb dX2_faultOf_57 (by decide) ?_
      refine lv_goto (tgt := 65) hx hb dX2_faultOf_58 (by decide) ?_
      have hP9 := hP.sub (ws' := [(h0, .inr (2, [.int 0, .int 0, .int 0, .int 0, .int 0])), (pTape, .inr (8, [.int 0, .ref x_bytes])), (pBook, .inr (1, [.ref y_clauses, .ref y_asked, .ref y_signs, .ref y_numbers, .ref y_paces])), (y_clauses, .inl (cI, 10, .inl pf2_1))]) [0, 1, 2, 3] rfl
      have hD9 := hD.sub (ws' := [(h0, .inr (2, [.int 0, .int 0, .int 0, .int 0, .int 0])), (pTape, .inr (8, [.int 0, .ref x_bytes])), (pBook, .inr (1, [.ref y_clauses, .ref y_asked, .ref y_signs, .ref y_numbers, .ref y_paces])), (y_clauses, .inl (cI, 10, .inl pf2_1))]) [0, 1, 2, 3] (by decide) rfl
      refine W.widen (k := 0) (n := 0) (Nat.le_of_ble_eq_true rfl) (Nat.le_of_ble_eq_true rfl) ?_
      have hu9 : ((-1) : Int32).toInt = (-1:Int) := (by decide)
      have hf9_0 : ((-1) : Int32).toInt = -1 := by omega
      exact W.iret (v := (-1)) hx hb hr (fun t ht hW => ⟨⟨(-1), (-1), rfl, rfl, pf2_1, hf9_0, by rw [ht]; exact hP9, va_K.moved hW.alike hK, hD9⟩, hS.F ht⟩) hS.2.2 dX2_faultOf_65
    ·
      exact absurd c_3 (by decide)
  ·
    exact absurd c_2 (by decide)

set_option maxHeartbeats 4000000 in
set_option maxRecDepth 100000 in
theorem c_X1_takeDraft (l : Launch) (dC : Nat → ClassId) (dI : Nat → Nat → Nat) (cI cZ : ClassId) (sz : Nat) (h0 : Nat) (x_clauses : Nat) (x_asked : Nat) (x_signs : Nat) (x_numbers : Nat) (x_paces : Nat) (fclauses : Nat → Int32) (fasked : Nat → Int32) (fsigns : Nat → Int32) (fnumbers : Nat → Int32) (fpaces : Nat → Int32) (pR : Int32) (pR_i : Int) (pR_h : pR.toInt = pR_i) (hh0 : 0 ≤ pR_i) (hh1 : pR_i ≤ 9) : Met l yX1_takeDraft (Cond.code yX1_takeDraft cX1_takeDraft 5 none :: lw_good) ({ frames := 0, cells := 0, slots := 0, locals := 0 }) (va_Pc [.ref h0, .int pR] (fun U => U.heap.size = sz ∧ va_P (dC, dI) vwCl [(h0, .inr (1, [.ref x_clauses, .ref x_asked, .ref x_signs, .ref x_numbers, .ref x_paces])), (x_clauses, .inl (cI, 10, .inl fclauses)), (x_asked, .inl (cI, 160, .inl fasked)), (x_signs, .inl (cI, 160, .inl fsigns)), (x_numbers, .inl (cI, 160, .inl fnumbers)), (x_paces, .inl (cI, 160, .inl fpaces))] U.heap ∧ va_K (dC, dI) vwCl [(cI, .int), (cZ, .boolean)] U ∧ va_D (fun _ => True) [(h0, .inr (1, [.ref x_clauses, .ref x_asked, .ref x_signs, .ref x_numbers, .ref x_paces])), (x_clauses, .inl (cI, 10, .inl fclauses)), (x_asked, .inl (cI, 160, .inl fasked)), (x_signs, .inl (cI, 160, .inl fsigns)), (x_numbers, .inl (cI, 160, .inl fnumbers)), (x_paces, .inl (cI, 160, .inl fpaces))])) (va_Qv (fun _ : Unit => True) (fun _ t => ∃ (gclauses : Nat → Int32) (gasked : Nat → Int32) (gsigns : Nat → Int32) (gnumbers : Nat → Int32) (gpaces : Nat → Int32), va_P (dC, dI) vwCl [(h0, .inr (1, [.ref x_clauses, .ref x_asked, .ref x_signs, .ref x_numbers, .ref x_paces])), (x_clauses, .inl (cI, 10, .inl gclauses)), (x_asked, .inl (cI, 160, .inl gasked)), (x_signs, .inl (cI, 160, .inl gsigns)), (x_numbers, .inl (cI, 160, .inl gnumbers)), (x_paces, .inl (cI, 160, .inl gpaces))] t.heap ∧ va_K (dC, dI) vwCl [(cI, .int), (cZ, .boolean)] t ∧ va_D (va_A [(h0, .inr (1, [.ref x_clauses, .ref x_asked, .ref x_signs, .ref x_numbers, .ref x_paces])), (x_clauses, .inl (cI, 10, .inl fclauses)), (x_asked, .inl (cI, 160, .inl fasked)), (x_signs, .inl (cI, 160, .inl fsigns)), (x_numbers, .inl (cI, 160, .inl fnumbers)), (x_paces, .inl (cI, 160, .inl fpaces))] sz) [(h0, .inr (1, [.ref x_clauses, .ref x_asked, .ref x_signs, .ref x_numbers, .ref x_paces])), (x_clauses, .inl (cI, 10, .inl gclauses)), (x_asked, .inl (cI, 160, .inl gasked)), (x_signs, .inl (cI, 160, .inl gsigns)), (x_numbers, .inl (cI, 160, .inl gnumbers)), (x_paces, .inl (cI, 160, .inl gpaces))]) (va_A [(h0, .inr (1, [.ref x_clauses, .ref x_asked, .ref x_signs, .ref x_numbers, .ref x_paces])), (x_clauses, .inl (cI, 10, .inl fclauses)), (x_asked, .inl (cI, 160, .inl fasked)), (x_signs, .inl (cI, 160, .inl fsigns)), (x_numbers, .inl (cI, 160, .inl fnumbers)), (x_paces, .inl (cI, 160, .inl fpaces))] sz)) 0 0 (va_A [(h0, .inr (1, [.ref x_clauses, .ref x_asked, .ref x_signs, .ref x_numbers, .ref x_paces])), (x_clauses, .inl (cI, 10, .inl fclauses)), (x_asked, .inl (cI, 160, .inl fasked)), (x_signs, .inl (cI, 160, .inl fsigns)), (x_numbers, .inl (cI, 160, .inl fnumbers)), (x_paces, .inl (cI, 160, .inl fpaces))] sz) := by
  refine Met.ofW (cc := cX1_takeDraft) (maxL := 5) (ret := none) (by decide) rfl ?_
  intro p e s m args below meth c s₁ B hml hv
  obtain ⟨rfl, hsz, hP, hK, hD0⟩ := hv
  have hx := B.exec
  have hb := B.bytes
  have hr := B.returns
  have hts := atoms_spec (ws := Cond.code yX1_takeDraft cX1_takeDraft 5 none :: lw_good) B.pre
  have hown : s.vm.findClass RX1 = some m.cls := findClass_of_methodNamed B.named
  have hlocks := B.notSynchronized
  have hiX1 : ∀ w ∈ wsX10, w ∈ (Cond.code yX1_takeDraft cX1_takeDraft 5 none :: lw_good) := fun w h => List.mem_cons_of_mem _ (zi_X1 w h)
  have hw0 := hts (.fieldLink RX1 9 "BunchRace$OrderBook" "clauses" "[I") (List.mem_cons_of_mem _ zw_157)
  have hw1 := hts (.fieldLink RX1 15 "BunchRace$OrderBook" "asked" "[I") (List.mem_cons_of_mem _ zw_158)
  have hw2 := hts (.fieldLink RX1 18 "BunchRace$OrderBook" "signs" "[I") (List.mem_cons_of_mem _ zw_159)
  have hw3 := hts (.fieldLink RX1 21 "BunchRace$OrderBook" "numbers" "[I") (List.mem_cons_of_mem _ zw_160)
  have hw4 := hts (.fieldLink RX1 24 "BunchRace$OrderBook" "paces" "[I") (List.mem_cons_of_mem _ zw_161)
  subst hsz
  have hD := hD0.self (sz := s.heap.size)
  generalize hAe : va_A [(h0, .inr (1, [.ref x_clauses, .ref x_asked, .ref x_signs, .ref x_numbers, .ref x_paces])), (x_clauses, .inl (cI, 10, .inl fclauses)), (x_asked, .inl (cI, 160, .inl fasked)), (x_signs, .inl (cI, 160, .inl fsigns)), (x_numbers, .inl (cI, 160, .inl fnumbers)), (x_paces, .inl (cI, 160, .inl fpaces))] s.heap.size = A at hD ⊢
  have hA : ∀ q : Nat, s.heap.size ≤ q → A q := fun q h => by rw [← hAe]; exact Or.inr h
  have hS : va_S A s.heap s.heap [] := va_S.rf
  have hP : va_P (dC, dI) vwCl [(h0, .inr (1, [.ref x_clauses, .ref x_asked, .ref x_signs, .ref x_numbers, .ref x_paces])), (x_clauses, .inl (cI, 10, .inl fclauses)), (x_asked, .inl (cI, 160, .inl fasked)), (x_signs, .inl (cI, 160, .inl fsigns)), (x_numbers, .inl (cI, 160, .inl fnumbers)), (x_paces, .inl (cI, 160, .inl fpaces))] s.heap := hP
  have hl := lv_entry ([.ref h0, .int pR]) (n := 5) (Nat.le_of_ble_eq_true rfl)
  rw [lg_entry_eq]
  generalize (lg_sl ([.ref h0, .int pR]) ++ List.replicate (5 - (lg_sl ([.ref h0, .int pR])).length) Slot.unset).toArray = ls at hl ⊢
  have hl : lv_has ls 5 [(0, .ref h0), (1, .int pR)] := hl
  refine lv_sipush (v := 144) hx hb dX1_takeDraft_0 (by decide) ?_
  refine lv_istore_n (lv' := [(2, .int 144), (0, .ref h0), (1, .int pR)]) hx hb dX1_takeDraft_3 rfl hl (by decide) rfl (fun ls hl => ?_)
  refine lv_iload_n hx hb dX1_takeDraft_4 rfl (lv_at hl 2 rfl) ?_
  refine lv_bipush (v := 16) hx hb dX1_takeDraft_5 (by decide) ?_
  refine lv_imul hx hb dX1_takeDraft_7 ?_
  refine lv_topi (fun v_1 ev_1 => ?_)
  have hv_1 : v_1.toInt = (pR_i * (16:Int)) := by rw [ev_1]; exact zz_mulI pR_h (by decide) (by omega) (by omega)
  refine lv_istore_n (lv' := [(3, .int v_1), (2, .int 144), (0, .ref h0), (1, .int pR)]) hx hb dX1_takeDraft_8 rfl hl (by decide) rfl (fun ls hl => ?_)
  refine lv_iconst (v := 0) hx hb dX1_takeDraft_9 (by decide) ?_
  refine lv_istore (lv' := [(4, .int 0), (3, .int v_1), (2, .int 144), (0, .ref h0), (1, .int pR)]) hx hb dX1_takeDraft_10 hl (by decide) rfl (fun ls hl => ?_)
  have L_2 : ∀ (n : Nat) (i : Int32) (kasked : Nat → Int32) (ksigns : Nat → Int32) (knumbers : Nat → Int32) (kpaces : Nat → Int32) (H : Heap) (locs : List Loc) (ls : Array Slot), (0 ≤ i.toInt) → (i.toInt ≤ 16) → (16 - i.toInt) < (n : Int) → va_P (dC, dI) vwCl [(h0, .inr (1, [.ref x_clauses, .ref x_asked, .ref x_signs, .ref x_numbers, .ref x_paces])), (x_clauses, .inl (cI, 10, .inl fclauses)), (x_asked, .inl (cI, 160, .inl kasked)), (x_signs, .inl (cI, 160, .inl ksigns)), (x_numbers, .inl (cI, 160, .inl knumbers)), (x_paces, .inl (cI, 160, .inl kpaces))] H → va_D A [(h0, .inr (1, [.ref x_clauses, .ref x_asked, .ref x_signs, .ref x_numbers, .ref x_paces])), (x_clauses, .inl (cI, 10, .inl fclauses)), (x_asked, .inl (cI, 160, .inl kasked)), (x_signs, .inl (cI, 160, .inl ksigns)), (x_numbers, .inl (cI, 160, .inl knumbers)), (x_paces, .inl (cI, 160, .inl kpaces))] → va_S A s.heap H locs → lv_has ls 5 [(4, .int i), (3, .int v_1), (2, .int 144), (0, .ref h0), (1, .int pR)] → W p l e ((headSpec (Cond.code yX1_takeDraft cX1_takeDraft 5 none :: lw_good) ({ frames := 0, cells := 0, slots := 0, locals := 0 })).room) s m (([.ref h0, .int pR] : List Value).toArray) below meth c H locs 0 0 (MQ below (va_Qv (fun _ : Unit => True) (fun _ t => ∃ (gclauses : Nat → Int32) (gasked : Nat → Int32) (gsigns : Nat → Int32) (gnumbers : Nat → Int32) (gpaces : Nat → Int32), va_P (dC, dI) vwCl [(h0, .inr (1, [.ref x_clauses, .ref x_asked, .ref x_signs, .ref x_numbers, .ref x_paces])), (x_clauses, .inl (cI, 10, .inl gclauses)), (x_asked, .inl (cI, 160, .inl gasked)), (x_signs, .inl (cI, 160, .inl gsigns)), (x_numbers, .inl (cI, 160, .inl gnumbers)), (x_paces, .inl (cI, 160, .inl gpaces))] t.heap ∧ va_K (dC, dI) vwCl [(cI, .int), (cZ, .boolean)] t ∧ va_D A [(h0, .inr (1, [.ref x_clauses, .ref x_asked, .ref x_signs, .ref x_numbers, .ref x_paces])), (x_clauses, .inl (cI, 10, .inl gclauses)), (x_asked, .inl (cI, 160, .inl gasked)), (x_signs, .inl (cI, 160, .inl gsigns)), (x_numbers, .inl (cI, 160, .inl gnumbers)), (x_paces, .inl (cI, 160, .inl gpaces))]) A) (([.ref h0, .int pR] : List Value).toArray) s 0 0 A) (F0 m 12 ls []) := by
    intro n
    induction n with
    | zero =>
      intro i kasked ksigns knumbers kpaces H locs ls hI0 hI1 hM
      exact absurd hM (by omega)
    | succ n ih =>
      intro i kasked ksigns knumbers kpaces H locs ls hI0 hI1 hM hP hD hS hl
      have ih_3 := ih
      refine lv_iload hx hb dX1_takeDraft_12 (lv_at hl 0 rfl) ?_
      refine lv_bipush (v := 16) hx hb dX1_takeDraft_14 (by decide) ?_
      refine lv_icmp_ge (tgt := 97) hx hb dX1_takeDraft_16 (by decide) (fun c_4 => ?_) (fun c_4 => ?_)
      ·
        have c_4 : (16:Int) ≤ (i).toInt := zz_le (by decide) rfl c_4
        refine lv_aload_n hx hb dX1_takeDraft_97 rfl (lv_at hl 3 rfl) ?_
        refine va_get (D := (dC, dI)) (ci := 1) (v := .ref x_clauses) (C := RX1) (T := TX1) (N := 5) hx hb hts hiX1 hown hK hP 0 rfl rfl 0 (by decide) hw0 (fun _ h9 => h9) rfl dX1_takeDraft_98 ?_
        refine lv_iload_n hx hb dX1_takeDraft_101 rfl (lv_at hl 4 rfl) ?_
        refine lv_aload_n hx hb dX1_takeDraft_102 rfl (lv_at hl 3 rfl) ?_
        refine va_get (D := (dC, dI)) (ci := 1) (v := .ref x_clauses) (C := RX1) (T := TX1) (N := 5) hx hb hts hiX1 hown hK hP 0 rfl rfl 0 (by decide) hw0 (fun _ h9 => h9) rfl dX1_takeDraft_103 ?_
        refine lv_bipush (v := 9) hx hb dX1_takeDraft_106 (by decide) ?_
        refine va_iald hx hb hK hP 1 0 rfl rfl (zz_inl rfl) dX1_takeDraft_108 ?_
        refine va_iast hx hb hK hP hD hS 1 0 rfl rfl (zz_in pR_h (by omega) (by omega)) dX1_takeDraft_109 (fun H locs hP hD hS => ?_)
        have hP : va_P (dC, dI) vwCl [(h0, .inr (1, [.ref x_clauses, .ref x_asked, .ref x_signs, .ref x_numbers, .ref x_paces])), (x_clauses, .inl (cI, 10, .inl (upd fclauses (Int32.toNatClampNeg pR) (fclauses (Int32.toNatClampNeg 9))))), (x_asked, .inl (cI, 160, .inl kasked)), (x_signs, .inl (cI, 160, .inl ksigns)), (x_numbers, .inl (cI, 160, .inl knumbers)), (x_paces, .inl (cI, 160, .inl kpaces))] H := hP
        have hD : va_D A [(h0, .inr (1, [.ref x_clauses, .ref x_asked, .ref x_signs, .ref x_numbers, .ref x_paces])), (x_clauses, .inl (cI, 10, .inl (upd fclauses (Int32.toNatClampNeg pR) (fclauses (Int32.toNatClampNeg 9))))), (x_asked, .inl (cI, 160, .inl kasked)), (x_signs, .inl (cI, 160, .inl ksigns)), (x_numbers, .inl (cI, 160, .inl knumbers)), (x_paces, .inl (cI, 160, .inl kpaces))] := hD
        have hP9 := hP.sub (ws' := [(h0, .inr (1, [.ref x_clauses, .ref x_asked, .ref x_signs, .ref x_numbers, .ref x_paces])), (x_clauses, .inl (cI, 10, .inl (upd fclauses (Int32.toNatClampNeg pR) (fclauses (Int32.toNatClampNeg 9))))), (x_asked, .inl (cI, 160, .inl kasked)), (x_signs, .inl (cI, 160, .inl ksigns)), (x_numbers, .inl (cI, 160, .inl knumbers)), (x_paces, .inl (cI, 160, .inl kpaces))]) [0, 1, 2, 3, 4, 5] rfl
        have hD9 := hD.sub (ws' := [(h0, .inr (1, [.ref x_clauses, .ref x_asked, .ref x_signs, .ref x_numbers, .ref x_paces])), (x_clauses, .inl (cI, 10, .inl (upd fclauses (Int32.toNatClampNeg pR) (fclauses (Int32.toNatClampNeg 9))))), (x_asked, .inl (cI, 160, .inl kasked)), (x_signs, .inl (cI, 160, .inl ksigns)), (x_numbers, .inl (cI, 160, .inl knumbers)), (x_paces, .inl (cI, 160, .inl kpaces))]) [0, 1, 2, 3, 4, 5] (by decide) rfl
        refine W.widen (k := 0) (n := 0) (Nat.le_of_ble_eq_true rfl) (Nat.le_of_ble_eq_true rfl) ?_
        exact W.vret hx hb hr (fun t ht hW => ⟨⟨(), rfl, trivial, (upd fclauses (Int32.toNatClampNeg pR) (fclauses (Int32.toNatClampNeg 9))), kasked, ksigns, knumbers, kpaces, by rw [ht]; exact hP9, va_K.moved hW.alike hK, hD9⟩, hS.F ht⟩) hS.2.2 dX1_takeDraft_110
      ·
        have c_4 : ¬ ((16:Int) ≤ (i).toInt) := zz_len (by decide) rfl c_4
        refine lv_aload_n hx hb dX1_takeDraft_19 rfl (lv_at hl 3 rfl) ?_
        refine va_get (D := (dC, dI)) (ci := 1) (v := .ref x_asked) (C := RX1) (T := TX1) (N := 5) hx hb hts hiX1 hown hK hP 0 rfl rfl 1 (by decide) hw1 (fun _ h9 => h9) rfl dX1_takeDraft_20 ?_
        refine lv_iload_n hx hb dX1_takeDraft_23 rfl (lv_at hl 1 rfl) ?_
        refine lv_iload hx hb dX1_takeDraft_24 (lv_at hl 0 rfl) ?_
        refine lv_iadd hx hb dX1_takeDraft_26 ?_
        refine lv_topi (fun v_5 ev_5 => ?_)
        have hv_5 : v_5.toInt = ((pR_i * (16:Int)) + (i).toInt) := by rw [ev_5]; exact zz_addI hv_1 rfl (by omega) (by omega)
        refine lv_aload_n hx hb dX1_takeDraft_27 rfl (lv_at hl 3 rfl) ?_
        refine va_get (D := (dC, dI)) (ci := 1) (v := .ref x_asked) (C := RX1) (T := TX1) (N := 5) hx hb hts hiX1 hown hK hP 0 rfl rfl 1 (by decide) hw1 (fun _ h9 => h9) rfl dX1_takeDraft_28 ?_
        refine lv_iload_n hx hb dX1_takeDraft_31 rfl (lv_at hl 2 rfl) ?_
        refine lv_iload hx hb dX1_takeDraft_32 (lv_at hl 0 rfl) ?_
        refine lv_iadd hx hb dX1_takeDraft_34 ?_
        refine lv_topi (fun v_6 ev_6 => ?_)
        have hv_6 : v_6.toInt = ((144:Int) + (i).toInt) := by rw [ev_6]; exact zz_addI (by decide) rfl (by omega) (by omega)
        refine va_iald hx hb hK hP 2 0 rfl rfl (zz_in hv_6 (by omega) (by omega)) dX1_takeDraft_35 ?_
        refine va_iast hx hb hK hP hD hS 2 0 rfl rfl (zz_in hv_5 (by omega) (by omega)) dX1_takeDraft_36 (fun H locs hP hD hS => ?_)
        have hP : va_P (dC, dI) vwCl [(h0, .inr (1, [.ref x_clauses, .ref x_asked, .ref x_signs, .ref x_numbers, .ref x_paces])), (x_clauses, .inl (cI, 10, .inl fclauses)), (x_asked, .inl (cI, 160, .inl (upd kasked (Int32.toNatClampNeg v_5) (kasked (Int32.toNatClampNeg v_6))))), (x_signs, .inl (cI, 160, .inl ksigns)), (x_numbers, .inl (cI, 160, .inl knumbers)), (x_paces, .inl (cI, 160, .inl kpaces))] H := hP
        have hD : va_D A [(h0, .inr (1, [.ref x_clauses, .ref x_asked, .ref x_signs, .ref x_numbers, .ref x_paces])), (x_clauses, .inl (cI, 10, .inl fclauses)), (x_asked, .inl (cI, 160, .inl (upd kasked (Int32.toNatClampNeg v_5) (kasked (Int32.toNatClampNeg v_6))))), (x_signs, .inl (cI, 160, .inl ksigns)), (x_numbers, .inl (cI, 160, .inl knumbers)), (x_paces, .inl (cI, 160, .inl kpaces))] := hD
        refine lv_aload_n hx hb dX1_takeDraft_37 rfl (lv_at hl 3 rfl) ?_
        refine va_get (D := (dC, dI)) (ci := 1) (v := .ref x_signs) (C := RX1) (T := TX1) (N := 5) hx hb hts hiX1 hown hK hP 0 rfl rfl 2 (by decide) hw2 (fun _ h9 => h9) rfl dX1_takeDraft_38 ?_
        refine lv_iload_n hx hb dX1_takeDraft_41 rfl (lv_at hl 1 rfl) ?_
        refine lv_iload hx hb dX1_takeDraft_42 (lv_at hl 0 rfl) ?_
        refine lv_iadd hx hb dX1_takeDraft_44 ?_
        refine lv_topi (fun v_7 ev_7 => ?_)
        have hv_7 : v_7.toInt = ((pR_i * (16:Int)) + (i).toInt) := by rw [ev_7]; exact zz_addI hv_1 rfl (by omega) (by omega)
        refine lv_aload_n hx hb dX1_takeDraft_45 rfl (lv_at hl 3 rfl) ?_
        refine va_get (D := (dC, dI)) (ci := 1) (v := .ref x_signs) (C := RX1) (T := TX1) (N := 5) hx hb hts hiX1 hown hK hP 0 rfl rfl 2 (by decide) hw2 (fun _ h9 => h9) rfl dX1_takeDraft_46 ?_
        refine lv_iload_n hx hb dX1_takeDraft_49 rfl (lv_at hl 2 rfl) ?_
        refine lv_iload hx hb dX1_takeDraft_50 (lv_at hl 0 rfl) ?_
        refine lv_iadd hx hb dX1_takeDraft_52 ?_
        refine lv_topi (fun v_8 ev_8 => ?_)
        have hv_8 : v_8.toInt = ((144:Int) + (i).toInt) := by rw [ev_8]; exact zz_addI (by decide) rfl (by omega) (by omega)
        refine va_iald hx hb hK hP 3 0 rfl rfl (zz_in hv_8 (by omega) (by omega)) dX1_takeDraft_53 ?_
        refine va_iast hx hb hK hP hD hS 3 0 rfl rfl (zz_in hv_7 (by omega) (by omega)) dX1_takeDraft_54 (fun H locs hP hD hS => ?_)
        have hP : va_P (dC, dI) vwCl [(h0, .inr (1, [.ref x_clauses, .ref x_asked, .ref x_signs, .ref x_numbers, .ref x_paces])), (x_clauses, .inl (cI, 10, .inl fclauses)), (x_asked, .inl (cI, 160, .inl (upd kasked (Int32.toNatClampNeg v_5) (kasked (Int32.toNatClampNeg v_6))))), (x_signs, .inl (cI, 160, .inl (upd ksigns (Int32.toNatClampNeg v_7) (ksigns (Int32.toNatClampNeg v_8))))), (x_numbers, .inl (cI, 160, .inl knumbers)), (x_paces, .inl (cI, 160, .inl kpaces))] H := hP
        have hD : va_D A [(h0, .inr (1, [.ref x_clauses, .ref x_asked, .ref x_signs, .ref x_numbers, .ref x_paces])), (x_clauses, .inl (cI, 10, .inl fclauses)), (x_asked, .inl (cI, 160, .inl (upd kasked (Int32.toNatClampNeg v_5) (kasked (Int32.toNatClampNeg v_6))))), (x_signs, .inl (cI, 160, .inl (upd ksigns (Int32.toNatClampNeg v_7) (ksigns (Int32.toNatClampNeg v_8))))), (x_numbers, .inl (cI, 160, .inl knumbers)), (x_paces, .inl (cI, 160, .inl kpaces))] := hD
        refine lv_aload_n hx hb dX1_takeDraft_55 rfl (lv_at hl 3 rfl) ?_
        refine va_get (D := (dC, dI)) (ci := 1) (v := .ref x_numbers) (C := RX1) (T := TX1) (N := 5) hx hb hts hiX1 hown hK hP 0 rfl rfl 3 (by decide) hw3 (fun _ h9 => h9) rfl dX1_takeDraft_56 ?_
        refine lv_iload_n hx hb dX1_takeDraft_59 rfl (lv_at hl 1 rfl) ?_
        refine lv_iload hx hb dX1_takeDraft_60 (lv_at hl 0 rfl) ?_
        refine lv_iadd hx hb dX1_takeDraft_62 ?_
        refine lv_topi (fun v_9 ev_9 => ?_)
        have hv_9 : v_9.toInt = ((pR_i * (16:Int)) + (i).toInt) := by rw [ev_9]; exact zz_addI hv_1 rfl (by omega) (by omega)
        refine lv_aload_n hx hb dX1_takeDraft_63 rfl (lv_at hl 3 rfl) ?_
        refine va_get (D := (dC, dI)) (ci := 1) (v := .ref x_numbers) (C := RX1) (T := TX1) (N := 5) hx hb hts hiX1 hown hK hP 0 rfl rfl 3 (by decide) hw3 (fun _ h9 => h9) rfl dX1_takeDraft_64 ?_
        refine lv_iload_n hx hb dX1_takeDraft_67 rfl (lv_at hl 2 rfl) ?_
        refine lv_iload hx hb dX1_takeDraft_68 (lv_at hl 0 rfl) ?_
        refine lv_iadd hx hb dX1_takeDraft_70 ?_
        refine lv_topi (fun v_10 ev_10 => ?_)
        have hv_10 : v_10.toInt = ((144:Int) + (i).toInt) := by rw [ev_10]; exact zz_addI (by decide) rfl (by omega) (by omega)
        refine va_iald hx hb hK hP 4 0 rfl rfl (zz_in hv_10 (by omega) (by omega)) dX1_takeDraft_71 ?_
        refine va_iast hx hb hK hP hD hS 4 0 rfl rfl (zz_in hv_9 (by omega) (by omega)) dX1_takeDraft_72 (fun H locs hP hD hS => ?_)
        have hP : va_P (dC, dI) vwCl [(h0, .inr (1, [.ref x_clauses, .ref x_asked, .ref x_signs, .ref x_numbers, .ref x_paces])), (x_clauses, .inl (cI, 10, .inl fclauses)), (x_asked, .inl (cI, 160, .inl (upd kasked (Int32.toNatClampNeg v_5) (kasked (Int32.toNatClampNeg v_6))))), (x_signs, .inl (cI, 160, .inl (upd ksigns (Int32.toNatClampNeg v_7) (ksigns (Int32.toNatClampNeg v_8))))), (x_numbers, .inl (cI, 160, .inl (upd knumbers (Int32.toNatClampNeg v_9) (knumbers (Int32.toNatClampNeg v_10))))), (x_paces, .inl (cI, 160, .inl kpaces))] H := hP
        have hD : va_D A [(h0, .inr (1, [.ref x_clauses, .ref x_asked, .ref x_signs, .ref x_numbers, .ref x_paces])), (x_clauses, .inl (cI, 10, .inl fclauses)), (x_asked, .inl (cI, 160, .inl (upd kasked (Int32.toNatClampNeg v_5) (kasked (Int32.toNatClampNeg v_6))))), (x_signs, .inl (cI, 160, .inl (upd ksigns (Int32.toNatClampNeg v_7) (ksigns (Int32.toNatClampNeg v_8))))), (x_numbers, .inl (cI, 160, .inl (upd knumbers (Int32.toNatClampNeg v_9) (knumbers (Int32.toNatClampNeg v_10))))), (x_paces, .inl (cI, 160, .inl kpaces))] := hD
        refine lv_aload_n hx hb dX1_takeDraft_73 rfl (lv_at hl 3 rfl) ?_
        refine va_get (D := (dC, dI)) (ci := 1) (v := .ref x_paces) (C := RX1) (T := TX1) (N := 5) hx hb hts hiX1 hown hK hP 0 rfl rfl 4 (by decide) hw4 (fun _ h9 => h9) rfl dX1_takeDraft_74 ?_
        refine lv_iload_n hx hb dX1_takeDraft_77 rfl (lv_at hl 1 rfl) ?_
        refine lv_iload hx hb dX1_takeDraft_78 (lv_at hl 0 rfl) ?_
        refine lv_iadd hx hb dX1_takeDraft_80 ?_
        refine lv_topi (fun v_11 ev_11 => ?_)
        have hv_11 : v_11.toInt = ((pR_i * (16:Int)) + (i).toInt) := by rw [ev_11]; exact zz_addI hv_1 rfl (by omega) (by omega)
        refine lv_aload_n hx hb dX1_takeDraft_81 rfl (lv_at hl 3 rfl) ?_
        refine va_get (D := (dC, dI)) (ci := 1) (v := .ref x_paces) (C := RX1) (T := TX1) (N := 5) hx hb hts hiX1 hown hK hP 0 rfl rfl 4 (by decide) hw4 (fun _ h9 => h9) rfl dX1_takeDraft_82 ?_
        refine lv_iload_n hx hb dX1_takeDraft_85 rfl (lv_at hl 2 rfl) ?_
        refine lv_iload hx hb dX1_takeDraft_86 (lv_at hl 0 rfl) ?_
        refine lv_iadd hx hb dX1_takeDraft_88 ?_
        refine lv_topi (fun v_12 ev_12 => ?_)
        have hv_12 : v_12.toInt = ((144:Int) + (i).toInt) := by rw [ev_12]; exact zz_addI (by decide) rfl (by omega) (by omega)
        refine va_iald hx hb hK hP 5 0 rfl rfl (zz_in hv_12 (by omega) (by omega)) dX1_takeDraft_89 ?_
        refine va_iast hx hb hK hP hD hS 5 0 rfl rfl (zz_in hv_11 (by omega) (by omega)) dX1_takeDraft_90 (fun H locs hP hD hS => ?_)
        have hP : va_P (dC, dI) vwCl [(h0, .inr (1, [.ref x_clauses, .ref x_asked, .ref x_signs, .ref x_numbers, .ref x_paces])), (x_clauses, .inl (cI, 10, .inl fclauses)), (x_asked, .inl (cI, 160, .inl (upd kasked (Int32.toNatClampNeg v_5) (kasked (Int32.toNatClampNeg v_6))))), (x_signs, .inl (cI, 160, .inl (upd ksigns (Int32.toNatClampNeg v_7) (ksigns (Int32.toNatClampNeg v_8))))), (x_numbers, .inl (cI, 160, .inl (upd knumbers (Int32.toNatClampNeg v_9) (knumbers (Int32.toNatClampNeg v_10))))), (x_paces, .inl (cI, 160, .inl (upd kpaces (Int32.toNatClampNeg v_11) (kpaces (Int32.toNatClampNeg v_12)))))] H := hP
        have hD : va_D A [(h0, .inr (1, [.ref x_clauses, .ref x_asked, .ref x_signs, .ref x_numbers, .ref x_paces])), (x_clauses, .inl (cI, 10, .inl fclauses)), (x_asked, .inl (cI, 160, .inl (upd kasked (Int32.toNatClampNeg v_5) (kasked (Int32.toNatClampNeg v_6))))), (x_signs, .inl (cI, 160, .inl (upd ksigns (Int32.toNatClampNeg v_7) (ksigns (Int32.toNatClampNeg v_8))))), (x_numbers, .inl (cI, 160, .inl (upd knumbers (Int32.toNatClampNeg v_9) (knumbers (Int32.toNatClampNeg v_10))))), (x_paces, .inl (cI, 160, .inl (upd kpaces (Int32.toNatClampNeg v_11) (kpaces (Int32.toNatClampNeg v_12)))))] := hD
        obtain ⟨v_13, ev_13⟩ : ∃ y : Int32, y = i + 1 := ⟨_, rfl⟩
        have hv_13 : v_13.toInt = ((i).toInt + (1:Int)) := by rw [ev_13]; exact zz_addI rfl (by decide) (by omega) (by omega)
        refine lv_iinc (v := v_13) (lv' := [(4, .int v_13), (3, .int v_1), (2, .int 144), (0, .ref h0), (1, .int pR)]) hx hb dX1_takeDraft_91 hl (k := 0) rfl (by rw [ev_13]; rfl) (by decide) rfl (fun ls hl => ?_)
        refine lv_goto (tgt := 12) hx hb dX1_takeDraft_94 (by decide) ?_
        have hb9_i : (v_13 : Int32).toInt = ((i).toInt + (1:Int)) := hv_13
        exact ih_3 v_13 (upd kasked (Int32.toNatClampNeg v_5) (kasked (Int32.toNatClampNeg v_6))) (upd ksigns (Int32.toNatClampNeg v_7) (ksigns (Int32.toNatClampNeg v_8))) (upd knumbers (Int32.toNatClampNeg v_9) (knumbers (Int32.toNatClampNeg v_10))) (upd kpaces (Int32.toNatClampNeg v_11) (kpaces (Int32.toNatClampNeg v_12))) H locs ls (by omega) (by omega) (by omega) (hP.sub [0, 1, 2, 3, 4, 5] rfl) (hD.sub [0, 1, 2, 3, 4, 5] (by decide) rfl) hS (lv_sub hl [0, 1, 2, 3, 4] rfl)
  have hb9_i : (0 : Int32).toInt = (0:Int) := (by decide)
  exact L_2 1000 0 fasked fsigns fnumbers fpaces s.heap [] ls (by omega) (by omega) (by omega) hP hD hS hl

set_option maxHeartbeats 4000000 in
set_option maxRecDepth 100000 in
theorem c_X9_fault (l : Launch) (dC : Nat → ClassId) (dI : Nat → Nat → Nat) (cI cZ : ClassId) (sz : Nat) (h0 : Nat) (x_riders : Nat) (x_road : Nat) (x_tape : Nat) (x_book : Nat) (x_reader : Nat) (x_latest : Nat) (x_log : Nat) (x_trial : Nat) (x_stages : Nat) (x_ta_bytes : Nat) (x_bo_clauses : Nat) (x_bo_asked : Nat) (x_bo_signs : Nat) (x_bo_numbers : Nat) (x_bo_paces : Nat) : Met l yX9_fault (Cond.code yX9_fault cX9_fault 1 (some .int) :: lw_good) ({ frames := 2, cells := 0, slots := 0, locals := 43 }) (va_Pc [.ref h0] (fun U => U.heap.size = sz ∧ va_P (dC, dI) vwCl [(h0, .inr (9, [.ref x_riders, .ref x_road, .ref x_tape, .ref x_book, .ref x_reader, .ref x_latest, .ref x_log, .ref x_trial, .ref x_stages, .int 0, .int 0, .int 0])), (x_tape, .inr (8, [.int 0, .ref x_ta_bytes])), (x_ta_bytes, .inl (cI, 100, .inl (fun _ => 0))), (x_book, .inr (1, [.ref x_bo_clauses, .ref x_bo_asked, .ref x_bo_signs, .ref x_bo_numbers, .ref x_bo_paces])), (x_bo_clauses, .inl (cI, 10, .inl (fun _ => 0))), (x_bo_asked, .inl (cI, 160, .inl (fun _ => 0))), (x_bo_signs, .inl (cI, 160, .inl (fun _ => 0))), (x_bo_numbers, .inl (cI, 160, .inl (fun _ => 0))), (x_bo_paces, .inl (cI, 160, .inl (fun _ => 0))), (x_reader, .inr (2, [.int 0, .int 0, .int 0, .int 0, .int 0]))] U.heap ∧ va_K (dC, dI) vwCl [(cI, .int), (cZ, .boolean)] U ∧ va_D (fun _ => True) [(h0, .inr (9, [.ref x_riders, .ref x_road, .ref x_tape, .ref x_book, .ref x_reader, .ref x_latest, .ref x_log, .ref x_trial, .ref x_stages, .int 0, .int 0, .int 0])), (x_tape, .inr (8, [.int 0, .ref x_ta_bytes])), (x_ta_bytes, .inl (cI, 100, .inl (fun _ => 0))), (x_book, .inr (1, [.ref x_bo_clauses, .ref x_bo_asked, .ref x_bo_signs, .ref x_bo_numbers, .ref x_bo_paces])), (x_bo_clauses, .inl (cI, 10, .inl (fun _ => 0))), (x_bo_asked, .inl (cI, 160, .inl (fun _ => 0))), (x_bo_signs, .inl (cI, 160, .inl (fun _ => 0))), (x_bo_numbers, .inl (cI, 160, .inl (fun _ => 0))), (x_bo_paces, .inl (cI, 160, .inl (fun _ => 0))), (x_reader, .inr (2, [.int 0, .int 0, .int 0, .int 0, .int 0]))])) (va_Qi (fun (r u : Int32) => r = u) (fun u t => (u.toInt = -1) ∧ va_P (dC, dI) vwCl [] t.heap ∧ va_K (dC, dI) vwCl [(cI, .int), (cZ, .boolean)] t ∧ va_D (va_A [(h0, .inr (9, [.ref x_riders, .ref x_road, .ref x_tape, .ref x_book, .ref x_reader, .ref x_latest, .ref x_log, .ref x_trial, .ref x_stages, .int 0, .int 0, .int 0])), (x_tape, .inr (8, [.int 0, .ref x_ta_bytes])), (x_ta_bytes, .inl (cI, 100, .inl (fun _ => 0))), (x_book, .inr (1, [.ref x_bo_clauses, .ref x_bo_asked, .ref x_bo_signs, .ref x_bo_numbers, .ref x_bo_paces])), (x_bo_clauses, .inl (cI, 10, .inl (fun _ => 0))), (x_bo_asked, .inl (cI, 160, .inl (fun _ => 0))), (x_bo_signs, .inl (cI, 160, .inl (fun _ => 0))), (x_bo_numbers, .inl (cI, 160, .inl (fun _ => 0))), (x_bo_paces, .inl (cI, 160, .inl (fun _ => 0))), (x_reader, .inr (2, [.int 0, .int 0, .int 0, .int 0, .int 0]))] sz) []) (va_A [(h0, .inr (9, [.ref x_riders, .ref x_road, .ref x_tape, .ref x_book, .ref x_reader, .ref x_latest, .ref x_log, .ref x_trial, .ref x_stages, .int 0, .int 0, .int 0])), (x_tape, .inr (8, [.int 0, .ref x_ta_bytes])), (x_ta_bytes, .inl (cI, 100, .inl (fun _ => 0))), (x_book, .inr (1, [.ref x_bo_clauses, .ref x_bo_asked, .ref x_bo_signs, .ref x_bo_numbers, .ref x_bo_paces])), (x_bo_clauses, .inl (cI, 10, .inl (fun _ => 0))), (x_bo_asked, .inl (cI, 160, .inl (fun _ => 0))), (x_bo_signs, .inl (cI, 160, .inl (fun _ => 0))), (x_bo_numbers, .inl (cI, 160, .inl (fun _ => 0))), (x_bo_paces, .inl (cI, 160, .inl (fun _ => 0))), (x_reader, .inr (2, [.int 0, .int 0, .int 0, .int 0, .int 0]))] sz)) 0 0 (va_A [(h0, .inr (9, [.ref x_riders, .ref x_road, .ref x_tape, .ref x_book, .ref x_reader, .ref x_latest, .ref x_log, .ref x_trial, .ref x_stages, .int 0, .int 0, .int 0])), (x_tape, .inr (8, [.int 0, .ref x_ta_bytes])), (x_ta_bytes, .inl (cI, 100, .inl (fun _ => 0))), (x_book, .inr (1, [.ref x_bo_clauses, .ref x_bo_asked, .ref x_bo_signs, .ref x_bo_numbers, .ref x_bo_paces])), (x_bo_clauses, .inl (cI, 10, .inl (fun _ => 0))), (x_bo_asked, .inl (cI, 160, .inl (fun _ => 0))), (x_bo_signs, .inl (cI, 160, .inl (fun _ => 0))), (x_bo_numbers, .inl (cI, 160, .inl (fun _ => 0))), (x_bo_paces, .inl (cI, 160, .inl (fun _ => 0))), (x_reader, .inr (2, [.int 0, .int 0, .int 0, .int 0, .int 0]))] sz) := by
  refine Met.ofW (cc := cX9_fault) (maxL := 1) (ret := (some .int)) (by decide) rfl ?_
  intro p e s m args below meth c s₁ B hml hv
  obtain ⟨rfl, hsz, hP, hK, hD0⟩ := hv
  have hx := B.exec
  have hb := B.bytes
  have hr := B.returns
  have hts := atoms_spec (ws := Cond.code yX9_fault cX9_fault 1 (some .int) :: lw_good) B.pre
  have hown : s.vm.findClass RX9 = some m.cls := findClass_of_methodNamed B.named
  have hlocks := B.notSynchronized
  have hiX9 : ∀ w ∈ wsX90, w ∈ (Cond.code yX9_fault cX9_fault 1 (some .int) :: lw_good) := fun w h => List.mem_cons_of_mem _ (zi_X9 w h)
  have hw0 := hts (.fieldLink RX9 40 "BunchRace" "reader" "LBunchRace$OrderReader;") (List.mem_cons_of_mem _ zw_338)
  have hw1 := hts (.fieldLink RX9 26 "BunchRace" "tape" "LBunchRace$Tape;") (List.mem_cons_of_mem _ zw_336)
  have hw2 := hts (.fieldLink RX9 33 "BunchRace" "book" "LBunchRace$OrderBook;") (List.mem_cons_of_mem _ zw_337)
  have hw3 := hts (.initialized RX2) (List.mem_cons_of_mem _ zw_53)
  have hw4 := hts (.methodLink RX9 112 yX2_faultOf) (List.mem_cons_of_mem _ zw_446)
  have hw5 := hts (.instanceMethod yX2_faultOf) (List.mem_cons_of_mem _ zw_447)
  have hw6 := hts (.selects RX2 yX2_faultOf yX2_faultOf) (List.mem_cons_of_mem _ zw_448)
  subst hsz
  have hD := hD0.self (sz := s.heap.size)
  generalize hAe : va_A [(h0, .inr (9, [.ref x_riders, .ref x_road, .ref x_tape, .ref x_book, .ref x_reader, .ref x_latest, .ref x_log, .ref x_trial, .ref x_stages, .int 0, .int 0, .int 0])), (x_tape, .inr (8, [.int 0, .ref x_ta_bytes])), (x_ta_bytes, .inl (cI, 100, .inl (fun _ => 0))), (x_book, .inr (1, [.ref x_bo_clauses, .ref x_bo_asked, .ref x_bo_signs, .ref x_bo_numbers, .ref x_bo_paces])), (x_bo_clauses, .inl (cI, 10, .inl (fun _ => 0))), (x_bo_asked, .inl (cI, 160, .inl (fun _ => 0))), (x_bo_signs, .inl (cI, 160, .inl (fun _ => 0))), (x_bo_numbers, .inl (cI, 160, .inl (fun _ => 0))), (x_bo_paces, .inl (cI, 160, .inl (fun _ => 0))), (x_reader, .inr (2, [.int 0, .int 0, .int 0, .int 0, .int 0]))] s.heap.size = A at hD ⊢
  have hA : ∀ q : Nat, s.heap.size ≤ q → A q := fun q h => by rw [← hAe]; exact Or.inr h
  have hS : va_S A s.heap s.heap [] := va_S.rf
  have hP : va_P (dC, dI) vwCl [(h0, .inr (9, [.ref x_riders, .ref x_road, .ref x_tape, .ref x_book, .ref x_reader, .ref x_latest, .ref x_log, .ref x_trial, .ref x_stages, .int 0, .int 0, .int 0])), (x_tape, .inr (8, [.int 0, .ref x_ta_bytes])), (x_ta_bytes, .inl (cI, 100, .inl (fun _ => 0))), (x_book, .inr (1, [.ref x_bo_clauses, .ref x_bo_asked, .ref x_bo_signs, .ref x_bo_numbers, .ref x_bo_paces])), (x_bo_clauses, .inl (cI, 10, .inl (fun _ => 0))), (x_bo_asked, .inl (cI, 160, .inl (fun _ => 0))), (x_bo_signs, .inl (cI, 160, .inl (fun _ => 0))), (x_bo_numbers, .inl (cI, 160, .inl (fun _ => 0))), (x_bo_paces, .inl (cI, 160, .inl (fun _ => 0))), (x_reader, .inr (2, [.int 0, .int 0, .int 0, .int 0, .int 0]))] s.heap := hP
  have hl := lv_entry ([.ref h0]) (n := 1) (Nat.le_of_ble_eq_true rfl)
  rw [lg_entry_eq]
  generalize (lg_sl ([.ref h0]) ++ List.replicate (1 - (lg_sl ([.ref h0])).length) Slot.unset).toArray = ls at hl ⊢
  have hl : lv_has ls 1 [(0, .ref h0)] := hl
  refine lv_aload_n hx hb dX9_fault_0 rfl (lv_at hl 0 rfl) ?_
  refine va_get (D := (dC, dI)) (ci := 9) (v := .ref x_reader) (C := RX9) (T := TX9) (N := 12) hx hb hts hiX9 hown hK hP 0 rfl rfl 4 (by decide) hw0 (fun _ h9 => h9) rfl dX9_fault_1 ?_
  refine lv_aload_n hx hb dX9_fault_4 rfl (lv_at hl 0 rfl) ?_
  refine va_get (D := (dC, dI)) (ci := 9) (v := .ref x_tape) (C := RX9) (T := TX9) (N := 12) hx hb hts hiX9 hown hK hP 0 rfl rfl 2 (by decide) hw1 (fun _ h9 => h9) rfl dX9_fault_5 ?_
  refine lv_aload_n hx hb dX9_fault_8 rfl (lv_at hl 0 rfl) ?_
  refine va_get (D := (dC, dI)) (ci := 9) (v := .ref x_book) (C := RX9) (T := TX9) (N := 12) hx hb hts hiX9 hown hK hP 0 rfl rfl 3 (by decide) hw2 (fun _ h9 => h9) rfl dX9_fault_9 ?_
  have hPc := hP.sub (ws' := [(x_reader, .inr (2, [.int 0, .int 0, .int 0, .int 0, .int 0])), (x_tape, .inr (8, [.int 0, .ref x_ta_bytes])), (x_book, .inr (1, [.ref x_bo_clauses, .ref x_bo_asked, .ref x_bo_signs, .ref x_bo_numbers, .ref x_bo_paces])), (x_bo_clauses, .inl (cI, 10, .inl (fun _ => 0)))]) [9, 1, 3, 4] rfl
  have hDc := hD.sub (ws' := [(x_reader, .inr (2, [.int 0, .int 0, .int 0, .int 0, .int 0])), (x_tape, .inr (8, [.int 0, .ref x_ta_bytes])), (x_book, .inr (1, [.ref x_bo_clauses, .ref x_bo_asked, .ref x_bo_signs, .ref x_bo_numbers, .ref x_bo_paces])), (x_bo_clauses, .inl (cI, 10, .inl (fun _ => 0)))]) [9, 1, 3, 4] (by decide) rfl
  have hFc := va_free (wc := [(x_reader, .inr (2, [.int 0, .int 0, .int 0, .int 0, .int 0])), (x_tape, .inr (8, [.int 0, .ref x_ta_bytes])), (x_book, .inr (1, [.ref x_bo_clauses, .ref x_bo_asked, .ref x_bo_signs, .ref x_bo_numbers, .ref x_bo_paces])), (x_bo_clauses, .inl (cI, 10, .inl (fun _ => 0)))]) hD hS hA [9, 1, 3, 4] rfl
  refine va_calli (va_runV (As := [.ref x_tape, .ref x_book]) (rest := []) ⟨hx, hb, hml, hown, hts⟩ (c_X2_faultOf l dC dI cI cZ (s.heap).size x_reader x_tape x_ta_bytes x_book x_bo_clauses x_bo_asked x_bo_signs x_bo_numbers x_bo_paces (fun _ => 0)) ⟨callB_of 2 hts (zz_good zw_449) rfl rfl rfl hw3 hw4 (by decide +kernel) ⟨Nat.le_of_ble_eq_true rfl, Nat.le_of_ble_eq_true rfl⟩, hw5, hw6⟩ ⟨fun a U g mk q => by obtain ⟨q0, q1, qP, qK, qD⟩ := q; exact ⟨q0, q1, qP, va_K.moved (u := U) (U := U.calling g mk a) (Vm.Alike.refl U.vm) qK, qD⟩, va_recv hK hPc (ci := 2) (q0 := 0) rfl rfl, fun U hU hW => ⟨rfl, by rw [hU], by rw [hU]; exact hPc, va_K.moved hW.alike hK, hDc.weaken (fun _ _ _ _ => trivial)⟩⟩ rfl rfl hl.1 rfl (lv_room (Nat.le_of_ble_eq_true rfl)) dX9_fault_12 ⟨Nat.le_of_ble_eq_true rfl, Nat.le_of_ble_eq_true rfl⟩) hS (fun q _ h => hFc q h) hFc (fun r_1 u t H1 locs ht hvm hpost hB hz1 hk1 hS => ?_)
  subst hpost
  obtain ⟨pf2_2, hf_3, hP1, hK1, hD1⟩ := hB
  rw [ht] at hP1
  obtain ⟨hP, hD⟩ := va_join (wr := [(h0, .inr (9, [.ref x_riders, .ref x_road, .ref x_tape, .ref x_book, .ref x_reader, .ref x_latest, .ref x_log, .ref x_trial, .ref x_stages, .int 0, .int 0, .int 0])), (x_ta_bytes, .inl (cI, 100, .inl (fun _ => 0))), (x_bo_asked, .inl (cI, 160, .inl (fun _ => 0))), (x_bo_signs, .inl (cI, 160, .inl (fun _ => 0))), (x_bo_numbers, .inl (cI, 160, .inl (fun _ => 0))), (x_bo_paces, .inl (cI, 160, .inl (fun _ => 0)))]) (w1 := [(x_reader, .inr (2, [.int 0, .int 0, .int 0, .int 0, .int 0])), (x_tape, .inr (8, [.int 0, .ref x_ta_bytes])), (x_book, .inr (1, [.ref x_bo_clauses, .ref x_bo_asked, .ref x_bo_signs, .ref x_bo_numbers, .ref x_bo_paces])), (x_bo_clauses, .inl (cI, 10, .inl pf2_2))]) hP hD [9, 1, 3, 4] [0, 2, 5, 6, 7, 8] rfl rfl (by decide) (by decide) hk1 hFc hP1 hD1
  generalize H1 = H at hP hS ⊢
  have hP : va_P (dC, dI) vwCl [(h0, .inr (9, [.ref x_riders, .ref x_road, .ref x_tape, .ref x_book, .ref x_reader, .ref x_latest, .ref x_log, .ref x_trial, .ref x_stages, .int 0, .int 0, .int 0])), (x_ta_bytes, .inl (cI, 100, .inl (fun _ => 0))), (x_bo_asked, .inl (cI, 160, .inl (fun _ => 0))), (x_bo_signs, .inl (cI, 160, .inl (fun _ => 0))), (x_bo_numbers, .inl (cI, 160, .inl (fun _ => 0))), (x_bo_paces, .inl (cI, 160, .inl (fun _ => 0))), (x_reader, .inr (2, [.int 0, .int 0, .int 0, .int 0, .int 0])), (x_tape, .inr (8, [.int 0, .ref x_ta_bytes])), (x_book, .inr (1, [.ref x_bo_clauses, .ref x_bo_asked, .ref x_bo_signs, .ref x_bo_numbers, .ref x_bo_paces])), (x_bo_clauses, .inl (cI, 10, .inl pf2_2))] H := hP
  have hD : va_D A [(h0, .inr (9, [.ref x_riders, .ref x_road, .ref x_tape, .ref x_book, .ref x_reader, .ref x_latest, .ref x_log, .ref x_trial, .ref x_stages, .int 0, .int 0, .int 0])), (x_ta_bytes, .inl (cI, 100, .inl (fun _ => 0))), (x_bo_asked, .inl (cI, 160, .inl (fun _ => 0))), (x_bo_signs, .inl (cI, 160, .inl (fun _ => 0))), (x_bo_numbers, .inl (cI, 160, .inl (fun _ => 0))), (x_bo_paces, .inl (cI, 160, .inl (fun _ => 0))), (x_reader, .inr (2, [.int 0, .int 0, .int 0, .int 0, .int 0])), (x_tape, .inr (8, [.int 0, .ref x_ta_bytes])), (x_book, .inr (1, [.ref x_bo_clauses, .ref x_bo_asked, .ref x_bo_signs, .ref x_bo_numbers, .ref x_bo_paces])), (x_bo_clauses, .inl (cI, 10, .inl pf2_2))] := hD
  have hf_3 : r_1.toInt = -1 := hf_3
  obtain rfl : r_1 = (-1) := Int32.toInt_inj.mp (hf_3.trans (by decide))
  have hP9 := hP.sub (ws' := []) [] rfl
  have hD9 := hD.sub (ws' := []) [] (by decide) rfl
  refine W.widen (k := 0) (n := 0) (Nat.le_of_ble_eq_true rfl) (Nat.le_of_ble_eq_true rfl) ?_
  have hu9 : ((-1) : Int32).toInt = (-1:Int) := (by decide)
  have hf9_0 : ((-1) : Int32).toInt = -1 := by omega
  exact W.iret (v := (-1)) hx hb hr (fun t ht hW => ⟨⟨(-1), (-1), rfl, rfl, hf9_0, by rw [ht]; exact hP9, va_K.moved hW.alike hK, hD9⟩, hS.F ht⟩) hS.2.2 dX9_fault_15

set_option maxHeartbeats 4000000 in
set_option maxRecDepth 100000 in
theorem c_X9_orders (l : Launch) (dC : Nat → ClassId) (dI : Nat → Nat → Nat) (cI cZ : ClassId) (sz : Nat) (h0 : Nat) (x_riders : Nat) (x_road : Nat) (x_tape : Nat) (x_book : Nat) (x_reader : Nat) (x_latest : Nat) (x_log : Nat) (x_trial : Nat) (x_stages : Nat) (x_ta_bytes : Nat) (x_bo_clauses : Nat) (x_bo_asked : Nat) (x_bo_signs : Nat) (x_bo_numbers : Nat) (x_bo_paces : Nat) (pT : Int32) (pT_i : Int) (pT_h : pT.toInt = pT_i) : Met l yX9_orders (Cond.code yX9_orders cX9_orders 2 (some .boolean) :: lw_good) ({ frames := 2, cells := 0, slots := 0, locals := 43 }) (va_Pc [.ref h0, .int pT] (fun U => U.heap.size = sz ∧ va_P (dC, dI) vwCl [(h0, .inr (9, [.ref x_riders, .ref x_road, .ref x_tape, .ref x_book, .ref x_reader, .ref x_latest, .ref x_log, .ref x_trial, .ref x_stages, .int 0, .int 0, .int 0])), (x_tape, .inr (8, [.int 0, .ref x_ta_bytes])), (x_ta_bytes, .inl (cI, 100, .inl (fun _ => 0))), (x_book, .inr (1, [.ref x_bo_clauses, .ref x_bo_asked, .ref x_bo_signs, .ref x_bo_numbers, .ref x_bo_paces])), (x_bo_clauses, .inl (cI, 10, .inl (fun _ => 0))), (x_bo_asked, .inl (cI, 160, .inl (fun _ => 0))), (x_bo_signs, .inl (cI, 160, .inl (fun _ => 0))), (x_bo_numbers, .inl (cI, 160, .inl (fun _ => 0))), (x_bo_paces, .inl (cI, 160, .inl (fun _ => 0))), (x_reader, .inr (2, [.int 0, .int 0, .int 0, .int 0, .int 0]))] U.heap ∧ va_K (dC, dI) vwCl [(cI, .int), (cZ, .boolean)] U ∧ va_D (fun _ => True) [(h0, .inr (9, [.ref x_riders, .ref x_road, .ref x_tape, .ref x_book, .ref x_reader, .ref x_latest, .ref x_log, .ref x_trial, .ref x_stages, .int 0, .int 0, .int 0])), (x_tape, .inr (8, [.int 0, .ref x_ta_bytes])), (x_ta_bytes, .inl (cI, 100, .inl (fun _ => 0))), (x_book, .inr (1, [.ref x_bo_clauses, .ref x_bo_asked, .ref x_bo_signs, .ref x_bo_numbers, .ref x_bo_paces])), (x_bo_clauses, .inl (cI, 10, .inl (fun _ => 0))), (x_bo_asked, .inl (cI, 160, .inl (fun _ => 0))), (x_bo_signs, .inl (cI, 160, .inl (fun _ => 0))), (x_bo_numbers, .inl (cI, 160, .inl (fun _ => 0))), (x_bo_paces, .inl (cI, 160, .inl (fun _ => 0))), (x_reader, .inr (2, [.int 0, .int 0, .int 0, .int 0, .int 0]))])) (va_Qi (fun (r u : Int32) => r = u) (fun u t => ((u = 1 ∧ (0 ≤ pT_i ∧ pT_i ≤ 4)) ∨ (u = 0 ∧ ¬ (0 ≤ pT_i ∧ pT_i ≤ 4))) ∧ va_P (dC, dI) vwCl [] t.heap ∧ va_K (dC, dI) vwCl [(cI, .int), (cZ, .boolean)] t ∧ va_D (va_A [(h0, .inr (9, [.ref x_riders, .ref x_road, .ref x_tape, .ref x_book, .ref x_reader, .ref x_latest, .ref x_log, .ref x_trial, .ref x_stages, .int 0, .int 0, .int 0])), (x_tape, .inr (8, [.int 0, .ref x_ta_bytes])), (x_ta_bytes, .inl (cI, 100, .inl (fun _ => 0))), (x_book, .inr (1, [.ref x_bo_clauses, .ref x_bo_asked, .ref x_bo_signs, .ref x_bo_numbers, .ref x_bo_paces])), (x_bo_clauses, .inl (cI, 10, .inl (fun _ => 0))), (x_bo_asked, .inl (cI, 160, .inl (fun _ => 0))), (x_bo_signs, .inl (cI, 160, .inl (fun _ => 0))), (x_bo_numbers, .inl (cI, 160, .inl (fun _ => 0))), (x_bo_paces, .inl (cI, 160, .inl (fun _ => 0))), (x_reader, .inr (2, [.int 0, .int 0, .int 0, .int 0, .int 0]))] sz) []) (va_A [(h0, .inr (9, [.ref x_riders, .ref x_road, .ref x_tape, .ref x_book, .ref x_reader, .ref x_latest, .ref x_log, .ref x_trial, .ref x_stages, .int 0, .int 0, .int 0])), (x_tape, .inr (8, [.int 0, .ref x_ta_bytes])), (x_ta_bytes, .inl (cI, 100, .inl (fun _ => 0))), (x_book, .inr (1, [.ref x_bo_clauses, .ref x_bo_asked, .ref x_bo_signs, .ref x_bo_numbers, .ref x_bo_paces])), (x_bo_clauses, .inl (cI, 10, .inl (fun _ => 0))), (x_bo_asked, .inl (cI, 160, .inl (fun _ => 0))), (x_bo_signs, .inl (cI, 160, .inl (fun _ => 0))), (x_bo_numbers, .inl (cI, 160, .inl (fun _ => 0))), (x_bo_paces, .inl (cI, 160, .inl (fun _ => 0))), (x_reader, .inr (2, [.int 0, .int 0, .int 0, .int 0, .int 0]))] sz)) 0 0 (va_A [(h0, .inr (9, [.ref x_riders, .ref x_road, .ref x_tape, .ref x_book, .ref x_reader, .ref x_latest, .ref x_log, .ref x_trial, .ref x_stages, .int 0, .int 0, .int 0])), (x_tape, .inr (8, [.int 0, .ref x_ta_bytes])), (x_ta_bytes, .inl (cI, 100, .inl (fun _ => 0))), (x_book, .inr (1, [.ref x_bo_clauses, .ref x_bo_asked, .ref x_bo_signs, .ref x_bo_numbers, .ref x_bo_paces])), (x_bo_clauses, .inl (cI, 10, .inl (fun _ => 0))), (x_bo_asked, .inl (cI, 160, .inl (fun _ => 0))), (x_bo_signs, .inl (cI, 160, .inl (fun _ => 0))), (x_bo_numbers, .inl (cI, 160, .inl (fun _ => 0))), (x_bo_paces, .inl (cI, 160, .inl (fun _ => 0))), (x_reader, .inr (2, [.int 0, .int 0, .int 0, .int 0, .int 0]))] sz) := by
  refine Met.ofW (cc := cX9_orders) (maxL := 2) (ret := (some .boolean)) (by decide) rfl ?_
  intro p e s m args below meth c s₁ B hml hv
  obtain ⟨rfl, hsz, hP, hK, hD0⟩ := hv
  have hx := B.exec
  have hb := B.bytes
  have hr := B.returns
  have hts := atoms_spec (ws := Cond.code yX9_orders cX9_orders 2 (some .boolean) :: lw_good) B.pre
  have hown : s.vm.findClass RX9 = some m.cls := findClass_of_methodNamed B.named
  have hlocks := B.notSynchronized
  have hiX8 : ∀ w ∈ wsX80, w ∈ (Cond.code yX9_orders cX9_orders 2 (some .boolean) :: lw_good) := fun w h => List.mem_cons_of_mem _ (zi_X8 w h)
  have hiX9 : ∀ w ∈ wsX90, w ∈ (Cond.code yX9_orders cX9_orders 2 (some .boolean) :: lw_good) := fun w h => List.mem_cons_of_mem _ (zi_X9 w h)
  have hw0 := hts (.initialized RX9) (List.mem_cons_of_mem _ zw_48)
  have hw1 := hts (.methodLink RX9 116 yX9_isTeam) (List.mem_cons_of_mem _ zw_496)
  have hw2 := hts (.static yX9_isTeam) (List.mem_cons_of_mem _ zw_380)
  have hw3 := hts (.fieldLink RX9 40 "BunchRace" "reader" "LBunchRace$OrderReader;") (List.mem_cons_of_mem _ zw_338)
  have hw4 := hts (.fieldLink RX9 26 "BunchRace" "tape" "LBunchRace$Tape;") (List.mem_cons_of_mem _ zw_336)
  have hw5 := hts (.fieldLink RX9 33 "BunchRace" "book" "LBunchRace$OrderBook;") (List.mem_cons_of_mem _ zw_337)
  have hw6 := hts (.initialized RX2) (List.mem_cons_of_mem _ zw_53)
  have hw7 := hts (.methodLink RX9 112 yX2_faultOf) (List.mem_cons_of_mem _ zw_446)
  have hw8 := hts (.instanceMethod yX2_faultOf) (List.mem_cons_of_mem _ zw_447)
  have hw9 := hts (.selects RX2 yX2_faultOf yX2_faultOf) (List.mem_cons_of_mem _ zw_448)
  have hw10 := hts (.initialized RX1) (List.mem_cons_of_mem _ zw_52)
  have hw11 := hts (.methodLink RX9 119 yX1_takeDraft) (List.mem_cons_of_mem _ zw_497)
  have hw12 := hts (.instanceMethod yX1_takeDraft) (List.mem_cons_of_mem _ zw_498)
  have hw13 := hts (.selects RX1 yX1_takeDraft yX1_takeDraft) (List.mem_cons_of_mem _ zw_499)
  have hw14 := hts (.fieldLink RX9 105 "BunchRace$Tape" "length" "I") (List.mem_cons_of_mem _ zw_143)
  subst hsz
  have hD := hD0.self (sz := s.heap.size)
  generalize hAe : va_A [(h0, .inr (9, [.ref x_riders, .ref x_road, .ref x_tape, .ref x_book, .ref x_reader, .ref x_latest, .ref x_log, .ref x_trial, .ref x_stages, .int 0, .int 0, .int 0])), (x_tape, .inr (8, [.int 0, .ref x_ta_bytes])), (x_ta_bytes, .inl (cI, 100, .inl (fun _ => 0))), (x_book, .inr (1, [.ref x_bo_clauses, .ref x_bo_asked, .ref x_bo_signs, .ref x_bo_numbers, .ref x_bo_paces])), (x_bo_clauses, .inl (cI, 10, .inl (fun _ => 0))), (x_bo_asked, .inl (cI, 160, .inl (fun _ => 0))), (x_bo_signs, .inl (cI, 160, .inl (fun _ => 0))), (x_bo_numbers, .inl (cI, 160, .inl (fun _ => 0))), (x_bo_paces, .inl (cI, 160, .inl (fun _ => 0))), (x_reader, .inr (2, [.int 0, .int 0, .int 0, .int 0, .int 0]))] s.heap.size = A at hD ⊢
  have hA : ∀ q : Nat, s.heap.size ≤ q → A q := fun q h => by rw [← hAe]; exact Or.inr h
  have hS : va_S A s.heap s.heap [] := va_S.rf
  have hP : va_P (dC, dI) vwCl [(h0, .inr (9, [.ref x_riders, .ref x_road, .ref x_tape, .ref x_book, .ref x_reader, .ref x_latest, .ref x_log, .ref x_trial, .ref x_stages, .int 0, .int 0, .int 0])), (x_tape, .inr (8, [.int 0, .ref x_ta_bytes])), (x_ta_bytes, .inl (cI, 100, .inl (fun _ => 0))), (x_book, .inr (1, [.ref x_bo_clauses, .ref x_bo_asked, .ref x_bo_signs, .ref x_bo_numbers, .ref x_bo_paces])), (x_bo_clauses, .inl (cI, 10, .inl (fun _ => 0))), (x_bo_asked, .inl (cI, 160, .inl (fun _ => 0))), (x_bo_signs, .inl (cI, 160, .inl (fun _ => 0))), (x_bo_numbers, .inl (cI, 160, .inl (fun _ => 0))), (x_bo_paces, .inl (cI, 160, .inl (fun _ => 0))), (x_reader, .inr (2, [.int 0, .int 0, .int 0, .int 0, .int 0]))] s.heap := hP
  have hl := lv_entry ([.ref h0, .int pT]) (n := 2) (Nat.le_of_ble_eq_true rfl)
  rw [lg_entry_eq]
  generalize (lg_sl ([.ref h0, .int pT]) ++ List.replicate (2 - (lg_sl ([.ref h0, .int pT])).length) Slot.unset).toArray = ls at hl ⊢
  have hl : lv_has ls 2 [(0, .ref h0), (1, .int pT)] := hl
  refine lv_iload_n hx hb dX9_orders_0 rfl (lv_at hl 1 rfl) ?_
  have hPc := hP.sub (ws' := []) [] rfl
  have hDc := hD.sub (ws' := []) [] (by decide) rfl
  have hFc := va_free (wc := []) hD hS hA [] rfl
  refine va_calli (va_runS (As := [.int pT]) (rest := []) ⟨hx, hb, hml, hown, hts⟩ (c_X9_isTeam l dC dI cI cZ (s.heap).size pT pT_i pT_h) ⟨callB_of 1 hts (zz_good zw_381) rfl rfl rfl hw0 hw1 (by decide +kernel) ⟨Nat.le_of_ble_eq_true rfl, Nat.le_of_ble_eq_true rfl⟩, hw2⟩ ⟨fun a U g mk q => by obtain ⟨q0, q1, qP, qK, qD⟩ := q; exact ⟨q0, q1, qP, va_K.moved (u := U) (U := U.calling g mk a) (Vm.Alike.refl U.vm) qK, qD⟩, fun U hU hW => ⟨rfl, by rw [hU], by rw [hU]; exact hPc, va_K.moved hW.alike hK, hDc.weaken (fun _ _ _ _ => trivial)⟩⟩ rfl rfl hl.1 rfl (lv_room (Nat.le_of_ble_eq_true rfl)) dX9_orders_1 ⟨Nat.le_of_ble_eq_true rfl, Nat.le_of_ble_eq_true rfl⟩) hS (fun q _ h => hFc q h) hFc (fun r_1 u t H1 locs ht hvm hpost hB hz1 hk1 hS => ?_)
  subst hpost
  obtain ⟨hf_2, hP1, hK1, hD1⟩ := hB
  rw [ht] at hP1
  obtain ⟨hP, hD⟩ := va_join (wr := [(h0, .inr (9, [.ref x_riders, .ref x_road, .ref x_tape, .ref x_book, .ref x_reader, .ref x_latest, .ref x_log, .ref x_trial, .ref x_stages, .int 0, .int 0, .int 0])), (x_tape, .inr (8, [.int 0, .ref x_ta_bytes])), (x_ta_bytes, .inl (cI, 100, .inl (fun _ => 0))), (x_book, .inr (1, [.ref x_bo_clauses, .ref x_bo_asked, .ref x_bo_signs, .ref x_bo_numbers, .ref x_bo_paces])), (x_bo_clauses, .inl (cI, 10, .inl (fun _ => 0))), (x_bo_asked, .inl (cI, 160, .inl (fun _ => 0))), (x_bo_signs, .inl (cI, 160, .inl (fun _ => 0))), (x_bo_numbers, .inl (cI, 160, .inl (fun _ => 0))), (x_bo_paces, .inl (cI, 160, .inl (fun _ => 0))), (x_reader, .inr (2, [.int 0, .int 0, .int 0, .int 0, .int 0]))]) (w1 := []) hP hD [] [0, 1, 2, 3, 4, 5, 6, 7, 8, 9] rfl rfl (by decide) (by decide) hk1 hFc hP1 hD1
  generalize H1 = H at hP hS ⊢
  have hP : va_P (dC, dI) vwCl [(h0, .inr (9, [.ref x_riders, .ref x_road, .ref x_tape, .ref x_book, .ref x_reader, .ref x_latest, .ref x_log, .ref x_trial, .ref x_stages, .int 0, .int 0, .int 0])), (x_tape, .inr (8, [.int 0, .ref x_ta_bytes])), (x_ta_bytes, .inl (cI, 100, .inl (fun _ => 0))), (x_book, .inr (1, [.ref x_bo_clauses, .ref x_bo_asked, .ref x_bo_signs, .ref x_bo_numbers, .ref x_bo_paces])), (x_bo_clauses, .inl (cI, 10, .inl (fun _ => 0))), (x_bo_asked, .inl (cI, 160, .inl (fun _ => 0))), (x_bo_signs, .inl (cI, 160, .inl (fun _ => 0))), (x_bo_numbers, .inl (cI, 160, .inl (fun _ => 0))), (x_bo_paces, .inl (cI, 160, .inl (fun _ => 0))), (x_reader, .inr (2, [.int 0, .int 0, .int 0, .int 0, .int 0]))] H := hP
  have hD : va_D A [(h0, .inr (9, [.ref x_riders, .ref x_road, .ref x_tape, .ref x_book, .ref x_reader, .ref x_latest, .ref x_log, .ref x_trial, .ref x_stages, .int 0, .int 0, .int 0])), (x_tape, .inr (8, [.int 0, .ref x_ta_bytes])), (x_ta_bytes, .inl (cI, 100, .inl (fun _ => 0))), (x_book, .inr (1, [.ref x_bo_clauses, .ref x_bo_asked, .ref x_bo_signs, .ref x_bo_numbers, .ref x_bo_paces])), (x_bo_clauses, .inl (cI, 10, .inl (fun _ => 0))), (x_bo_asked, .inl (cI, 160, .inl (fun _ => 0))), (x_bo_signs, .inl (cI, 160, .inl (fun _ => 0))), (x_bo_numbers, .inl (cI, 160, .inl (fun _ => 0))), (x_bo_paces, .inl (cI, 160, .inl (fun _ => 0))), (x_reader, .inr (2, [.int 0, .int 0, .int 0, .int 0, .int 0]))] := hD
  have hf_2 : (r_1 = 1 ∧ (0 ≤ pT_i ∧ pT_i ≤ 4)) ∨ (r_1 = 0 ∧ ¬ (0 ≤ pT_i ∧ pT_i ≤ 4)) := hf_2
  rcases hf_2 with ⟨rfl, hf_2⟩ | ⟨rfl, hf_2⟩
  ·
    refine lv_if_eq (tgt := 26) hx hb dX9_orders_4 (by decide) (fun c_3 => ?_) (fun c_3 => ?_)
    ·
      exact absurd c_3 (by decide)
    ·
      refine lv_aload_n hx hb dX9_orders_7 rfl (lv_at hl 0 rfl) ?_
      refine va_get (D := (dC, dI)) (ci := 9) (v := .ref x_reader) (C := RX9) (T := TX9) (N := 12) hx hb hts hiX9 hown hK hP 0 rfl rfl 4 (by decide) hw3 (fun _ h9 => h9) rfl dX9_orders_8 ?_
      refine lv_aload_n hx hb dX9_orders_11 rfl (lv_at hl 0 rfl) ?_
      refine va_get (D := (dC, dI)) (ci := 9) (v := .ref x_tape) (C := RX9) (T := TX9) (N := 12) hx hb hts hiX9 hown hK hP 0 rfl rfl 2 (by decide) hw4 (fun _ h9 => h9) rfl dX9_orders_12 ?_
      refine lv_aload_n hx hb dX9_orders_15 rfl (lv_at hl 0 rfl) ?_
      refine va_get (D := (dC, dI)) (ci := 9) (v := .ref x_book) (C := RX9) (T := TX9) (N := 12) hx hb hts hiX9 hown hK hP 0 rfl rfl 3 (by decide) hw5 (fun _ h9 => h9) rfl dX9_orders_16 ?_
      have hPc := hP.sub (ws' := [(x_reader, .inr (2, [.int 0, .int 0, .int 0, .int 0, .int 0])), (x_tape, .inr (8, [.int 0, .ref x_ta_bytes])), (x_book, .inr (1, [.ref x_bo_clauses, .ref x_bo_asked, .ref x_bo_signs, .ref x_bo_numbers, .ref x_bo_paces])), (x_bo_clauses, .inl (cI, 10, .inl (fun _ => 0)))]) [9, 1, 3, 4] rfl
      have hDc := hD.sub (ws' := [(x_reader, .inr (2, [.int 0, .int 0, .int 0, .int 0, .int 0])), (x_tape, .inr (8, [.int 0, .ref x_ta_bytes])), (x_book, .inr (1, [.ref x_bo_clauses, .ref x_bo_asked, .ref x_bo_signs, .ref x_bo_numbers, .ref x_bo_paces])), (x_bo_clauses, .inl (cI, 10, .inl (fun _ => 0)))]) [9, 1, 3, 4] (by decide) rfl
      have hFc := va_free (wc := [(x_reader, .inr (2, [.int 0, .int 0, .int 0, .int 0, .int 0])), (x_tape, .inr (8, [.int 0, .ref x_ta_bytes])), (x_book, .inr (1, [.ref x_bo_clauses, .ref x_bo_asked, .ref x_bo_signs, .ref x_bo_numbers, .ref x_bo_paces])), (x_bo_clauses, .inl (cI, 10, .inl (fun _ => 0)))]) hD hS hA [9, 1, 3, 4] rfl
      refine va_calli (va_runV (As := [.ref x_tape, .ref x_book]) (rest := []) ⟨hx, hb, hml, hown, hts⟩ (c_X2_faultOf l dC dI cI cZ (H).size x_reader x_tape x_ta_bytes x_book x_bo_clauses x_bo_asked x_bo_signs x_bo_numbers x_bo_paces (fun _ => 0)) ⟨callB_of 2 hts (zz_good zw_449) rfl rfl rfl hw6 hw7 (by decide +kernel) ⟨Nat.le_of_ble_eq_true rfl, Nat.le_of_ble_eq_true rfl⟩, hw8, hw9⟩ ⟨fun a U g mk q => by obtain ⟨q0, q1, qP, qK, qD⟩ := q; exact ⟨q0, q1, qP, va_K.moved (u := U) (U := U.calling g mk a) (Vm.Alike.refl U.vm) qK, qD⟩, va_recv hK hPc (ci := 2) (q0 := 0) rfl rfl, fun U hU hW => ⟨rfl, by rw [hU], by rw [hU]; exact hPc, va_K.moved hW.alike hK, hDc.weaken (fun _ _ _ _ => trivial)⟩⟩ rfl rfl hl.1 rfl (lv_room (Nat.le_of_ble_eq_true rfl)) dX9_orders_19 ⟨Nat.le_of_ble_eq_true rfl, Nat.le_of_ble_eq_true rfl⟩) hS (fun q _ h => hFc q h) hFc (fun r_4 u t H1 locs ht hvm hpost hB hz1 hk1 hS => ?_)
      subst hpost
      obtain ⟨pf2_5, hf_6, hP1, hK1, hD1⟩ := hB
      rw [ht] at hP1
      obtain ⟨hP, hD⟩ := va_join (wr := [(h0, .inr (9, [.ref x_riders, .ref x_road, .ref x_tape, .ref x_book, .ref x_reader, .ref x_latest, .ref x_log, .ref x_trial, .ref x_stages, .int 0, .int 0, .int 0])), (x_ta_bytes, .inl (cI, 100, .inl (fun _ => 0))), (x_bo_asked, .inl (cI, 160, .inl (fun _ => 0))), (x_bo_signs, .inl (cI, 160, .inl (fun _ => 0))), (x_bo_numbers, .inl (cI, 160, .inl (fun _ => 0))), (x_bo_paces, .inl (cI, 160, .inl (fun _ => 0)))]) (w1 := [(x_reader, .inr (2, [.int 0, .int 0, .int 0, .int 0, .int 0])), (x_tape, .inr (8, [.int 0, .ref x_ta_bytes])), (x_book, .inr (1, [.ref x_bo_clauses, .ref x_bo_asked, .ref x_bo_signs, .ref x_bo_numbers, .ref x_bo_paces])), (x_bo_clauses, .inl (cI, 10, .inl pf2_5))]) hP hD [9, 1, 3, 4] [0, 2, 5, 6, 7, 8] rfl rfl (by decide) (by decide) hk1 hFc hP1 hD1
      generalize H1 = H at hP hS ⊢
      have hP : va_P (dC, dI) vwCl [(h0, .inr (9, [.ref x_riders, .ref x_road, .ref x_tape, .ref x_book, .ref x_reader, .ref x_latest, .ref x_log, .ref x_trial, .ref x_stages, .int 0, .int 0, .int 0])), (x_ta_bytes, .inl (cI, 100, .inl (fun _ => 0))), (x_bo_asked, .inl (cI, 160, .inl (fun _ => 0))), (x_bo_signs, .inl (cI, 160, .inl (fun _ => 0))), (x_bo_numbers, .inl (cI, 160, .inl (fun _ => 0))), (x_bo_paces, .inl (cI, 160, .inl (fun _ => 0))), (x_reader, .inr (2, [.int 0, .int 0, .int 0, .int 0, .int 0])), (x_tape, .inr (8, [.int 0, .ref x_ta_bytes])), (x_book, .inr (1, [.ref x_bo_clauses, .ref x_bo_asked, .ref x_bo_signs, .ref x_bo_numbers, .ref x_bo_paces])), (x_bo_clauses, .inl (cI, 10, .inl pf2_5))] H := hP
      have hD : va_D A [(h0, .inr (9, [.ref x_riders, .ref x_road, .ref x_tape, .ref x_book, .ref x_reader, .ref x_latest, .ref x_log, .ref x_trial, .ref x_stages, .int 0, .int 0, .int 0])), (x_ta_bytes, .inl (cI, 100, .inl (fun _ => 0))), (x_bo_asked, .inl (cI, 160, .inl (fun _ => 0))), (x_bo_signs, .inl (cI, 160, .inl (fun _ => 0))), (x_bo_numbers, .inl (cI, 160, .inl (fun _ => 0))), (x_bo_paces, .inl (cI, 160, .inl (fun _ => 0))), (x_reader, .inr (2, [.int 0, .int 0, .int 0, .int 0, .int 0])), (x_tape, .inr (8, [.int 0, .ref x_ta_bytes])), (x_book, .inr (1, [.ref x_bo_clauses, .ref x_bo_asked, .ref x_bo_signs, .ref x_bo_numbers, .ref x_bo_paces])), (x_bo_clauses, .inl (cI, 10, .inl pf2_5))] := hD
      have hf_6 : r_4.toInt = -1 := hf_6
      obtain rfl : r_4 = (-1) := Int32.toInt_inj.mp (hf_6.trans (by decide))
      refine lv_iconst (v := (-1)) hx hb dX9_orders_22 (by decide) ?_
      refine lv_icmp_eq (tgt := 28) hx hb dX9_orders_23 (by decide) (fun c_7 => ?_) (fun c_7 => ?_)
      ·
        refine lv_aload_n hx hb dX9_orders_28 rfl (lv_at hl 0 rfl) ?_
        refine va_get (D := (dC, dI)) (ci := 9) (v := .ref x_book) (C := RX9) (T := TX9) (N := 12) hx hb hts hiX9 hown hK hP 0 rfl rfl 3 (by decide) hw5 (fun _ h9 => h9) rfl dX9_orders_29 ?_
        refine lv_iload_n hx hb dX9_orders_32 rfl (lv_at hl 1 rfl) ?_
        have hPc := hP.sub (ws' := [(x_book, .inr (1, [.ref x_bo_clauses, .ref x_bo_asked, .ref x_bo_signs, .ref x_bo_numbers, .ref x_bo_paces])), (x_bo_clauses, .inl (cI, 10, .inl pf2_5)), (x_bo_asked, .inl (cI, 160, .inl (fun _ => 0))), (x_bo_signs, .inl (cI, 160, .inl (fun _ => 0))), (x_bo_numbers, .inl (cI, 160, .inl (fun _ => 0))), (x_bo_paces, .inl (cI, 160, .inl (fun _ => 0)))]) [8, 9, 2, 3, 4, 5] rfl
        have hDc := hD.sub (ws' := [(x_book, .inr (1, [.ref x_bo_clauses, .ref x_bo_asked, .ref x_bo_signs, .ref x_bo_numbers, .ref x_bo_paces])), (x_bo_clauses, .inl (cI, 10, .inl pf2_5)), (x_bo_asked, .inl (cI, 160, .inl (fun _ => 0))), (x_bo_signs, .inl (cI, 160, .inl (fun _ => 0))), (x_bo_numbers, .inl (cI, 160, .inl (fun _ => 0))), (x_bo_paces, .inl (cI, 160, .inl (fun _ => 0)))]) [8, 9, 2, 3, 4, 5] (by decide) rfl
        have hFc := va_free (wc := [(x_book, .inr (1, [.ref x_bo_clauses, .ref x_bo_asked, .ref x_bo_signs, .ref x_bo_numbers, .ref x_bo_paces])), (x_bo_clauses, .inl (cI, 10, .inl pf2_5)), (x_bo_asked, .inl (cI, 160, .inl (fun _ => 0))), (x_bo_signs, .inl (cI, 160, .inl (fun _ => 0))), (x_bo_numbers, .inl (cI, 160, .inl (fun _ => 0))), (x_bo_paces, .inl (cI, 160, .inl (fun _ => 0)))]) hD hS hA [8, 9, 2, 3, 4, 5] rfl
        refine va_callv (va_runV (As := [.int pT]) (rest := []) ⟨hx, hb, hml, hown, hts⟩ (c_X1_takeDraft l dC dI cI cZ (H).size x_book x_bo_clauses x_bo_asked x_bo_signs x_bo_numbers x_bo_paces pf2_5 (fun _ => 0) (fun _ => 0) (fun _ => 0) (fun _ => 0) pT pT_i pT_h (by omega) (by omega)) ⟨callB_of 1 hts (zz_good zw_500) rfl rfl rfl hw10 hw11 (by decide +kernel) ⟨Nat.le_of_ble_eq_true rfl, Nat.le_of_ble_eq_true rfl⟩, hw12, hw13⟩ ⟨fun a U g mk q => by obtain ⟨q0, q1, qP, qK, qD⟩ := q; exact ⟨q0, q1, qP, va_K.moved (u := U) (U := U.calling g mk a) (Vm.Alike.refl U.vm) qK, qD⟩, va_recv hK hPc (ci := 1) (q0 := 0) rfl rfl, fun U hU hW => ⟨rfl, by rw [hU], by rw [hU]; exact hPc, va_K.moved hW.alike hK, hDc.weaken (fun _ _ _ _ => trivial)⟩⟩ rfl rfl hl.1 rfl (lv_room (Nat.le_of_ble_eq_true rfl)) dX9_orders_33 ⟨Nat.le_of_ble_eq_true rfl, Nat.le_of_ble_eq_true rfl⟩) hS (fun q _ h => hFc q h) hFc (fun u t H1 locs ht hvm hpost hB hz1 hk1 hS => ?_)
        obtain ⟨gclauses_8, gasked_9, gsigns_10, gnumbers_11, gpaces_12, hP1, hK1, hD1⟩ := hB
        rw [ht] at hP1
        obtain ⟨hP, hD⟩ := va_join (wr := [(h0, .inr (9, [.ref x_riders, .ref x_road, .ref x_tape, .ref x_book, .ref x_reader, .ref x_latest, .ref x_log, .ref x_trial, .ref x_stages, .int 0, .int 0, .int 0])), (x_ta_bytes, .inl (cI, 100, .inl (fun _ => 0))), (x_reader, .inr (2, [.int 0, .int 0, .int 0, .int 0, .int 0])), (x_tape, .inr (8, [.int 0, .ref x_ta_bytes]))]) (w1 := [(x_book, .inr (1, [.ref x_bo_clauses, .ref x_bo_asked, .ref x_bo_signs, .ref x_bo_numbers, .ref x_bo_paces])), (x_bo_clauses, .inl (cI, 10, .inl gclauses_8)), (x_bo_asked, .inl (cI, 160, .inl gasked_9)), (x_bo_signs, .inl (cI, 160, .inl gsigns_10)), (x_bo_numbers, .inl (cI, 160, .inl gnumbers_11)), (x_bo_paces, .inl (cI, 160, .inl gpaces_12))]) hP hD [8, 9, 2, 3, 4, 5] [0, 1, 6, 7] rfl rfl (by decide) (by decide) hk1 hFc hP1 hD1
        generalize H1 = H at hP hS ⊢
        have hP : va_P (dC, dI) vwCl [(h0, .inr (9, [.ref x_riders, .ref x_road, .ref x_tape, .ref x_book, .ref x_reader, .ref x_latest, .ref x_log, .ref x_trial, .ref x_stages, .int 0, .int 0, .int 0])), (x_ta_bytes, .inl (cI, 100, .inl (fun _ => 0))), (x_reader, .inr (2, [.int 0, .int 0, .int 0, .int 0, .int 0])), (x_tape, .inr (8, [.int 0, .ref x_ta_bytes])), (x_book, .inr (1, [.ref x_bo_clauses, .ref x_bo_asked, .ref x_bo_signs, .ref x_bo_numbers, .ref x_bo_paces])), (x_bo_clauses, .inl (cI, 10, .inl gclauses_8)), (x_bo_asked, .inl (cI, 160, .inl gasked_9)), (x_bo_signs, .inl (cI, 160, .inl gsigns_10)), (x_bo_numbers, .inl (cI, 160, .inl gnumbers_11)), (x_bo_paces, .inl (cI, 160, .inl gpaces_12))] H := hP
        have hD : va_D A [(h0, .inr (9, [.ref x_riders, .ref x_road, .ref x_tape, .ref x_book, .ref x_reader, .ref x_latest, .ref x_log, .ref x_trial, .ref x_stages, .int 0, .int 0, .int 0])), (x_ta_bytes, .inl (cI, 100, .inl (fun _ => 0))), (x_reader, .inr (2, [.int 0, .int 0, .int 0, .int 0, .int 0])), (x_tape, .inr (8, [.int 0, .ref x_ta_bytes])), (x_book, .inr (1, [.ref x_bo_clauses, .ref x_bo_asked, .ref x_bo_signs, .ref x_bo_numbers, .ref x_bo_paces])), (x_bo_clauses, .inl (cI, 10, .inl gclauses_8)), (x_bo_asked, .inl (cI, 160, .inl gasked_9)), (x_bo_signs, .inl (cI, 160, .inl gsigns_10)), (x_bo_numbers, .inl (cI, 160, .inl gnumbers_11)), (x_bo_paces, .inl (cI, 160, .inl gpaces_12))] := hD
        refine lv_aload_n hx hb dX9_orders_36 rfl (lv_at hl 0 rfl) ?_
        refine va_get (D := (dC, dI)) (ci := 9) (v := .ref x_tape) (C := RX9) (T := TX9) (N := 12) hx hb hts hiX9 hown hK hP 0 rfl rfl 2 (by decide) hw4 (fun _ h9 => h9) rfl dX9_orders_37 ?_
        refine lv_iconst (v := 0) hx hb dX9_orders_40 (by decide) ?_
        refine va_put (D := (dC, dI)) (ci := 8) (v := .int 0) (ty := .int) (C := RX8) (T := TX8) (N := 2) hx hb hts hiX8 tyX8 tyX8_ok nmX8 hown hK hP hD hS 3 rfl rfl 0 (by decide) hw14 (fun _ h9 => h9) rfl (by decide +kernel) rfl rfl (Nat.le_of_ble_eq_true rfl) dX9_orders_41 (fun H locs hP hD hS => ?_)
        have hP : va_P (dC, dI) vwCl [(h0, .inr (9, [.ref x_riders, .ref x_road, .ref x_tape, .ref x_book, .ref x_reader, .ref x_latest, .ref x_log, .ref x_trial, .ref x_stages, .int 0, .int 0, .int 0])), (x_ta_bytes, .inl (cI, 100, .inl (fun _ => 0))), (x_reader, .inr (2, [.int 0, .int 0, .int 0, .int 0, .int 0])), (x_tape, .inr (8, [.int 0, .ref x_ta_bytes])), (x_book, .inr (1, [.ref x_bo_clauses, .ref x_bo_asked, .ref x_bo_signs, .ref x_bo_numbers, .ref x_bo_paces])), (x_bo_clauses, .inl (cI, 10, .inl gclauses_8)), (x_bo_asked, .inl (cI, 160, .inl gasked_9)), (x_bo_signs, .inl (cI, 160, .inl gsigns_10)), (x_bo_numbers, .inl (cI, 160, .inl gnumbers_11)), (x_bo_paces, .inl (cI, 160, .inl gpaces_12))] H := hP
        have hD : va_D A [(h0, .inr (9, [.ref x_riders, .ref x_road, .ref x_tape, .ref x_book, .ref x_reader, .ref x_latest, .ref x_log, .ref x_trial, .ref x_stages, .int 0, .int 0, .int 0])), (x_ta_bytes, .inl (cI, 100, .inl (fun _ => 0))), (x_reader, .inr (2, [.int 0, .int 0, .int 0, .int 0, .int 0])), (x_tape, .inr (8, [.int 0, .ref x_ta_bytes])), (x_book, .inr (1, [.ref x_bo_clauses, .ref x_bo_asked, .ref x_bo_signs, .ref x_bo_numbers, .ref x_bo_paces])), (x_bo_clauses, .inl (cI, 10, .inl gclauses_8)), (x_bo_asked, .inl (cI, 160, .inl gasked_9)), (x_bo_signs, .inl (cI, 160, .inl gsigns_10)), (x_bo_numbers, .inl (cI, 160, .inl gnumbers_11)), (x_bo_paces, .inl (cI, 160, .inl gpaces_12))] := hD
        refine lv_iconst (v := 1) hx hb dX9_orders_44 (by decide) ?_
        have hP9 := hP.sub (ws' := []) [] rfl
        have hD9 := hD.sub (ws' := []) [] (by decide) rfl
        refine W.widen (k := 0) (n := 0) (Nat.le_of_ble_eq_true rfl) (Nat.le_of_ble_eq_true rfl) ?_
        have hu9 : (1 : Int32).toInt = (1:Int) := (by decide)
        have hf9_0 : ((1 : Int32) = 1 ∧ (0 ≤ pT_i ∧ pT_i ≤ 4)) ∨ ((1 : Int32) = 0 ∧ ¬ (0 ≤ pT_i ∧ pT_i ≤ 4)) := Or.inl ⟨rfl, by omega⟩
        exact W.zret (v := 1) hx hb hr rfl (fun t ht hW => ⟨⟨1, 1, rfl, rfl, hf9_0, by rw [ht]; exact hP9, va_K.moved hW.alike hK, hD9⟩, hS.F ht⟩) hS.2.2 dX9_orders_45
      ·
        exact absurd c_7 (by decide)
  ·
    refine lv_if_eq (tgt := 26) hx hb dX9_orders_4 (by decide) (fun c_13 => ?_) (fun c_13 => ?_)
    ·
      refine lv_iconst (v := 0) hx hb dX9_orders_26 (by decide) ?_
      have hP9 := hP.sub (ws' := []) [] rfl
      have hD9 := hD.sub (ws' := []) [] (by decide) rfl
      refine W.widen (k := 0) (n := 0) (Nat.le_of_ble_eq_true rfl) (Nat.le_of_ble_eq_true rfl) ?_
      have hu9 : (0 : Int32).toInt = (0:Int) := (by decide)
      have hf9_0 : ((0 : Int32) = 1 ∧ (0 ≤ pT_i ∧ pT_i ≤ 4)) ∨ ((0 : Int32) = 0 ∧ ¬ (0 ≤ pT_i ∧ pT_i ≤ 4)) := Or.inr ⟨rfl, by omega⟩
      exact W.zret (v := 0) hx hb hr rfl (fun t ht hW => ⟨⟨0, 0, rfl, rfl, hf9_0, by rw [ht]; exact hP9, va_K.moved hW.alike hK, hD9⟩, hS.F ht⟩) hS.2.2 dX9_orders_27
    ·
      exact absurd c_13 (by decide)

set_option maxHeartbeats 4000000 in
set_option maxRecDepth 100000 in
theorem c_X9_choice (l : Launch) (dC : Nat → ClassId) (dI : Nat → Nat → Nat) (cI cZ : ClassId) (sz : Nat) (h0 : Nat) (x_riders : Nat) (x_road : Nat) (x_tape : Nat) (x_book : Nat) (x_reader : Nat) (x_latest : Nat) (x_log : Nat) (x_trial : Nat) (x_stages : Nat) (x_ta_bytes : Nat) (x_bo_clauses : Nat) (x_bo_asked : Nat) (x_bo_signs : Nat) (x_bo_numbers : Nat) (x_bo_paces : Nat) : Met l yX9_choice (Cond.code yX9_choice cX9_choice 1 (some .int) :: lw_good) ({ frames := 2, cells := 0, slots := 0, locals := 43 }) (va_Pc [.ref h0] (fun U => U.heap.size = sz ∧ va_P (dC, dI) vwCl [(h0, .inr (9, [.ref x_riders, .ref x_road, .ref x_tape, .ref x_book, .ref x_reader, .ref x_latest, .ref x_log, .ref x_trial, .ref x_stages, .int 0, .int 0, .int 0])), (x_tape, .inr (8, [.int 0, .ref x_ta_bytes])), (x_ta_bytes, .inl (cI, 100, .inl (fun _ => 0))), (x_book, .inr (1, [.ref x_bo_clauses, .ref x_bo_asked, .ref x_bo_signs, .ref x_bo_numbers, .ref x_bo_paces])), (x_bo_clauses, .inl (cI, 10, .inl (fun _ => 0))), (x_bo_asked, .inl (cI, 160, .inl (fun _ => 0))), (x_bo_signs, .inl (cI, 160, .inl (fun _ => 0))), (x_bo_numbers, .inl (cI, 160, .inl (fun _ => 0))), (x_bo_paces, .inl (cI, 160, .inl (fun _ => 0))), (x_reader, .inr (2, [.int 0, .int 0, .int 0, .int 0, .int 0]))] U.heap ∧ va_K (dC, dI) vwCl [(cI, .int), (cZ, .boolean)] U ∧ va_D (fun _ => True) [(h0, .inr (9, [.ref x_riders, .ref x_road, .ref x_tape, .ref x_book, .ref x_reader, .ref x_latest, .ref x_log, .ref x_trial, .ref x_stages, .int 0, .int 0, .int 0])), (x_tape, .inr (8, [.int 0, .ref x_ta_bytes])), (x_ta_bytes, .inl (cI, 100, .inl (fun _ => 0))), (x_book, .inr (1, [.ref x_bo_clauses, .ref x_bo_asked, .ref x_bo_signs, .ref x_bo_numbers, .ref x_bo_paces])), (x_bo_clauses, .inl (cI, 10, .inl (fun _ => 0))), (x_bo_asked, .inl (cI, 160, .inl (fun _ => 0))), (x_bo_signs, .inl (cI, 160, .inl (fun _ => 0))), (x_bo_numbers, .inl (cI, 160, .inl (fun _ => 0))), (x_bo_paces, .inl (cI, 160, .inl (fun _ => 0))), (x_reader, .inr (2, [.int 0, .int 0, .int 0, .int 0, .int 0]))])) (va_Qi (fun (r u : Int32) => r = u) (fun u t => (u.toInt = 0) ∧ va_P (dC, dI) vwCl [] t.heap ∧ va_K (dC, dI) vwCl [(cI, .int), (cZ, .boolean)] t ∧ va_D (va_A [(h0, .inr (9, [.ref x_riders, .ref x_road, .ref x_tape, .ref x_book, .ref x_reader, .ref x_latest, .ref x_log, .ref x_trial, .ref x_stages, .int 0, .int 0, .int 0])), (x_tape, .inr (8, [.int 0, .ref x_ta_bytes])), (x_ta_bytes, .inl (cI, 100, .inl (fun _ => 0))), (x_book, .inr (1, [.ref x_bo_clauses, .ref x_bo_asked, .ref x_bo_signs, .ref x_bo_numbers, .ref x_bo_paces])), (x_bo_clauses, .inl (cI, 10, .inl (fun _ => 0))), (x_bo_asked, .inl (cI, 160, .inl (fun _ => 0))), (x_bo_signs, .inl (cI, 160, .inl (fun _ => 0))), (x_bo_numbers, .inl (cI, 160, .inl (fun _ => 0))), (x_bo_paces, .inl (cI, 160, .inl (fun _ => 0))), (x_reader, .inr (2, [.int 0, .int 0, .int 0, .int 0, .int 0]))] sz) []) (va_A [(h0, .inr (9, [.ref x_riders, .ref x_road, .ref x_tape, .ref x_book, .ref x_reader, .ref x_latest, .ref x_log, .ref x_trial, .ref x_stages, .int 0, .int 0, .int 0])), (x_tape, .inr (8, [.int 0, .ref x_ta_bytes])), (x_ta_bytes, .inl (cI, 100, .inl (fun _ => 0))), (x_book, .inr (1, [.ref x_bo_clauses, .ref x_bo_asked, .ref x_bo_signs, .ref x_bo_numbers, .ref x_bo_paces])), (x_bo_clauses, .inl (cI, 10, .inl (fun _ => 0))), (x_bo_asked, .inl (cI, 160, .inl (fun _ => 0))), (x_bo_signs, .inl (cI, 160, .inl (fun _ => 0))), (x_bo_numbers, .inl (cI, 160, .inl (fun _ => 0))), (x_bo_paces, .inl (cI, 160, .inl (fun _ => 0))), (x_reader, .inr (2, [.int 0, .int 0, .int 0, .int 0, .int 0]))] sz)) 0 0 (va_A [(h0, .inr (9, [.ref x_riders, .ref x_road, .ref x_tape, .ref x_book, .ref x_reader, .ref x_latest, .ref x_log, .ref x_trial, .ref x_stages, .int 0, .int 0, .int 0])), (x_tape, .inr (8, [.int 0, .ref x_ta_bytes])), (x_ta_bytes, .inl (cI, 100, .inl (fun _ => 0))), (x_book, .inr (1, [.ref x_bo_clauses, .ref x_bo_asked, .ref x_bo_signs, .ref x_bo_numbers, .ref x_bo_paces])), (x_bo_clauses, .inl (cI, 10, .inl (fun _ => 0))), (x_bo_asked, .inl (cI, 160, .inl (fun _ => 0))), (x_bo_signs, .inl (cI, 160, .inl (fun _ => 0))), (x_bo_numbers, .inl (cI, 160, .inl (fun _ => 0))), (x_bo_paces, .inl (cI, 160, .inl (fun _ => 0))), (x_reader, .inr (2, [.int 0, .int 0, .int 0, .int 0, .int 0]))] sz) := by
  refine Met.ofW (cc := cX9_choice) (maxL := 1) (ret := (some .int)) (by decide) rfl ?_
  intro p e s m args below meth c s₁ B hml hv
  obtain ⟨rfl, hsz, hP, hK, hD0⟩ := hv
  have hx := B.exec
  have hb := B.bytes
  have hr := B.returns
  have hts := atoms_spec (ws := Cond.code yX9_choice cX9_choice 1 (some .int) :: lw_good) B.pre
  have hown : s.vm.findClass RX9 = some m.cls := findClass_of_methodNamed B.named
  have hlocks := B.notSynchronized
  have hiX8 : ∀ w ∈ wsX80, w ∈ (Cond.code yX9_choice cX9_choice 1 (some .int) :: lw_good) := fun w h => List.mem_cons_of_mem _ (zi_X8 w h)
  have hiX9 : ∀ w ∈ wsX90, w ∈ (Cond.code yX9_choice cX9_choice 1 (some .int) :: lw_good) := fun w h => List.mem_cons_of_mem _ (zi_X9 w h)
  have hw0 := hts (.fieldLink RX9 68 "BunchRace" "choices" "I") (List.mem_cons_of_mem _ zw_343)
  have hw1 := hts (.fieldLink RX9 40 "BunchRace" "reader" "LBunchRace$OrderReader;") (List.mem_cons_of_mem _ zw_338)
  have hw2 := hts (.fieldLink RX9 26 "BunchRace" "tape" "LBunchRace$Tape;") (List.mem_cons_of_mem _ zw_336)
  have hw3 := hts (.fieldLink RX9 33 "BunchRace" "book" "LBunchRace$OrderBook;") (List.mem_cons_of_mem _ zw_337)
  have hw4 := hts (.initialized RX2) (List.mem_cons_of_mem _ zw_53)
  have hw5 := hts (.methodLink RX9 112 yX2_faultOf) (List.mem_cons_of_mem _ zw_446)
  have hw6 := hts (.instanceMethod yX2_faultOf) (List.mem_cons_of_mem _ zw_447)
  have hw7 := hts (.selects RX2 yX2_faultOf yX2_faultOf) (List.mem_cons_of_mem _ zw_448)
  have hw8 := hts (.initialized RX1) (List.mem_cons_of_mem _ zw_52)
  have hw9 := hts (.methodLink RX9 119 yX1_takeDraft) (List.mem_cons_of_mem _ zw_497)
  have hw10 := hts (.instanceMethod yX1_takeDraft) (List.mem_cons_of_mem _ zw_498)
  have hw11 := hts (.selects RX1 yX1_takeDraft yX1_takeDraft) (List.mem_cons_of_mem _ zw_499)
  have hw12 := hts (.fieldLink RX9 105 "BunchRace$Tape" "length" "I") (List.mem_cons_of_mem _ zw_143)
  subst hsz
  have hD := hD0.self (sz := s.heap.size)
  generalize hAe : va_A [(h0, .inr (9, [.ref x_riders, .ref x_road, .ref x_tape, .ref x_book, .ref x_reader, .ref x_latest, .ref x_log, .ref x_trial, .ref x_stages, .int 0, .int 0, .int 0])), (x_tape, .inr (8, [.int 0, .ref x_ta_bytes])), (x_ta_bytes, .inl (cI, 100, .inl (fun _ => 0))), (x_book, .inr (1, [.ref x_bo_clauses, .ref x_bo_asked, .ref x_bo_signs, .ref x_bo_numbers, .ref x_bo_paces])), (x_bo_clauses, .inl (cI, 10, .inl (fun _ => 0))), (x_bo_asked, .inl (cI, 160, .inl (fun _ => 0))), (x_bo_signs, .inl (cI, 160, .inl (fun _ => 0))), (x_bo_numbers, .inl (cI, 160, .inl (fun _ => 0))), (x_bo_paces, .inl (cI, 160, .inl (fun _ => 0))), (x_reader, .inr (2, [.int 0, .int 0, .int 0, .int 0, .int 0]))] s.heap.size = A at hD ⊢
  have hA : ∀ q : Nat, s.heap.size ≤ q → A q := fun q h => by rw [← hAe]; exact Or.inr h
  have hS : va_S A s.heap s.heap [] := va_S.rf
  have hP : va_P (dC, dI) vwCl [(h0, .inr (9, [.ref x_riders, .ref x_road, .ref x_tape, .ref x_book, .ref x_reader, .ref x_latest, .ref x_log, .ref x_trial, .ref x_stages, .int 0, .int 0, .int 0])), (x_tape, .inr (8, [.int 0, .ref x_ta_bytes])), (x_ta_bytes, .inl (cI, 100, .inl (fun _ => 0))), (x_book, .inr (1, [.ref x_bo_clauses, .ref x_bo_asked, .ref x_bo_signs, .ref x_bo_numbers, .ref x_bo_paces])), (x_bo_clauses, .inl (cI, 10, .inl (fun _ => 0))), (x_bo_asked, .inl (cI, 160, .inl (fun _ => 0))), (x_bo_signs, .inl (cI, 160, .inl (fun _ => 0))), (x_bo_numbers, .inl (cI, 160, .inl (fun _ => 0))), (x_bo_paces, .inl (cI, 160, .inl (fun _ => 0))), (x_reader, .inr (2, [.int 0, .int 0, .int 0, .int 0, .int 0]))] s.heap := hP
  have hl := lv_entry ([.ref h0]) (n := 1) (Nat.le_of_ble_eq_true rfl)
  rw [lg_entry_eq]
  generalize (lg_sl ([.ref h0]) ++ List.replicate (1 - (lg_sl ([.ref h0])).length) Slot.unset).toArray = ls at hl ⊢
  have hl : lv_has ls 1 [(0, .ref h0)] := hl
  refine lv_aload_n hx hb dX9_choice_0 rfl (lv_at hl 0 rfl) ?_
  refine va_get (D := (dC, dI)) (ci := 9) (v := .int 0) (C := RX9) (T := TX9) (N := 12) hx hb hts hiX9 hown hK hP 0 rfl rfl 9 (by decide) hw0 (fun _ h9 => h9) rfl dX9_choice_1 ?_
  refine lv_iconst (v := 4) hx hb dX9_choice_4 (by decide) ?_
  refine lv_icmp_ge (tgt := 27) hx hb dX9_choice_5 (by decide) (fun c_1 => ?_) (fun c_1 => ?_)
  ·
    exact absurd c_1 (by decide)
  ·
    refine lv_aload_n hx hb dX9_choice_8 rfl (lv_at hl 0 rfl) ?_
    refine va_get (D := (dC, dI)) (ci := 9) (v := .ref x_reader) (C := RX9) (T := TX9) (N := 12) hx hb hts hiX9 hown hK hP 0 rfl rfl 4 (by decide) hw1 (fun _ h9 => h9) rfl dX9_choice_9 ?_
    refine lv_aload_n hx hb dX9_choice_12 rfl (lv_at hl 0 rfl) ?_
    refine va_get (D := (dC, dI)) (ci := 9) (v := .ref x_tape) (C := RX9) (T := TX9) (N := 12) hx hb hts hiX9 hown hK hP 0 rfl rfl 2 (by decide) hw2 (fun _ h9 => h9) rfl dX9_choice_13 ?_
    refine lv_aload_n hx hb dX9_choice_16 rfl (lv_at hl 0 rfl) ?_
    refine va_get (D := (dC, dI)) (ci := 9) (v := .ref x_book) (C := RX9) (T := TX9) (N := 12) hx hb hts hiX9 hown hK hP 0 rfl rfl 3 (by decide) hw3 (fun _ h9 => h9) rfl dX9_choice_17 ?_
    have hPc := hP.sub (ws' := [(x_reader, .inr (2, [.int 0, .int 0, .int 0, .int 0, .int 0])), (x_tape, .inr (8, [.int 0, .ref x_ta_bytes])), (x_book, .inr (1, [.ref x_bo_clauses, .ref x_bo_asked, .ref x_bo_signs, .ref x_bo_numbers, .ref x_bo_paces])), (x_bo_clauses, .inl (cI, 10, .inl (fun _ => 0)))]) [9, 1, 3, 4] rfl
    have hDc := hD.sub (ws' := [(x_reader, .inr (2, [.int 0, .int 0, .int 0, .int 0, .int 0])), (x_tape, .inr (8, [.int 0, .ref x_ta_bytes])), (x_book, .inr (1, [.ref x_bo_clauses, .ref x_bo_asked, .ref x_bo_signs, .ref x_bo_numbers, .ref x_bo_paces])), (x_bo_clauses, .inl (cI, 10, .inl (fun _ => 0)))]) [9, 1, 3, 4] (by decide) rfl
    have hFc := va_free (wc := [(x_reader, .inr (2, [.int 0, .int 0, .int 0, .int 0, .int 0])), (x_tape, .inr (8, [.int 0, .ref x_ta_bytes])), (x_book, .inr (1, [.ref x_bo_clauses, .ref x_bo_asked, .ref x_bo_signs, .ref x_bo_numbers, .ref x_bo_paces])), (x_bo_clauses, .inl (cI, 10, .inl (fun _ => 0)))]) hD hS hA [9, 1, 3, 4] rfl
    refine va_calli (va_runV (As := [.ref x_tape, .ref x_book]) (rest := []) ⟨hx, hb, hml, hown, hts⟩ (c_X2_faultOf l dC dI cI cZ (s.heap).size x_reader x_tape x_ta_bytes x_book x_bo_clauses x_bo_asked x_bo_signs x_bo_numbers x_bo_paces (fun _ => 0)) ⟨callB_of 2 hts (zz_good zw_449) rfl rfl rfl hw4 hw5 (by decide +kernel) ⟨Nat.le_of_ble_eq_true rfl, Nat.le_of_ble_eq_true rfl⟩, hw6, hw7⟩ ⟨fun a U g mk q => by obtain ⟨q0, q1, qP, qK, qD⟩ := q; exact ⟨q0, q1, qP, va_K.moved (u := U) (U := U.calling g mk a) (Vm.Alike.refl U.vm) qK, qD⟩, va_recv hK hPc (ci := 2) (q0 := 0) rfl rfl, fun U hU hW => ⟨rfl, by rw [hU], by rw [hU]; exact hPc, va_K.moved hW.alike hK, hDc.weaken (fun _ _ _ _ => trivial)⟩⟩ rfl rfl hl.1 rfl (lv_room (Nat.le_of_ble_eq_true rfl)) dX9_choice_20 ⟨Nat.le_of_ble_eq_true rfl, Nat.le_of_ble_eq_true rfl⟩) hS (fun q _ h => hFc q h) hFc (fun r_2 u t H1 locs ht hvm hpost hB hz1 hk1 hS => ?_)
    subst hpost
    obtain ⟨pf2_3, hf_4, hP1, hK1, hD1⟩ := hB
    rw [ht] at hP1
    obtain ⟨hP, hD⟩ := va_join (wr := [(h0, .inr (9, [.ref x_riders, .ref x_road, .ref x_tape, .ref x_book, .ref x_reader, .ref x_latest, .ref x_log, .ref x_trial, .ref x_stages, .int 0, .int 0, .int 0])), (x_ta_bytes, .inl (cI, 100, .inl (fun _ => 0))), (x_bo_asked, .inl (cI, 160, .inl (fun _ => 0))), (x_bo_signs, .inl (cI, 160, .inl (fun _ => 0))), (x_bo_numbers, .inl (cI, 160, .inl (fun _ => 0))), (x_bo_paces, .inl (cI, 160, .inl (fun _ => 0)))]) (w1 := [(x_reader, .inr (2, [.int 0, .int 0, .int 0, .int 0, .int 0])), (x_tape, .inr (8, [.int 0, .ref x_ta_bytes])), (x_book, .inr (1, [.ref x_bo_clauses, .ref x_bo_asked, .ref x_bo_signs, .ref x_bo_numbers, .ref x_bo_paces])), (x_bo_clauses, .inl (cI, 10, .inl pf2_3))]) hP hD [9, 1, 3, 4] [0, 2, 5, 6, 7, 8] rfl rfl (by decide) (by decide) hk1 hFc hP1 hD1
    generalize H1 = H at hP hS ⊢
    have hP : va_P (dC, dI) vwCl [(h0, .inr (9, [.ref x_riders, .ref x_road, .ref x_tape, .ref x_book, .ref x_reader, .ref x_latest, .ref x_log, .ref x_trial, .ref x_stages, .int 0, .int 0, .int 0])), (x_ta_bytes, .inl (cI, 100, .inl (fun _ => 0))), (x_bo_asked, .inl (cI, 160, .inl (fun _ => 0))), (x_bo_signs, .inl (cI, 160, .inl (fun _ => 0))), (x_bo_numbers, .inl (cI, 160, .inl (fun _ => 0))), (x_bo_paces, .inl (cI, 160, .inl (fun _ => 0))), (x_reader, .inr (2, [.int 0, .int 0, .int 0, .int 0, .int 0])), (x_tape, .inr (8, [.int 0, .ref x_ta_bytes])), (x_book, .inr (1, [.ref x_bo_clauses, .ref x_bo_asked, .ref x_bo_signs, .ref x_bo_numbers, .ref x_bo_paces])), (x_bo_clauses, .inl (cI, 10, .inl pf2_3))] H := hP
    have hD : va_D A [(h0, .inr (9, [.ref x_riders, .ref x_road, .ref x_tape, .ref x_book, .ref x_reader, .ref x_latest, .ref x_log, .ref x_trial, .ref x_stages, .int 0, .int 0, .int 0])), (x_ta_bytes, .inl (cI, 100, .inl (fun _ => 0))), (x_bo_asked, .inl (cI, 160, .inl (fun _ => 0))), (x_bo_signs, .inl (cI, 160, .inl (fun _ => 0))), (x_bo_numbers, .inl (cI, 160, .inl (fun _ => 0))), (x_bo_paces, .inl (cI, 160, .inl (fun _ => 0))), (x_reader, .inr (2, [.int 0, .int 0, .int 0, .int 0, .int 0])), (x_tape, .inr (8, [.int 0, .ref x_ta_bytes])), (x_book, .inr (1, [.ref x_bo_clauses, .ref x_bo_asked, .ref x_bo_signs, .ref x_bo_numbers, .ref x_bo_paces])), (x_bo_clauses, .inl (cI, 10, .inl pf2_3))] := hD
    have hf_4 : r_2.toInt = -1 := hf_4
    obtain rfl : r_2 = (-1) := Int32.toInt_inj.mp (hf_4.trans (by decide))
    refine lv_iconst (v := (-1)) hx hb dX9_choice_23 (by decide) ?_
    refine lv_icmp_eq (tgt := 29) hx hb dX9_choice_24 (by decide) (fun c_5 => ?_) (fun c_5 => ?_)
    ·
      refine lv_aload_n hx hb dX9_choice_29 rfl (lv_at hl 0 rfl) ?_
      refine va_get (D := (dC, dI)) (ci := 9) (v := .ref x_book) (C := RX9) (T := TX9) (N := 12) hx hb hts hiX9 hown hK hP 0 rfl rfl 3 (by decide) hw3 (fun _ h9 => h9) rfl dX9_choice_30 ?_
      refine lv_iconst (v := 5) hx hb dX9_choice_33 (by decide) ?_
      refine lv_aload_n hx hb dX9_choice_34 rfl (lv_at hl 0 rfl) ?_
      refine va_get (D := (dC, dI)) (ci := 9) (v := .int 0) (C := RX9) (T := TX9) (N := 12) hx hb hts hiX9 hown hK hP 0 rfl rfl 9 (by decide) hw0 (fun _ h9 => h9) rfl dX9_choice_35 ?_
      refine lv_iadd hx hb dX9_choice_38 ?_
      refine lv_topi (fun v_6 ev_6 => ?_)
      obtain rfl : v_6 = 5 := ev_6.trans (by decide)
      have hPc := hP.sub (ws' := [(x_book, .inr (1, [.ref x_bo_clauses, .ref x_bo_asked, .ref x_bo_signs, .ref x_bo_numbers, .ref x_bo_paces])), (x_bo_clauses, .inl (cI, 10, .inl pf2_3)), (x_bo_asked, .inl (cI, 160, .inl (fun _ => 0))), (x_bo_signs, .inl (cI, 160, .inl (fun _ => 0))), (x_bo_numbers, .inl (cI, 160, .inl (fun _ => 0))), (x_bo_paces, .inl (cI, 160, .inl (fun _ => 0)))]) [8, 9, 2, 3, 4, 5] rfl
      have hDc := hD.sub (ws' := [(x_book, .inr (1, [.ref x_bo_clauses, .ref x_bo_asked, .ref x_bo_signs, .ref x_bo_numbers, .ref x_bo_paces])), (x_bo_clauses, .inl (cI, 10, .inl pf2_3)), (x_bo_asked, .inl (cI, 160, .inl (fun _ => 0))), (x_bo_signs, .inl (cI, 160, .inl (fun _ => 0))), (x_bo_numbers, .inl (cI, 160, .inl (fun _ => 0))), (x_bo_paces, .inl (cI, 160, .inl (fun _ => 0)))]) [8, 9, 2, 3, 4, 5] (by decide) rfl
      have hFc := va_free (wc := [(x_book, .inr (1, [.ref x_bo_clauses, .ref x_bo_asked, .ref x_bo_signs, .ref x_bo_numbers, .ref x_bo_paces])), (x_bo_clauses, .inl (cI, 10, .inl pf2_3)), (x_bo_asked, .inl (cI, 160, .inl (fun _ => 0))), (x_bo_signs, .inl (cI, 160, .inl (fun _ => 0))), (x_bo_numbers, .inl (cI, 160, .inl (fun _ => 0))), (x_bo_paces, .inl (cI, 160, .inl (fun _ => 0)))]) hD hS hA [8, 9, 2, 3, 4, 5] rfl
      refine va_callv (va_runV (As := [.int 5]) (rest := []) ⟨hx, hb, hml, hown, hts⟩ (c_X1_takeDraft l dC dI cI cZ (H).size x_book x_bo_clauses x_bo_asked x_bo_signs x_bo_numbers x_bo_paces pf2_3 (fun _ => 0) (fun _ => 0) (fun _ => 0) (fun _ => 0) 5 (5:Int) (by decide) (by omega) (by omega)) ⟨callB_of 1 hts (zz_good zw_500) rfl rfl rfl hw8 hw9 (by decide +kernel) ⟨Nat.le_of_ble_eq_true rfl, Nat.le_of_ble_eq_true rfl⟩, hw10, hw11⟩ ⟨fun a U g mk q => by obtain ⟨q0, q1, qP, qK, qD⟩ := q; exact ⟨q0, q1, qP, va_K.moved (u := U) (U := U.calling g mk a) (Vm.Alike.refl U.vm) qK, qD⟩, va_recv hK hPc (ci := 1) (q0 := 0) rfl rfl, fun U hU hW => ⟨rfl, by rw [hU], by rw [hU]; exact hPc, va_K.moved hW.alike hK, hDc.weaken (fun _ _ _ _ => trivial)⟩⟩ rfl rfl hl.1 rfl (lv_room (Nat.le_of_ble_eq_true rfl)) dX9_choice_39 ⟨Nat.le_of_ble_eq_true rfl, Nat.le_of_ble_eq_true rfl⟩) hS (fun q _ h => hFc q h) hFc (fun u t H1 locs ht hvm hpost hB hz1 hk1 hS => ?_)
      obtain ⟨gclauses_7, gasked_8, gsigns_9, gnumbers_10, gpaces_11, hP1, hK1, hD1⟩ := hB
      rw [ht] at hP1
      obtain ⟨hP, hD⟩ := va_join (wr := [(h0, .inr (9, [.ref x_riders, .ref x_road, .ref x_tape, .ref x_book, .ref x_reader, .ref x_latest, .ref x_log, .ref x_trial, .ref x_stages, .int 0, .int 0, .int 0])), (x_ta_bytes, .inl (cI, 100, .inl (fun _ => 0))), (x_reader, .inr (2, [.int 0, .int 0, .int 0, .int 0, .int 0])), (x_tape, .inr (8, [.int 0, .ref x_ta_bytes]))]) (w1 := [(x_book, .inr (1, [.ref x_bo_clauses, .ref x_bo_asked, .ref x_bo_signs, .ref x_bo_numbers, .ref x_bo_paces])), (x_bo_clauses, .inl (cI, 10, .inl gclauses_7)), (x_bo_asked, .inl (cI, 160, .inl gasked_8)), (x_bo_signs, .inl (cI, 160, .inl gsigns_9)), (x_bo_numbers, .inl (cI, 160, .inl gnumbers_10)), (x_bo_paces, .inl (cI, 160, .inl gpaces_11))]) hP hD [8, 9, 2, 3, 4, 5] [0, 1, 6, 7] rfl rfl (by decide) (by decide) hk1 hFc hP1 hD1
      generalize H1 = H at hP hS ⊢
      have hP : va_P (dC, dI) vwCl [(h0, .inr (9, [.ref x_riders, .ref x_road, .ref x_tape, .ref x_book, .ref x_reader, .ref x_latest, .ref x_log, .ref x_trial, .ref x_stages, .int 0, .int 0, .int 0])), (x_ta_bytes, .inl (cI, 100, .inl (fun _ => 0))), (x_reader, .inr (2, [.int 0, .int 0, .int 0, .int 0, .int 0])), (x_tape, .inr (8, [.int 0, .ref x_ta_bytes])), (x_book, .inr (1, [.ref x_bo_clauses, .ref x_bo_asked, .ref x_bo_signs, .ref x_bo_numbers, .ref x_bo_paces])), (x_bo_clauses, .inl (cI, 10, .inl gclauses_7)), (x_bo_asked, .inl (cI, 160, .inl gasked_8)), (x_bo_signs, .inl (cI, 160, .inl gsigns_9)), (x_bo_numbers, .inl (cI, 160, .inl gnumbers_10)), (x_bo_paces, .inl (cI, 160, .inl gpaces_11))] H := hP
      have hD : va_D A [(h0, .inr (9, [.ref x_riders, .ref x_road, .ref x_tape, .ref x_book, .ref x_reader, .ref x_latest, .ref x_log, .ref x_trial, .ref x_stages, .int 0, .int 0, .int 0])), (x_ta_bytes, .inl (cI, 100, .inl (fun _ => 0))), (x_reader, .inr (2, [.int 0, .int 0, .int 0, .int 0, .int 0])), (x_tape, .inr (8, [.int 0, .ref x_ta_bytes])), (x_book, .inr (1, [.ref x_bo_clauses, .ref x_bo_asked, .ref x_bo_signs, .ref x_bo_numbers, .ref x_bo_paces])), (x_bo_clauses, .inl (cI, 10, .inl gclauses_7)), (x_bo_asked, .inl (cI, 160, .inl gasked_8)), (x_bo_signs, .inl (cI, 160, .inl gsigns_9)), (x_bo_numbers, .inl (cI, 160, .inl gnumbers_10)), (x_bo_paces, .inl (cI, 160, .inl gpaces_11))] := hD
      refine lv_aload_n hx hb dX9_choice_42 rfl (lv_at hl 0 rfl) ?_
      refine va_get (D := (dC, dI)) (ci := 9) (v := .ref x_tape) (C := RX9) (T := TX9) (N := 12) hx hb hts hiX9 hown hK hP 0 rfl rfl 2 (by decide) hw2 (fun _ h9 => h9) rfl dX9_choice_43 ?_
      refine lv_iconst (v := 0) hx hb dX9_choice_46 (by decide) ?_
      refine va_put (D := (dC, dI)) (ci := 8) (v := .int 0) (ty := .int) (C := RX8) (T := TX8) (N := 2) hx hb hts hiX8 tyX8 tyX8_ok nmX8 hown hK hP hD hS 3 rfl rfl 0 (by decide) hw12 (fun _ h9 => h9) rfl (by decide +kernel) rfl rfl (Nat.le_of_ble_eq_true rfl) dX9_choice_47 (fun H locs hP hD hS => ?_)
      have hP : va_P (dC, dI) vwCl [(h0, .inr (9, [.ref x_riders, .ref x_road, .ref x_tape, .ref x_book, .ref x_reader, .ref x_latest, .ref x_log, .ref x_trial, .ref x_stages, .int 0, .int 0, .int 0])), (x_ta_bytes, .inl (cI, 100, .inl (fun _ => 0))), (x_reader, .inr (2, [.int 0, .int 0, .int 0, .int 0, .int 0])), (x_tape, .inr (8, [.int 0, .ref x_ta_bytes])), (x_book, .inr (1, [.ref x_bo_clauses, .ref x_bo_asked, .ref x_bo_signs, .ref x_bo_numbers, .ref x_bo_paces])), (x_bo_clauses, .inl (cI, 10, .inl gclauses_7)), (x_bo_asked, .inl (cI, 160, .inl gasked_8)), (x_bo_signs, .inl (cI, 160, .inl gsigns_9)), (x_bo_numbers, .inl (cI, 160, .inl gnumbers_10)), (x_bo_paces, .inl (cI, 160, .inl gpaces_11))] H := hP
      have hD : va_D A [(h0, .inr (9, [.ref x_riders, .ref x_road, .ref x_tape, .ref x_book, .ref x_reader, .ref x_latest, .ref x_log, .ref x_trial, .ref x_stages, .int 0, .int 0, .int 0])), (x_ta_bytes, .inl (cI, 100, .inl (fun _ => 0))), (x_reader, .inr (2, [.int 0, .int 0, .int 0, .int 0, .int 0])), (x_tape, .inr (8, [.int 0, .ref x_ta_bytes])), (x_book, .inr (1, [.ref x_bo_clauses, .ref x_bo_asked, .ref x_bo_signs, .ref x_bo_numbers, .ref x_bo_paces])), (x_bo_clauses, .inl (cI, 10, .inl gclauses_7)), (x_bo_asked, .inl (cI, 160, .inl gasked_8)), (x_bo_signs, .inl (cI, 160, .inl gsigns_9)), (x_bo_numbers, .inl (cI, 160, .inl gnumbers_10)), (x_bo_paces, .inl (cI, 160, .inl gpaces_11))] := hD
      refine lv_aload_n hx hb dX9_choice_50 rfl (lv_at hl 0 rfl) ?_
      refine lv_dup hx hb dX9_choice_51 rfl ?_
      refine va_get (D := (dC, dI)) (ci := 9) (v := .int 0) (C := RX9) (T := TX9) (N := 12) hx hb hts hiX9 hown hK hP 0 rfl rfl 9 (by decide) hw0 (fun _ h9 => h9) rfl dX9_choice_52 ?_
      refine lv_iconst (v := 1) hx hb dX9_choice_55 (by decide) ?_
      refine lv_iadd hx hb dX9_choice_56 ?_
      refine lv_topi (fun v_12 ev_12 => ?_)
      obtain rfl : v_12 = 1 := ev_12.trans (by decide)
      refine va_put (D := (dC, dI)) (ci := 9) (v := .int 1) (ty := .int) (C := RX9) (T := TX9) (N := 12) hx hb hts hiX9 tyX9 tyX9_ok nmX9 hown hK hP hD hS 0 rfl rfl 9 (by decide) hw0 (fun _ h9 => h9) rfl (by decide +kernel) rfl rfl (Nat.le_of_ble_eq_true rfl) dX9_choice_57 (fun H locs hP hD hS => ?_)
      have hP : va_P (dC, dI) vwCl [(h0, .inr (9, [.ref x_riders, .ref x_road, .ref x_tape, .ref x_book, .ref x_reader, .ref x_latest, .ref x_log, .ref x_trial, .ref x_stages, .int 1, .int 0, .int 0])), (x_ta_bytes, .inl (cI, 100, .inl (fun _ => 0))), (x_reader, .inr (2, [.int 0, .int 0, .int 0, .int 0, .int 0])), (x_tape, .inr (8, [.int 0, .ref x_ta_bytes])), (x_book, .inr (1, [.ref x_bo_clauses, .ref x_bo_asked, .ref x_bo_signs, .ref x_bo_numbers, .ref x_bo_paces])), (x_bo_clauses, .inl (cI, 10, .inl gclauses_7)), (x_bo_asked, .inl (cI, 160, .inl gasked_8)), (x_bo_signs, .inl (cI, 160, .inl gsigns_9)), (x_bo_numbers, .inl (cI, 160, .inl gnumbers_10)), (x_bo_paces, .inl (cI, 160, .inl gpaces_11))] H := hP
      have hD : va_D A [(h0, .inr (9, [.ref x_riders, .ref x_road, .ref x_tape, .ref x_book, .ref x_reader, .ref x_latest, .ref x_log, .ref x_trial, .ref x_stages, .int 1, .int 0, .int 0])), (x_ta_bytes, .inl (cI, 100, .inl (fun _ => 0))), (x_reader, .inr (2, [.int 0, .int 0, .int 0, .int 0, .int 0])), (x_tape, .inr (8, [.int 0, .ref x_ta_bytes])), (x_book, .inr (1, [.ref x_bo_clauses, .ref x_bo_asked, .ref x_bo_signs, .ref x_bo_numbers, .ref x_bo_paces])), (x_bo_clauses, .inl (cI, 10, .inl gclauses_7)), (x_bo_asked, .inl (cI, 160, .inl gasked_8)), (x_bo_signs, .inl (cI, 160, .inl gsigns_9)), (x_bo_numbers, .inl (cI, 160, .inl gnumbers_10)), (x_bo_paces, .inl (cI, 160, .inl gpaces_11))] := hD
      refine lv_aload_n hx hb dX9_choice_60 rfl (lv_at hl 0 rfl) ?_
      refine va_get (D := (dC, dI)) (ci := 9) (v := .int 1) (C := RX9) (T := TX9) (N := 12) hx hb hts hiX9 hown hK hP 0 rfl rfl 9 (by decide) hw0 (fun _ h9 => h9) rfl dX9_choice_61 ?_
      refine lv_iconst (v := 1) hx hb dX9_choice_64 (by decide) ?_
      refine lv_isub hx hb dX9_choice_65 ?_
      refine lv_topi (fun v_13 ev_13 => ?_)
      obtain rfl : v_13 = 0 := ev_13.trans (by decide)
      have hP9 := hP.sub (ws' := []) [] rfl
      have hD9 := hD.sub (ws' := []) [] (by decide) rfl
      refine W.widen (k := 0) (n := 0) (Nat.le_of_ble_eq_true rfl) (Nat.le_of_ble_eq_true rfl) ?_
      have hu9 : (0 : Int32).toInt = (0:Int) := (by decide)
      have hf9_0 : (0 : Int32).toInt = 0 := by omega
      exact W.iret (v := 0) hx hb hr (fun t ht hW => ⟨⟨0, 0, rfl, rfl, hf9_0, by rw [ht]; exact hP9, va_K.moved hW.alike hK, hD9⟩, hS.F ht⟩) hS.2.2 dX9_choice_66
    ·
      exact absurd c_5 (by decide)

set_option maxHeartbeats 4000000 in
set_option maxRecDepth 100000 in
theorem c_X9_race (l : Launch) (dC : Nat → ClassId) (dI : Nat → Nat → Nat) (cI cZ : ClassId) (sz : Nat) (h0 : Nat) (x_riders : Nat) (x_road : Nat) (x_tape : Nat) (x_book : Nat) (x_reader : Nat) (x_latest : Nat) (x_log : Nat) (x_trial : Nat) (x_stages : Nat) (x_ri_teams : Nat) (x_ri_steady : Nat) (x_ri_full : Nat) (x_ri_climb : Nat) (pSeed : Int64) : Met l yX9_race (Cond.code yX9_race cX9_race 4 (some .int) :: lw_good) ({ frames := 0, cells := 0, slots := 0, locals := 0 }) (va_Pc [.ref h0, .long pSeed] (fun U => U.heap.size = sz ∧ va_P (dC, dI) vwCl [(h0, .inr (9, [.ref x_riders, .ref x_road, .ref x_tape, .ref x_book, .ref x_reader, .ref x_latest, .ref x_log, .ref x_trial, .ref x_stages, .int 0, .int 0, .int 0])), (x_riders, .inr (5, [.int 0, .ref x_ri_teams, .ref x_ri_steady, .ref x_ri_full, .ref x_ri_climb]))] U.heap ∧ va_K (dC, dI) vwCl [(cI, .int), (cZ, .boolean)] U ∧ va_D (fun _ => True) [(h0, .inr (9, [.ref x_riders, .ref x_road, .ref x_tape, .ref x_book, .ref x_reader, .ref x_latest, .ref x_log, .ref x_trial, .ref x_stages, .int 0, .int 0, .int 0])), (x_riders, .inr (5, [.int 0, .ref x_ri_teams, .ref x_ri_steady, .ref x_ri_full, .ref x_ri_climb]))])) (va_Qi (fun (r u : Int32) => r = u) (fun u t => (u.toInt = -1) ∧ va_P (dC, dI) vwCl [] t.heap ∧ va_K (dC, dI) vwCl [(cI, .int), (cZ, .boolean)] t ∧ va_D (va_A [(h0, .inr (9, [.ref x_riders, .ref x_road, .ref x_tape, .ref x_book, .ref x_reader, .ref x_latest, .ref x_log, .ref x_trial, .ref x_stages, .int 0, .int 0, .int 0])), (x_riders, .inr (5, [.int 0, .ref x_ri_teams, .ref x_ri_steady, .ref x_ri_full, .ref x_ri_climb]))] sz) []) (va_A [(h0, .inr (9, [.ref x_riders, .ref x_road, .ref x_tape, .ref x_book, .ref x_reader, .ref x_latest, .ref x_log, .ref x_trial, .ref x_stages, .int 0, .int 0, .int 0])), (x_riders, .inr (5, [.int 0, .ref x_ri_teams, .ref x_ri_steady, .ref x_ri_full, .ref x_ri_climb]))] sz)) 0 0 (va_A [(h0, .inr (9, [.ref x_riders, .ref x_road, .ref x_tape, .ref x_book, .ref x_reader, .ref x_latest, .ref x_log, .ref x_trial, .ref x_stages, .int 0, .int 0, .int 0])), (x_riders, .inr (5, [.int 0, .ref x_ri_teams, .ref x_ri_steady, .ref x_ri_full, .ref x_ri_climb]))] sz) := by
  refine Met.ofW (cc := cX9_race) (maxL := 4) (ret := (some .int)) (by decide) rfl ?_
  intro p e s m args below meth c s₁ B hml hv
  obtain ⟨rfl, hsz, hP, hK, hD0⟩ := hv
  have hx := B.exec
  have hb := B.bytes
  have hr := B.returns
  have hts := atoms_spec (ws := Cond.code yX9_race cX9_race 4 (some .int) :: lw_good) B.pre
  have hown : s.vm.findClass RX9 = some m.cls := findClass_of_methodNamed B.named
  have hlocks := B.notSynchronized
  have hiX5 : ∀ w ∈ wsX50, w ∈ (Cond.code yX9_race cX9_race 4 (some .int) :: lw_good) := fun w h => List.mem_cons_of_mem _ (zi_X5 w h)
  have hiX9 : ∀ w ∈ wsX90, w ∈ (Cond.code yX9_race cX9_race 4 (some .int) :: lw_good) := fun w h => List.mem_cons_of_mem _ (zi_X9 w h)
  have hw0 := hts (.fieldLink RX9 12 "BunchRace" "riders" "LBunchRace$Riders;") (List.mem_cons_of_mem _ zw_334)
  have hw1 := hts (.fieldLink RX9 122 "BunchRace$Riders" "number" "I") (List.mem_cons_of_mem _ zw_77)
  subst hsz
  have hD := hD0.self (sz := s.heap.size)
  generalize hAe : va_A [(h0, .inr (9, [.ref x_riders, .ref x_road, .ref x_tape, .ref x_book, .ref x_reader, .ref x_latest, .ref x_log, .ref x_trial, .ref x_stages, .int 0, .int 0, .int 0])), (x_riders, .inr (5, [.int 0, .ref x_ri_teams, .ref x_ri_steady, .ref x_ri_full, .ref x_ri_climb]))] s.heap.size = A at hD ⊢
  have hA : ∀ q : Nat, s.heap.size ≤ q → A q := fun q h => by rw [← hAe]; exact Or.inr h
  have hS : va_S A s.heap s.heap [] := va_S.rf
  have hP : va_P (dC, dI) vwCl [(h0, .inr (9, [.ref x_riders, .ref x_road, .ref x_tape, .ref x_book, .ref x_reader, .ref x_latest, .ref x_log, .ref x_trial, .ref x_stages, .int 0, .int 0, .int 0])), (x_riders, .inr (5, [.int 0, .ref x_ri_teams, .ref x_ri_steady, .ref x_ri_full, .ref x_ri_climb]))] s.heap := hP
  have hl := lv_entry ([.ref h0, .long pSeed]) (n := 4) (Nat.le_of_ble_eq_true rfl)
  rw [lg_entry_eq]
  generalize (lg_sl ([.ref h0, .long pSeed]) ++ List.replicate (4 - (lg_sl ([.ref h0, .long pSeed])).length) Slot.unset).toArray = ls at hl ⊢
  have hl : lv_has ls 4 [(0, .ref h0), (1, .long pSeed)] := hl
  refine lv_aload_n hx hb dX9_race_0 rfl (lv_at hl 0 rfl) ?_
  refine va_get (D := (dC, dI)) (ci := 9) (v := .ref x_riders) (C := RX9) (T := TX9) (N := 12) hx hb hts hiX9 hown hK hP 0 rfl rfl 0 (by decide) hw0 (fun _ h9 => h9) rfl dX9_race_1 ?_
  refine va_get (D := (dC, dI)) (ci := 5) (v := .int 0) (C := RX5) (T := TX5) (N := 5) hx hb hts hiX5 hown hK hP 1 rfl rfl 0 (by decide) hw1 (fun _ h9 => h9) rfl dX9_race_4 ?_
  refine lv_if_ne (tgt := 12) hx hb dX9_race_7 (by decide) (fun c_1 => ?_) (fun c_1 => ?_)
  ·
    exact absurd c_1 (by decide)
  ·
    refine lv_iconst (v := (-1)) hx hb dX9_race_10 (by decide) ?_
    have hP9 := hP.sub (ws' := []) [] rfl
    have hD9 := hD.sub (ws' := []) [] (by decide) rfl
    refine W.widen (k := 0) (n := 0) (Nat.le_of_ble_eq_true rfl) (Nat.le_of_ble_eq_true rfl) ?_
    have hu9 : ((-1) : Int32).toInt = (-1:Int) := (by decide)
    have hf9_0 : ((-1) : Int32).toInt = -1 := by omega
    exact W.iret (v := (-1)) hx hb hr (fun t ht hW => ⟨⟨(-1), (-1), rfl, rfl, hf9_0, by rw [ht]; exact hP9, va_K.moved hW.alike hK, hD9⟩, hS.F ht⟩) hS.2.2 dX9_race_11

set_option maxHeartbeats 4000000 in
set_option maxRecDepth 100000 in
theorem c_X9_rodeLatest (l : Launch) (dC : Nat → ClassId) (dI : Nat → Nat → Nat) (cI cZ : ClassId) (sz : Nat) (h0 : Nat) (x_riders : Nat) (x_road : Nat) (x_tape : Nat) (x_book : Nat) (x_reader : Nat) (x_latest : Nat) (x_log : Nat) (x_trial : Nat) (x_stages : Nat) (pR : Int32) (pR_i : Int) (pR_h : pR.toInt = pR_i) : Met l yX9_rodeLatest (Cond.code yX9_rodeLatest cX9_rodeLatest 2 (some .boolean) :: lw_good) ({ frames := 0, cells := 0, slots := 0, locals := 0 }) (va_Pc [.ref h0, .int pR] (fun U => U.heap.size = sz ∧ va_P (dC, dI) vwCl [(h0, .inr (9, [.ref x_riders, .ref x_road, .ref x_tape, .ref x_book, .ref x_reader, .ref x_latest, .ref x_log, .ref x_trial, .ref x_stages, .int 0, .int 0, .int 0]))] U.heap ∧ va_K (dC, dI) vwCl [(cI, .int), (cZ, .boolean)] U ∧ va_D (fun _ => True) [(h0, .inr (9, [.ref x_riders, .ref x_road, .ref x_tape, .ref x_book, .ref x_reader, .ref x_latest, .ref x_log, .ref x_trial, .ref x_stages, .int 0, .int 0, .int 0]))])) (va_Qi (fun (r u : Int32) => r = u) (fun u t => (u.toInt = 0) ∧ va_P (dC, dI) vwCl [(h0, .inr (9, [.ref x_riders, .ref x_road, .ref x_tape, .ref x_book, .ref x_reader, .ref x_latest, .ref x_log, .ref x_trial, .ref x_stages, .int 0, .int 0, .int 0]))] t.heap ∧ va_K (dC, dI) vwCl [(cI, .int), (cZ, .boolean)] t ∧ va_D (va_A [(h0, .inr (9, [.ref x_riders, .ref x_road, .ref x_tape, .ref x_book, .ref x_reader, .ref x_latest, .ref x_log, .ref x_trial, .ref x_stages, .int 0, .int 0, .int 0]))] sz) [(h0, .inr (9, [.ref x_riders, .ref x_road, .ref x_tape, .ref x_book, .ref x_reader, .ref x_latest, .ref x_log, .ref x_trial, .ref x_stages, .int 0, .int 0, .int 0]))]) (va_A [(h0, .inr (9, [.ref x_riders, .ref x_road, .ref x_tape, .ref x_book, .ref x_reader, .ref x_latest, .ref x_log, .ref x_trial, .ref x_stages, .int 0, .int 0, .int 0]))] sz)) 0 0 (va_A [(h0, .inr (9, [.ref x_riders, .ref x_road, .ref x_tape, .ref x_book, .ref x_reader, .ref x_latest, .ref x_log, .ref x_trial, .ref x_stages, .int 0, .int 0, .int 0]))] sz) := by
  refine Met.ofW (cc := cX9_rodeLatest) (maxL := 2) (ret := (some .boolean)) (by decide) rfl ?_
  intro p e s m args below meth c s₁ B hml hv
  obtain ⟨rfl, hsz, hP, hK, hD0⟩ := hv
  have hx := B.exec
  have hb := B.bytes
  have hr := B.returns
  have hts := atoms_spec (ws := Cond.code yX9_rodeLatest cX9_rodeLatest 2 (some .boolean) :: lw_good) B.pre
  have hown : s.vm.findClass RX9 = some m.cls := findClass_of_methodNamed B.named
  have hlocks := B.notSynchronized
  have hiX9 : ∀ w ∈ wsX90, w ∈ (Cond.code yX9_rodeLatest cX9_rodeLatest 2 (some .boolean) :: lw_good) := fun w h => List.mem_cons_of_mem _ (zi_X9 w h)
  have hw0 := hts (.fieldLink RX9 72 "BunchRace" "raced" "Z") (List.mem_cons_of_mem _ zw_344)
  subst hsz
  have hD := hD0.self (sz := s.heap.size)
  generalize hAe : va_A [(h0, .inr (9, [.ref x_riders, .ref x_road, .ref x_tape, .ref x_book, .ref x_reader, .ref x_latest, .ref x_log, .ref x_trial, .ref x_stages, .int 0, .int 0, .int 0]))] s.heap.size = A at hD ⊢
  have hA : ∀ q : Nat, s.heap.size ≤ q → A q := fun q h => by rw [← hAe]; exact Or.inr h
  have hS : va_S A s.heap s.heap [] := va_S.rf
  have hP : va_P (dC, dI) vwCl [(h0, .inr (9, [.ref x_riders, .ref x_road, .ref x_tape, .ref x_book, .ref x_reader, .ref x_latest, .ref x_log, .ref x_trial, .ref x_stages, .int 0, .int 0, .int 0]))] s.heap := hP
  have hl := lv_entry ([.ref h0, .int pR]) (n := 2) (Nat.le_of_ble_eq_true rfl)
  rw [lg_entry_eq]
  generalize (lg_sl ([.ref h0, .int pR]) ++ List.replicate (2 - (lg_sl ([.ref h0, .int pR])).length) Slot.unset).toArray = ls at hl ⊢
  have hl : lv_has ls 2 [(0, .ref h0), (1, .int pR)] := hl
  refine lv_aload_n hx hb dX9_rodeLatest_0 rfl (lv_at hl 0 rfl) ?_
  refine va_get (D := (dC, dI)) (ci := 9) (v := .int 0) (C := RX9) (T := TX9) (N := 12) hx hb hts hiX9 hown hK hP 0 rfl rfl 10 (by decide) hw0 (fun _ h9 => h9) rfl dX9_rodeLatest_1 ?_
  refine lv_if_eq (tgt := 33) hx hb dX9_rodeLatest_4 (by decide) (fun c_1 => ?_) (fun c_1 => ?_)
  ·
    refine lv_iconst (v := 0) hx hb dX9_rodeLatest_33 (by decide) ?_
    have hP9 := hP.sub (ws' := [(h0, .inr (9, [.ref x_riders, .ref x_road, .ref x_tape, .ref x_book, .ref x_reader, .ref x_latest, .ref x_log, .ref x_trial, .ref x_stages, .int 0, .int 0, .int 0]))]) [0] rfl
    have hD9 := hD.sub (ws' := [(h0, .inr (9, [.ref x_riders, .ref x_road, .ref x_tape, .ref x_book, .ref x_reader, .ref x_latest, .ref x_log, .ref x_trial, .ref x_stages, .int 0, .int 0, .int 0]))]) [0] (by decide) rfl
    refine W.widen (k := 0) (n := 0) (Nat.le_of_ble_eq_true rfl) (Nat.le_of_ble_eq_true rfl) ?_
    have hu9 : (0 : Int32).toInt = (0:Int) := (by decide)
    have hf9_0 : (0 : Int32).toInt = 0 := by omega
    exact W.zret (v := 0) hx hb hr rfl (fun t ht hW => ⟨⟨0, 0, rfl, rfl, hf9_0, by rw [ht]; exact hP9, va_K.moved hW.alike hK, hD9⟩, hS.F ht⟩) hS.2.2 dX9_rodeLatest_34
  ·
    exact absurd c_1 (by decide)

set_option maxHeartbeats 4000000 in
set_option maxRecDepth 100000 in
theorem c_X9_told (l : Launch) (dC : Nat → ClassId) (dI : Nat → Nat → Nat) (cI cZ : ClassId) (sz : Nat) (h0 : Nat) (x_riders : Nat) (x_road : Nat) (x_tape : Nat) (x_book : Nat) (x_reader : Nat) (x_latest : Nat) (x_log : Nat) (x_trial : Nat) (x_stages : Nat) (pR : Int32) (pR_i : Int) (pR_h : pR.toInt = pR_i) (pW : Int32) (pW_i : Int) (pW_h : pW.toInt = pW_i) : Met l yX9_told (Cond.code yX9_told cX9_told 3 (some .int) :: lw_good) ({ frames := 1, cells := 0, slots := 0, locals := 21 }) (va_Pc [.ref h0, .int pR, .int pW] (fun U => U.heap.size = sz ∧ va_P (dC, dI) vwCl [(h0, .inr (9, [.ref x_riders, .ref x_road, .ref x_tape, .ref x_book, .ref x_reader, .ref x_latest, .ref x_log, .ref x_trial, .ref x_stages, .int 0, .int 0, .int 0]))] U.heap ∧ va_K (dC, dI) vwCl [(cI, .int), (cZ, .boolean)] U ∧ va_D (fun _ => True) [(h0, .inr (9, [.ref x_riders, .ref x_road, .ref x_tape, .ref x_book, .ref x_reader, .ref x_latest, .ref x_log, .ref x_trial, .ref x_stages, .int 0, .int 0, .int 0]))])) (va_Qi (fun (r u : Int32) => r = u) (fun u t => (u.toInt = -1) ∧ va_P (dC, dI) vwCl [] t.heap ∧ va_K (dC, dI) vwCl [(cI, .int), (cZ, .boolean)] t ∧ va_D (va_A [(h0, .inr (9, [.ref x_riders, .ref x_road, .ref x_tape, .ref x_book, .ref x_reader, .ref x_latest, .ref x_log, .ref x_trial, .ref x_stages, .int 0, .int 0, .int 0]))] sz) []) (va_A [(h0, .inr (9, [.ref x_riders, .ref x_road, .ref x_tape, .ref x_book, .ref x_reader, .ref x_latest, .ref x_log, .ref x_trial, .ref x_stages, .int 0, .int 0, .int 0]))] sz)) 0 0 (va_A [(h0, .inr (9, [.ref x_riders, .ref x_road, .ref x_tape, .ref x_book, .ref x_reader, .ref x_latest, .ref x_log, .ref x_trial, .ref x_stages, .int 0, .int 0, .int 0]))] sz) := by
  refine Met.ofW (cc := cX9_told) (maxL := 3) (ret := (some .int)) (by decide) rfl ?_
  intro p e s m args below meth c s₁ B hml hv
  obtain ⟨rfl, hsz, hP, hK, hD0⟩ := hv
  have hx := B.exec
  have hb := B.bytes
  have hr := B.returns
  have hts := atoms_spec (ws := Cond.code yX9_told cX9_told 3 (some .int) :: lw_good) B.pre
  have hown : s.vm.findClass RX9 = some m.cls := findClass_of_methodNamed B.named
  have hlocks := B.notSynchronized
  have hw0 := hts (.initialized RX9) (List.mem_cons_of_mem _ zw_48)
  have hw1 := hts (.methodLink RX9 145 yX9_rodeLatest) (List.mem_cons_of_mem _ zw_599)
  have hw2 := hts (.instanceMethod yX9_rodeLatest) (List.mem_cons_of_mem _ zw_601)
  have hw3 := hts (.selects RX9 yX9_rodeLatest yX9_rodeLatest) (List.mem_cons_of_mem _ zw_16)
  subst hsz
  have hD := hD0.self (sz := s.heap.size)
  generalize hAe : va_A [(h0, .inr (9, [.ref x_riders, .ref x_road, .ref x_tape, .ref x_book, .ref x_reader, .ref x_latest, .ref x_log, .ref x_trial, .ref x_stages, .int 0, .int 0, .int 0]))] s.heap.size = A at hD ⊢
  have hA : ∀ q : Nat, s.heap.size ≤ q → A q := fun q h => by rw [← hAe]; exact Or.inr h
  have hS : va_S A s.heap s.heap [] := va_S.rf
  have hP : va_P (dC, dI) vwCl [(h0, .inr (9, [.ref x_riders, .ref x_road, .ref x_tape, .ref x_book, .ref x_reader, .ref x_latest, .ref x_log, .ref x_trial, .ref x_stages, .int 0, .int 0, .int 0]))] s.heap := hP
  have hl := lv_entry ([.ref h0, .int pR, .int pW]) (n := 3) (Nat.le_of_ble_eq_true rfl)
  rw [lg_entry_eq]
  generalize (lg_sl ([.ref h0, .int pR, .int pW]) ++ List.replicate (3 - (lg_sl ([.ref h0, .int pR, .int pW])).length) Slot.unset).toArray = ls at hl ⊢
  have hl : lv_has ls 3 [(0, .ref h0), (1, .int pR), (2, .int pW)] := hl
  refine lv_aload_n hx hb dX9_told_0 rfl (lv_at hl 0 rfl) ?_
  refine lv_iload_n hx hb dX9_told_1 rfl (lv_at hl 1 rfl) ?_
  have hPc := hP.sub (ws' := [(h0, .inr (9, [.ref x_riders, .ref x_road, .ref x_tape, .ref x_book, .ref x_reader, .ref x_latest, .ref x_log, .ref x_trial, .ref x_stages, .int 0, .int 0, .int 0]))]) [0] rfl
  have hDc := hD.sub (ws' := [(h0, .inr (9, [.ref x_riders, .ref x_road, .ref x_tape, .ref x_book, .ref x_reader, .ref x_latest, .ref x_log, .ref x_trial, .ref x_stages, .int 0, .int 0, .int 0]))]) [0] (by decide) rfl
  have hFc := va_free (wc := [(h0, .inr (9, [.ref x_riders, .ref x_road, .ref x_tape, .ref x_book, .ref x_reader, .ref x_latest, .ref x_log, .ref x_trial, .ref x_stages, .int 0, .int 0, .int 0]))]) hD hS hA [0] rfl
  refine va_calli (va_runV (As := [.int pR]) (rest := []) ⟨hx, hb, hml, hown, hts⟩ (c_X9_rodeLatest l dC dI cI cZ (s.heap).size h0 x_riders x_road x_tape x_book x_reader x_latest x_log x_trial x_stages pR pR_i pR_h) ⟨callB_of 1 hts (zz_good zw_602) rfl rfl rfl hw0 hw1 (by decide +kernel) ⟨Nat.le_of_ble_eq_true rfl, Nat.le_of_ble_eq_true rfl⟩, hw2, hw3⟩ ⟨fun a U g mk q => by obtain ⟨q0, q1, qP, qK, qD⟩ := q; exact ⟨q0, q1, qP, va_K.moved (u := U) (U := U.calling g mk a) (Vm.Alike.refl U.vm) qK, qD⟩, va_recv hK hPc (ci := 9) (q0 := 0) rfl rfl, fun U hU hW => ⟨rfl, by rw [hU], by rw [hU]; exact hPc, va_K.moved hW.alike hK, hDc.weaken (fun _ _ _ _ => trivial)⟩⟩ rfl rfl hl.1 rfl (lv_room (Nat.le_of_ble_eq_true rfl)) dX9_told_2 ⟨Nat.le_of_ble_eq_true rfl, Nat.le_of_ble_eq_true rfl⟩) hS (fun q _ h => hFc q h) hFc (fun r_1 u t H1 locs ht hvm hpost hB hz1 hk1 hS => ?_)
  subst hpost
  obtain ⟨hf_2, hP1, hK1, hD1⟩ := hB
  rw [ht] at hP1
  obtain ⟨hP, hD⟩ := va_join (wr := []) (w1 := [(h0, .inr (9, [.ref x_riders, .ref x_road, .ref x_tape, .ref x_book, .ref x_reader, .ref x_latest, .ref x_log, .ref x_trial, .ref x_stages, .int 0, .int 0, .int 0]))]) hP hD [0] [] rfl rfl (by decide) (by decide) hk1 hFc hP1 hD1
  generalize H1 = H at hP hS ⊢
  have hP : va_P (dC, dI) vwCl [(h0, .inr (9, [.ref x_riders, .ref x_road, .ref x_tape, .ref x_book, .ref x_reader, .ref x_latest, .ref x_log, .ref x_trial, .ref x_stages, .int 0, .int 0, .int 0]))] H := hP
  have hD : va_D A [(h0, .inr (9, [.ref x_riders, .ref x_road, .ref x_tape, .ref x_book, .ref x_reader, .ref x_latest, .ref x_log, .ref x_trial, .ref x_stages, .int 0, .int 0, .int 0]))] := hD
  have hf_2 : r_1.toInt = 0 := hf_2
  obtain rfl : r_1 = 0 := Int32.toInt_inj.mp (hf_2.trans (by decide))
  refine lv_if_ne (tgt := 10) hx hb dX9_told_5 (by decide) (fun c_3 => ?_) (fun c_3 => ?_)
  ·
    exact absurd c_3 (by decide)
  ·
    refine lv_iconst (v := (-1)) hx hb dX9_told_8 (by decide) ?_
    have hP9 := hP.sub (ws' := []) [] rfl
    have hD9 := hD.sub (ws' := []) [] (by decide) rfl
    refine W.widen (k := 0) (n := 0) (Nat.le_of_ble_eq_true rfl) (Nat.le_of_ble_eq_true rfl) ?_
    have hu9 : ((-1) : Int32).toInt = (-1:Int) := (by decide)
    have hf9_0 : ((-1) : Int32).toInt = -1 := by omega
    exact W.iret (v := (-1)) hx hb hr (fun t ht hW => ⟨⟨(-1), (-1), rfl, rfl, hf9_0, by rw [ht]; exact hP9, va_K.moved hW.alike hK, hD9⟩, hS.F ht⟩) hS.2.2 dX9_told_9

set_option maxHeartbeats 4000000 in
set_option maxRecDepth 100000 in
theorem c_X9_at (l : Launch) (dC : Nat → ClassId) (dI : Nat → Nat → Nat) (cI cZ : ClassId) (sz : Nat) (h0 : Nat) (x_riders : Nat) (x_road : Nat) (x_tape : Nat) (x_book : Nat) (x_reader : Nat) (x_latest : Nat) (x_log : Nat) (x_trial : Nat) (x_stages : Nat) (pR : Int32) (pR_i : Int) (pR_h : pR.toInt = pR_i) : Met l yX9_at (Cond.code yX9_at cX9_at 2 (some .int) :: lw_good) ({ frames := 0, cells := 0, slots := 0, locals := 0 }) (va_Pc [.ref h0, .int pR] (fun U => U.heap.size = sz ∧ va_P (dC, dI) vwCl [(h0, .inr (9, [.ref x_riders, .ref x_road, .ref x_tape, .ref x_book, .ref x_reader, .ref x_latest, .ref x_log, .ref x_trial, .ref x_stages, .int 0, .int 0, .int 0]))] U.heap ∧ va_K (dC, dI) vwCl [(cI, .int), (cZ, .boolean)] U ∧ va_D (fun _ => True) [(h0, .inr (9, [.ref x_riders, .ref x_road, .ref x_tape, .ref x_book, .ref x_reader, .ref x_latest, .ref x_log, .ref x_trial, .ref x_stages, .int 0, .int 0, .int 0]))])) (va_Qi (fun (r u : Int32) => r = u) (fun u t => (u.toInt = -1) ∧ va_P (dC, dI) vwCl [] t.heap ∧ va_K (dC, dI) vwCl [(cI, .int), (cZ, .boolean)] t ∧ va_D (va_A [(h0, .inr (9, [.ref x_riders, .ref x_road, .ref x_tape, .ref x_book, .ref x_reader, .ref x_latest, .ref x_log, .ref x_trial, .ref x_stages, .int 0, .int 0, .int 0]))] sz) []) (va_A [(h0, .inr (9, [.ref x_riders, .ref x_road, .ref x_tape, .ref x_book, .ref x_reader, .ref x_latest, .ref x_log, .ref x_trial, .ref x_stages, .int 0, .int 0, .int 0]))] sz)) 0 0 (va_A [(h0, .inr (9, [.ref x_riders, .ref x_road, .ref x_tape, .ref x_book, .ref x_reader, .ref x_latest, .ref x_log, .ref x_trial, .ref x_stages, .int 0, .int 0, .int 0]))] sz) := by
  refine Met.ofW (cc := cX9_at) (maxL := 2) (ret := (some .int)) (by decide) rfl ?_
  intro p e s m args below meth c s₁ B hml hv
  obtain ⟨rfl, hsz, hP, hK, hD0⟩ := hv
  have hx := B.exec
  have hb := B.bytes
  have hr := B.returns
  have hts := atoms_spec (ws := Cond.code yX9_at cX9_at 2 (some .int) :: lw_good) B.pre
  have hown : s.vm.findClass RX9 = some m.cls := findClass_of_methodNamed B.named
  have hlocks := B.notSynchronized
  have hiX9 : ∀ w ∈ wsX90, w ∈ (Cond.code yX9_at cX9_at 2 (some .int) :: lw_good) := fun w h => List.mem_cons_of_mem _ (zi_X9 w h)
  have hw0 := hts (.fieldLink RX9 72 "BunchRace" "raced" "Z") (List.mem_cons_of_mem _ zw_344)
  subst hsz
  have hD := hD0.self (sz := s.heap.size)
  generalize hAe : va_A [(h0, .inr (9, [.ref x_riders, .ref x_road, .ref x_tape, .ref x_book, .ref x_reader, .ref x_latest, .ref x_log, .ref x_trial, .ref x_stages, .int 0, .int 0, .int 0]))] s.heap.size = A at hD ⊢
  have hA : ∀ q : Nat, s.heap.size ≤ q → A q := fun q h => by rw [← hAe]; exact Or.inr h
  have hS : va_S A s.heap s.heap [] := va_S.rf
  have hP : va_P (dC, dI) vwCl [(h0, .inr (9, [.ref x_riders, .ref x_road, .ref x_tape, .ref x_book, .ref x_reader, .ref x_latest, .ref x_log, .ref x_trial, .ref x_stages, .int 0, .int 0, .int 0]))] s.heap := hP
  have hl := lv_entry ([.ref h0, .int pR]) (n := 2) (Nat.le_of_ble_eq_true rfl)
  rw [lg_entry_eq]
  generalize (lg_sl ([.ref h0, .int pR]) ++ List.replicate (2 - (lg_sl ([.ref h0, .int pR])).length) Slot.unset).toArray = ls at hl ⊢
  have hl : lv_has ls 2 [(0, .ref h0), (1, .int pR)] := hl
  refine lv_aload_n hx hb dX9_at_0 rfl (lv_at hl 0 rfl) ?_
  refine va_get (D := (dC, dI)) (ci := 9) (v := .int 0) (C := RX9) (T := TX9) (N := 12) hx hb hts hiX9 hown hK hP 0 rfl rfl 10 (by decide) hw0 (fun _ h9 => h9) rfl dX9_at_1 ?_
  refine lv_if_eq (tgt := 12) hx hb dX9_at_4 (by decide) (fun c_1 => ?_) (fun c_1 => ?_)
  ·
    refine lv_iconst (v := (-1)) hx hb dX9_at_12 (by decide) ?_
    have hP9 := hP.sub (ws' := []) [] rfl
    have hD9 := hD.sub (ws' := []) [] (by decide) rfl
    refine W.widen (k := 0) (n := 0) (Nat.le_of_ble_eq_true rfl) (Nat.le_of_ble_eq_true rfl) ?_
    have hu9 : ((-1) : Int32).toInt = (-1:Int) := (by decide)
    have hf9_0 : ((-1) : Int32).toInt = -1 := by omega
    exact W.iret (v := (-1)) hx hb hr (fun t ht hW => ⟨⟨(-1), (-1), rfl, rfl, hf9_0, by rw [ht]; exact hP9, va_K.moved hW.alike hK, hD9⟩, hS.F ht⟩) hS.2.2 dX9_at_13
  ·
    exact absurd c_1 (by decide)

set_option maxHeartbeats 4000000 in
set_option maxRecDepth 100000 in
theorem c_X9_passed (l : Launch) (dC : Nat → ClassId) (dI : Nat → Nat → Nat) (cI cZ : ClassId) (sz : Nat) (h0 : Nat) (x_riders : Nat) (x_road : Nat) (x_tape : Nat) (x_book : Nat) (x_reader : Nat) (x_latest : Nat) (x_log : Nat) (x_trial : Nat) (x_stages : Nat) (pR : Int32) (pR_i : Int) (pR_h : pR.toInt = pR_i) (pW : Int32) (pW_i : Int) (pW_h : pW.toInt = pW_i) : Met l yX9_passed (Cond.code yX9_passed cX9_passed 3 (some .int) :: lw_good) ({ frames := 0, cells := 0, slots := 0, locals := 0 }) (va_Pc [.ref h0, .int pR, .int pW] (fun U => U.heap.size = sz ∧ va_P (dC, dI) vwCl [(h0, .inr (9, [.ref x_riders, .ref x_road, .ref x_tape, .ref x_book, .ref x_reader, .ref x_latest, .ref x_log, .ref x_trial, .ref x_stages, .int 0, .int 0, .int 0]))] U.heap ∧ va_K (dC, dI) vwCl [(cI, .int), (cZ, .boolean)] U ∧ va_D (fun _ => True) [(h0, .inr (9, [.ref x_riders, .ref x_road, .ref x_tape, .ref x_book, .ref x_reader, .ref x_latest, .ref x_log, .ref x_trial, .ref x_stages, .int 0, .int 0, .int 0]))])) (va_Qi (fun (r u : Int32) => r = u) (fun u t => (u.toInt = -1) ∧ va_P (dC, dI) vwCl [] t.heap ∧ va_K (dC, dI) vwCl [(cI, .int), (cZ, .boolean)] t ∧ va_D (va_A [(h0, .inr (9, [.ref x_riders, .ref x_road, .ref x_tape, .ref x_book, .ref x_reader, .ref x_latest, .ref x_log, .ref x_trial, .ref x_stages, .int 0, .int 0, .int 0]))] sz) []) (va_A [(h0, .inr (9, [.ref x_riders, .ref x_road, .ref x_tape, .ref x_book, .ref x_reader, .ref x_latest, .ref x_log, .ref x_trial, .ref x_stages, .int 0, .int 0, .int 0]))] sz)) 0 0 (va_A [(h0, .inr (9, [.ref x_riders, .ref x_road, .ref x_tape, .ref x_book, .ref x_reader, .ref x_latest, .ref x_log, .ref x_trial, .ref x_stages, .int 0, .int 0, .int 0]))] sz) := by
  refine Met.ofW (cc := cX9_passed) (maxL := 3) (ret := (some .int)) (by decide) rfl ?_
  intro p e s m args below meth c s₁ B hml hv
  obtain ⟨rfl, hsz, hP, hK, hD0⟩ := hv
  have hx := B.exec
  have hb := B.bytes
  have hr := B.returns
  have hts := atoms_spec (ws := Cond.code yX9_passed cX9_passed 3 (some .int) :: lw_good) B.pre
  have hown : s.vm.findClass RX9 = some m.cls := findClass_of_methodNamed B.named
  have hlocks := B.notSynchronized
  have hiX9 : ∀ w ∈ wsX90, w ∈ (Cond.code yX9_passed cX9_passed 3 (some .int) :: lw_good) := fun w h => List.mem_cons_of_mem _ (zi_X9 w h)
  have hw0 := hts (.fieldLink RX9 72 "BunchRace" "raced" "Z") (List.mem_cons_of_mem _ zw_344)
  subst hsz
  have hD := hD0.self (sz := s.heap.size)
  generalize hAe : va_A [(h0, .inr (9, [.ref x_riders, .ref x_road, .ref x_tape, .ref x_book, .ref x_reader, .ref x_latest, .ref x_log, .ref x_trial, .ref x_stages, .int 0, .int 0, .int 0]))] s.heap.size = A at hD ⊢
  have hA : ∀ q : Nat, s.heap.size ≤ q → A q := fun q h => by rw [← hAe]; exact Or.inr h
  have hS : va_S A s.heap s.heap [] := va_S.rf
  have hP : va_P (dC, dI) vwCl [(h0, .inr (9, [.ref x_riders, .ref x_road, .ref x_tape, .ref x_book, .ref x_reader, .ref x_latest, .ref x_log, .ref x_trial, .ref x_stages, .int 0, .int 0, .int 0]))] s.heap := hP
  have hl := lv_entry ([.ref h0, .int pR, .int pW]) (n := 3) (Nat.le_of_ble_eq_true rfl)
  rw [lg_entry_eq]
  generalize (lg_sl ([.ref h0, .int pR, .int pW]) ++ List.replicate (3 - (lg_sl ([.ref h0, .int pR, .int pW])).length) Slot.unset).toArray = ls at hl ⊢
  have hl : lv_has ls 3 [(0, .ref h0), (1, .int pR), (2, .int pW)] := hl
  refine lv_aload_n hx hb dX9_passed_0 rfl (lv_at hl 0 rfl) ?_
  refine va_get (D := (dC, dI)) (ci := 9) (v := .int 0) (C := RX9) (T := TX9) (N := 12) hx hb hts hiX9 hown hK hP 0 rfl rfl 10 (by decide) hw0 (fun _ h9 => h9) rfl dX9_passed_1 ?_
  refine lv_if_eq (tgt := 32) hx hb dX9_passed_4 (by decide) (fun c_1 => ?_) (fun c_1 => ?_)
  ·
    refine lv_iconst (v := (-1)) hx hb dX9_passed_32 (by decide) ?_
    have hP9 := hP.sub (ws' := []) [] rfl
    have hD9 := hD.sub (ws' := []) [] (by decide) rfl
    refine W.widen (k := 0) (n := 0) (Nat.le_of_ble_eq_true rfl) (Nat.le_of_ble_eq_true rfl) ?_
    have hu9 : ((-1) : Int32).toInt = (-1:Int) := (by decide)
    have hf9_0 : ((-1) : Int32).toInt = -1 := by omega
    exact W.iret (v := (-1)) hx hb hr (fun t ht hW => ⟨⟨(-1), (-1), rfl, rfl, hf9_0, by rw [ht]; exact hP9, va_K.moved hW.alike hK, hD9⟩, hS.F ht⟩) hS.2.2 dX9_passed_33
  ·
    exact absurd c_1 (by decide)

set_option maxHeartbeats 4000000 in
set_option maxRecDepth 100000 in
theorem c_X9_metres (l : Launch) (dC : Nat → ClassId) (dI : Nat → Nat → Nat) (cI cZ : ClassId) (sz : Nat) (h0 : Nat) (x_riders : Nat) (x_road : Nat) (x_tape : Nat) (x_book : Nat) (x_reader : Nat) (x_latest : Nat) (x_log : Nat) (x_trial : Nat) (x_stages : Nat) (pR : Int32) (pR_i : Int) (pR_h : pR.toInt = pR_i) (pW : Int32) (pW_i : Int) (pW_h : pW.toInt = pW_i) : Met l yX9_metres (Cond.code yX9_metres cX9_metres 3 (some .int) :: lw_good) ({ frames := 1, cells := 0, slots := 0, locals := 21 }) (va_Pc [.ref h0, .int pR, .int pW] (fun U => U.heap.size = sz ∧ va_P (dC, dI) vwCl [(h0, .inr (9, [.ref x_riders, .ref x_road, .ref x_tape, .ref x_book, .ref x_reader, .ref x_latest, .ref x_log, .ref x_trial, .ref x_stages, .int 0, .int 0, .int 0]))] U.heap ∧ va_K (dC, dI) vwCl [(cI, .int), (cZ, .boolean)] U ∧ va_D (fun _ => True) [(h0, .inr (9, [.ref x_riders, .ref x_road, .ref x_tape, .ref x_book, .ref x_reader, .ref x_latest, .ref x_log, .ref x_trial, .ref x_stages, .int 0, .int 0, .int 0]))])) (va_Qi (fun (r u : Int32) => r = u) (fun u t => (u.toInt = -1) ∧ va_P (dC, dI) vwCl [] t.heap ∧ va_K (dC, dI) vwCl [(cI, .int), (cZ, .boolean)] t ∧ va_D (va_A [(h0, .inr (9, [.ref x_riders, .ref x_road, .ref x_tape, .ref x_book, .ref x_reader, .ref x_latest, .ref x_log, .ref x_trial, .ref x_stages, .int 0, .int 0, .int 0]))] sz) []) (va_A [(h0, .inr (9, [.ref x_riders, .ref x_road, .ref x_tape, .ref x_book, .ref x_reader, .ref x_latest, .ref x_log, .ref x_trial, .ref x_stages, .int 0, .int 0, .int 0]))] sz)) 0 0 (va_A [(h0, .inr (9, [.ref x_riders, .ref x_road, .ref x_tape, .ref x_book, .ref x_reader, .ref x_latest, .ref x_log, .ref x_trial, .ref x_stages, .int 0, .int 0, .int 0]))] sz) := by
  refine Met.ofW (cc := cX9_metres) (maxL := 3) (ret := (some .int)) (by decide) rfl ?_
  intro p e s m args below meth c s₁ B hml hv
  obtain ⟨rfl, hsz, hP, hK, hD0⟩ := hv
  have hx := B.exec
  have hb := B.bytes
  have hr := B.returns
  have hts := atoms_spec (ws := Cond.code yX9_metres cX9_metres 3 (some .int) :: lw_good) B.pre
  have hown : s.vm.findClass RX9 = some m.cls := findClass_of_methodNamed B.named
  have hlocks := B.notSynchronized
  have hw0 := hts (.initialized RX9) (List.mem_cons_of_mem _ zw_48)
  have hw1 := hts (.methodLink RX9 145 yX9_rodeLatest) (List.mem_cons_of_mem _ zw_599)
  have hw2 := hts (.instanceMethod yX9_rodeLatest) (List.mem_cons_of_mem _ zw_601)
  have hw3 := hts (.selects RX9 yX9_rodeLatest yX9_rodeLatest) (List.mem_cons_of_mem _ zw_16)
  subst hsz
  have hD := hD0.self (sz := s.heap.size)
  generalize hAe : va_A [(h0, .inr (9, [.ref x_riders, .ref x_road, .ref x_tape, .ref x_book, .ref x_reader, .ref x_latest, .ref x_log, .ref x_trial, .ref x_stages, .int 0, .int 0, .int 0]))] s.heap.size = A at hD ⊢
  have hA : ∀ q : Nat, s.heap.size ≤ q → A q := fun q h => by rw [← hAe]; exact Or.inr h
  have hS : va_S A s.heap s.heap [] := va_S.rf
  have hP : va_P (dC, dI) vwCl [(h0, .inr (9, [.ref x_riders, .ref x_road, .ref x_tape, .ref x_book, .ref x_reader, .ref x_latest, .ref x_log, .ref x_trial, .ref x_stages, .int 0, .int 0, .int 0]))] s.heap := hP
  have hl := lv_entry ([.ref h0, .int pR, .int pW]) (n := 3) (Nat.le_of_ble_eq_true rfl)
  rw [lg_entry_eq]
  generalize (lg_sl ([.ref h0, .int pR, .int pW]) ++ List.replicate (3 - (lg_sl ([.ref h0, .int pR, .int pW])).length) Slot.unset).toArray = ls at hl ⊢
  have hl : lv_has ls 3 [(0, .ref h0), (1, .int pR), (2, .int pW)] := hl
  refine lv_aload_n hx hb dX9_metres_0 rfl (lv_at hl 0 rfl) ?_
  refine lv_iload_n hx hb dX9_metres_1 rfl (lv_at hl 1 rfl) ?_
  have hPc := hP.sub (ws' := [(h0, .inr (9, [.ref x_riders, .ref x_road, .ref x_tape, .ref x_book, .ref x_reader, .ref x_latest, .ref x_log, .ref x_trial, .ref x_stages, .int 0, .int 0, .int 0]))]) [0] rfl
  have hDc := hD.sub (ws' := [(h0, .inr (9, [.ref x_riders, .ref x_road, .ref x_tape, .ref x_book, .ref x_reader, .ref x_latest, .ref x_log, .ref x_trial, .ref x_stages, .int 0, .int 0, .int 0]))]) [0] (by decide) rfl
  have hFc := va_free (wc := [(h0, .inr (9, [.ref x_riders, .ref x_road, .ref x_tape, .ref x_book, .ref x_reader, .ref x_latest, .ref x_log, .ref x_trial, .ref x_stages, .int 0, .int 0, .int 0]))]) hD hS hA [0] rfl
  refine va_calli (va_runV (As := [.int pR]) (rest := []) ⟨hx, hb, hml, hown, hts⟩ (c_X9_rodeLatest l dC dI cI cZ (s.heap).size h0 x_riders x_road x_tape x_book x_reader x_latest x_log x_trial x_stages pR pR_i pR_h) ⟨callB_of 1 hts (zz_good zw_602) rfl rfl rfl hw0 hw1 (by decide +kernel) ⟨Nat.le_of_ble_eq_true rfl, Nat.le_of_ble_eq_true rfl⟩, hw2, hw3⟩ ⟨fun a U g mk q => by obtain ⟨q0, q1, qP, qK, qD⟩ := q; exact ⟨q0, q1, qP, va_K.moved (u := U) (U := U.calling g mk a) (Vm.Alike.refl U.vm) qK, qD⟩, va_recv hK hPc (ci := 9) (q0 := 0) rfl rfl, fun U hU hW => ⟨rfl, by rw [hU], by rw [hU]; exact hPc, va_K.moved hW.alike hK, hDc.weaken (fun _ _ _ _ => trivial)⟩⟩ rfl rfl hl.1 rfl (lv_room (Nat.le_of_ble_eq_true rfl)) dX9_metres_2 ⟨Nat.le_of_ble_eq_true rfl, Nat.le_of_ble_eq_true rfl⟩) hS (fun q _ h => hFc q h) hFc (fun r_1 u t H1 locs ht hvm hpost hB hz1 hk1 hS => ?_)
  subst hpost
  obtain ⟨hf_2, hP1, hK1, hD1⟩ := hB
  rw [ht] at hP1
  obtain ⟨hP, hD⟩ := va_join (wr := []) (w1 := [(h0, .inr (9, [.ref x_riders, .ref x_road, .ref x_tape, .ref x_book, .ref x_reader, .ref x_latest, .ref x_log, .ref x_trial, .ref x_stages, .int 0, .int 0, .int 0]))]) hP hD [0] [] rfl rfl (by decide) (by decide) hk1 hFc hP1 hD1
  generalize H1 = H at hP hS ⊢
  have hP : va_P (dC, dI) vwCl [(h0, .inr (9, [.ref x_riders, .ref x_road, .ref x_tape, .ref x_book, .ref x_reader, .ref x_latest, .ref x_log, .ref x_trial, .ref x_stages, .int 0, .int 0, .int 0]))] H := hP
  have hD : va_D A [(h0, .inr (9, [.ref x_riders, .ref x_road, .ref x_tape, .ref x_book, .ref x_reader, .ref x_latest, .ref x_log, .ref x_trial, .ref x_stages, .int 0, .int 0, .int 0]))] := hD
  have hf_2 : r_1.toInt = 0 := hf_2
  obtain rfl : r_1 = 0 := Int32.toInt_inj.mp (hf_2.trans (by decide))
  refine lv_if_eq (tgt := 16) hx hb dX9_metres_5 (by decide) (fun c_3 => ?_) (fun c_3 => ?_)
  ·
    refine lv_iconst (v := (-1)) hx hb dX9_metres_16 (by decide) ?_
    have hP9 := hP.sub (ws' := []) [] rfl
    have hD9 := hD.sub (ws' := []) [] (by decide) rfl
    refine W.widen (k := 0) (n := 0) (Nat.le_of_ble_eq_true rfl) (Nat.le_of_ble_eq_true rfl) ?_
    have hu9 : ((-1) : Int32).toInt = (-1:Int) := (by decide)
    have hf9_0 : ((-1) : Int32).toInt = -1 := by omega
    exact W.iret (v := (-1)) hx hb hr (fun t ht hW => ⟨⟨(-1), (-1), rfl, rfl, hf9_0, by rw [ht]; exact hP9, va_K.moved hW.alike hK, hD9⟩, hS.F ht⟩) hS.2.2 dX9_metres_17
  ·
    exact absurd c_3 (by decide)

set_option maxHeartbeats 4000000 in
set_option maxRecDepth 100000 in
theorem c_X9_groups (l : Launch) (dC : Nat → ClassId) (dI : Nat → Nat → Nat) (cI cZ : ClassId) (sz : Nat) (h0 : Nat) (x_riders : Nat) (x_road : Nat) (x_tape : Nat) (x_book : Nat) (x_reader : Nat) (x_latest : Nat) (x_log : Nat) (x_trial : Nat) (x_stages : Nat) (pR : Int32) (pR_i : Int) (pR_h : pR.toInt = pR_i) : Met l yX9_groups (Cond.code yX9_groups cX9_groups 2 (some .int) :: lw_good) ({ frames := 0, cells := 0, slots := 0, locals := 0 }) (va_Pc [.ref h0, .int pR] (fun U => U.heap.size = sz ∧ va_P (dC, dI) vwCl [(h0, .inr (9, [.ref x_riders, .ref x_road, .ref x_tape, .ref x_book, .ref x_reader, .ref x_latest, .ref x_log, .ref x_trial, .ref x_stages, .int 0, .int 0, .int 0]))] U.heap ∧ va_K (dC, dI) vwCl [(cI, .int), (cZ, .boolean)] U ∧ va_D (fun _ => True) [(h0, .inr (9, [.ref x_riders, .ref x_road, .ref x_tape, .ref x_book, .ref x_reader, .ref x_latest, .ref x_log, .ref x_trial, .ref x_stages, .int 0, .int 0, .int 0]))])) (va_Qi (fun (r u : Int32) => r = u) (fun u t => (u.toInt = -1) ∧ va_P (dC, dI) vwCl [] t.heap ∧ va_K (dC, dI) vwCl [(cI, .int), (cZ, .boolean)] t ∧ va_D (va_A [(h0, .inr (9, [.ref x_riders, .ref x_road, .ref x_tape, .ref x_book, .ref x_reader, .ref x_latest, .ref x_log, .ref x_trial, .ref x_stages, .int 0, .int 0, .int 0]))] sz) []) (va_A [(h0, .inr (9, [.ref x_riders, .ref x_road, .ref x_tape, .ref x_book, .ref x_reader, .ref x_latest, .ref x_log, .ref x_trial, .ref x_stages, .int 0, .int 0, .int 0]))] sz)) 0 0 (va_A [(h0, .inr (9, [.ref x_riders, .ref x_road, .ref x_tape, .ref x_book, .ref x_reader, .ref x_latest, .ref x_log, .ref x_trial, .ref x_stages, .int 0, .int 0, .int 0]))] sz) := by
  refine Met.ofW (cc := cX9_groups) (maxL := 2) (ret := (some .int)) (by decide) rfl ?_
  intro p e s m args below meth c s₁ B hml hv
  obtain ⟨rfl, hsz, hP, hK, hD0⟩ := hv
  have hx := B.exec
  have hb := B.bytes
  have hr := B.returns
  have hts := atoms_spec (ws := Cond.code yX9_groups cX9_groups 2 (some .int) :: lw_good) B.pre
  have hown : s.vm.findClass RX9 = some m.cls := findClass_of_methodNamed B.named
  have hlocks := B.notSynchronized
  have hiX9 : ∀ w ∈ wsX90, w ∈ (Cond.code yX9_groups cX9_groups 2 (some .int) :: lw_good) := fun w h => List.mem_cons_of_mem _ (zi_X9 w h)
  have hw0 := hts (.fieldLink RX9 72 "BunchRace" "raced" "Z") (List.mem_cons_of_mem _ zw_344)
  subst hsz
  have hD := hD0.self (sz := s.heap.size)
  generalize hAe : va_A [(h0, .inr (9, [.ref x_riders, .ref x_road, .ref x_tape, .ref x_book, .ref x_reader, .ref x_latest, .ref x_log, .ref x_trial, .ref x_stages, .int 0, .int 0, .int 0]))] s.heap.size = A at hD ⊢
  have hA : ∀ q : Nat, s.heap.size ≤ q → A q := fun q h => by rw [← hAe]; exact Or.inr h
  have hS : va_S A s.heap s.heap [] := va_S.rf
  have hP : va_P (dC, dI) vwCl [(h0, .inr (9, [.ref x_riders, .ref x_road, .ref x_tape, .ref x_book, .ref x_reader, .ref x_latest, .ref x_log, .ref x_trial, .ref x_stages, .int 0, .int 0, .int 0]))] s.heap := hP
  have hl := lv_entry ([.ref h0, .int pR]) (n := 2) (Nat.le_of_ble_eq_true rfl)
  rw [lg_entry_eq]
  generalize (lg_sl ([.ref h0, .int pR]) ++ List.replicate (2 - (lg_sl ([.ref h0, .int pR])).length) Slot.unset).toArray = ls at hl ⊢
  have hl : lv_has ls 2 [(0, .ref h0), (1, .int pR)] := hl
  refine lv_aload_n hx hb dX9_groups_0 rfl (lv_at hl 0 rfl) ?_
  refine va_get (D := (dC, dI)) (ci := 9) (v := .int 0) (C := RX9) (T := TX9) (N := 12) hx hb hts hiX9 hown hK hP 0 rfl rfl 10 (by decide) hw0 (fun _ h9 => h9) rfl dX9_groups_1 ?_
  refine lv_if_eq (tgt := 15) hx hb dX9_groups_4 (by decide) (fun c_1 => ?_) (fun c_1 => ?_)
  ·
    refine lv_iconst (v := (-1)) hx hb dX9_groups_15 (by decide) ?_
    have hP9 := hP.sub (ws' := []) [] rfl
    have hD9 := hD.sub (ws' := []) [] (by decide) rfl
    refine W.widen (k := 0) (n := 0) (Nat.le_of_ble_eq_true rfl) (Nat.le_of_ble_eq_true rfl) ?_
    have hu9 : ((-1) : Int32).toInt = (-1:Int) := (by decide)
    have hf9_0 : ((-1) : Int32).toInt = -1 := by omega
    exact W.iret (v := (-1)) hx hb hr (fun t ht hW => ⟨⟨(-1), (-1), rfl, rfl, hf9_0, by rw [ht]; exact hP9, va_K.moved hW.alike hK, hD9⟩, hS.F ht⟩) hS.2.2 dX9_groups_16
  ·
    exact absurd c_1 (by decide)

set_option maxHeartbeats 4000000 in
set_option maxRecDepth 100000 in
theorem c_X9_keep (l : Launch) (dC : Nat → ClassId) (dI : Nat → Nat → Nat) (cI cZ : ClassId) (sz : Nat) (h0 : Nat) (x_riders : Nat) (x_road : Nat) (x_tape : Nat) (x_book : Nat) (x_reader : Nat) (x_latest : Nat) (x_log : Nat) (x_trial : Nat) (x_stages : Nat) : Met l yX9_keep (Cond.code yX9_keep cX9_keep 1 (some .int) :: lw_good) ({ frames := 0, cells := 0, slots := 0, locals := 0 }) (va_Pc [.ref h0] (fun U => U.heap.size = sz ∧ va_P (dC, dI) vwCl [(h0, .inr (9, [.ref x_riders, .ref x_road, .ref x_tape, .ref x_book, .ref x_reader, .ref x_latest, .ref x_log, .ref x_trial, .ref x_stages, .int 0, .int 0, .int 0]))] U.heap ∧ va_K (dC, dI) vwCl [(cI, .int), (cZ, .boolean)] U ∧ va_D (fun _ => True) [(h0, .inr (9, [.ref x_riders, .ref x_road, .ref x_tape, .ref x_book, .ref x_reader, .ref x_latest, .ref x_log, .ref x_trial, .ref x_stages, .int 0, .int 0, .int 0]))])) (va_Qi (fun (r u : Int32) => r = u) (fun u t => (u.toInt = -1) ∧ va_P (dC, dI) vwCl [] t.heap ∧ va_K (dC, dI) vwCl [(cI, .int), (cZ, .boolean)] t ∧ va_D (va_A [(h0, .inr (9, [.ref x_riders, .ref x_road, .ref x_tape, .ref x_book, .ref x_reader, .ref x_latest, .ref x_log, .ref x_trial, .ref x_stages, .int 0, .int 0, .int 0]))] sz) []) (va_A [(h0, .inr (9, [.ref x_riders, .ref x_road, .ref x_tape, .ref x_book, .ref x_reader, .ref x_latest, .ref x_log, .ref x_trial, .ref x_stages, .int 0, .int 0, .int 0]))] sz)) 0 0 (va_A [(h0, .inr (9, [.ref x_riders, .ref x_road, .ref x_tape, .ref x_book, .ref x_reader, .ref x_latest, .ref x_log, .ref x_trial, .ref x_stages, .int 0, .int 0, .int 0]))] sz) := by
  refine Met.ofW (cc := cX9_keep) (maxL := 1) (ret := (some .int)) (by decide) rfl ?_
  intro p e s m args below meth c s₁ B hml hv
  obtain ⟨rfl, hsz, hP, hK, hD0⟩ := hv
  have hx := B.exec
  have hb := B.bytes
  have hr := B.returns
  have hts := atoms_spec (ws := Cond.code yX9_keep cX9_keep 1 (some .int) :: lw_good) B.pre
  have hown : s.vm.findClass RX9 = some m.cls := findClass_of_methodNamed B.named
  have hlocks := B.notSynchronized
  have hiX9 : ∀ w ∈ wsX90, w ∈ (Cond.code yX9_keep cX9_keep 1 (some .int) :: lw_good) := fun w h => List.mem_cons_of_mem _ (zi_X9 w h)
  have hw0 := hts (.fieldLink RX9 72 "BunchRace" "raced" "Z") (List.mem_cons_of_mem _ zw_344)
  subst hsz
  have hD := hD0.self (sz := s.heap.size)
  generalize hAe : va_A [(h0, .inr (9, [.ref x_riders, .ref x_road, .ref x_tape, .ref x_book, .ref x_reader, .ref x_latest, .ref x_log, .ref x_trial, .ref x_stages, .int 0, .int 0, .int 0]))] s.heap.size = A at hD ⊢
  have hA : ∀ q : Nat, s.heap.size ≤ q → A q := fun q h => by rw [← hAe]; exact Or.inr h
  have hS : va_S A s.heap s.heap [] := va_S.rf
  have hP : va_P (dC, dI) vwCl [(h0, .inr (9, [.ref x_riders, .ref x_road, .ref x_tape, .ref x_book, .ref x_reader, .ref x_latest, .ref x_log, .ref x_trial, .ref x_stages, .int 0, .int 0, .int 0]))] s.heap := hP
  have hl := lv_entry ([.ref h0]) (n := 1) (Nat.le_of_ble_eq_true rfl)
  rw [lg_entry_eq]
  generalize (lg_sl ([.ref h0]) ++ List.replicate (1 - (lg_sl ([.ref h0])).length) Slot.unset).toArray = ls at hl ⊢
  have hl : lv_has ls 1 [(0, .ref h0)] := hl
  refine lv_aload_n hx hb dX9_keep_0 rfl (lv_at hl 0 rfl) ?_
  refine va_get (D := (dC, dI)) (ci := 9) (v := .int 0) (C := RX9) (T := TX9) (N := 12) hx hb hts hiX9 hown hK hP 0 rfl rfl 10 (by decide) hw0 (fun _ h9 => h9) rfl dX9_keep_1 ?_
  refine lv_if_eq (tgt := 26) hx hb dX9_keep_4 (by decide) (fun c_1 => ?_) (fun c_1 => ?_)
  ·
    refine lv_iconst (v := (-1)) hx hb dX9_keep_26 (by decide) ?_
    have hP9 := hP.sub (ws' := []) [] rfl
    have hD9 := hD.sub (ws' := []) [] (by decide) rfl
    refine W.widen (k := 0) (n := 0) (Nat.le_of_ble_eq_true rfl) (Nat.le_of_ble_eq_true rfl) ?_
    have hu9 : ((-1) : Int32).toInt = (-1:Int) := (by decide)
    have hf9_0 : ((-1) : Int32).toInt = -1 := by omega
    exact W.iret (v := (-1)) hx hb hr (fun t ht hW => ⟨⟨(-1), (-1), rfl, rfl, hf9_0, by rw [ht]; exact hP9, va_K.moved hW.alike hK, hD9⟩, hS.F ht⟩) hS.2.2 dX9_keep_27
  ·
    exact absurd c_1 (by decide)

set_option maxHeartbeats 4000000 in
set_option maxRecDepth 100000 in
theorem c_X9_limit (l : Launch) (dC : Nat → ClassId) (dI : Nat → Nat → Nat) (cI cZ : ClassId) (sz : Nat) (h0 : Nat) (x_riders : Nat) (x_road : Nat) (x_tape : Nat) (x_book : Nat) (x_reader : Nat) (x_latest : Nat) (x_log : Nat) (x_trial : Nat) (x_stages : Nat) (x_sg_totals : Nat) (x_sg_points : Nat) (x_sg_out : Nat) (pN : Int32) (pN_i : Int) (pN_h : pN.toInt = pN_i) : Met l yX9_limit (Cond.code yX9_limit cX9_limit 2 (some .boolean) :: lw_good) ({ frames := 0, cells := 0, slots := 0, locals := 0 }) (va_Pc [.ref h0, .int pN] (fun U => U.heap.size = sz ∧ va_P (dC, dI) vwCl [(h0, .inr (9, [.ref x_riders, .ref x_road, .ref x_tape, .ref x_book, .ref x_reader, .ref x_latest, .ref x_log, .ref x_trial, .ref x_stages, .int 0, .int 0, .int 0])), (x_stages, .inr (7, [.int 0, .int 20, .ref x_sg_totals, .ref x_sg_points, .ref x_sg_out])), (x_sg_totals, .inl (cI, 20, .inl (fun _ => 0))), (x_sg_points, .inl (cI, 20, .inl (fun _ => 0))), (x_sg_out, .inl (cZ, 20, .inl (fun _ => 0)))] U.heap ∧ va_K (dC, dI) vwCl [(cI, .int), (cZ, .boolean)] U ∧ va_D (fun _ => True) [(h0, .inr (9, [.ref x_riders, .ref x_road, .ref x_tape, .ref x_book, .ref x_reader, .ref x_latest, .ref x_log, .ref x_trial, .ref x_stages, .int 0, .int 0, .int 0])), (x_stages, .inr (7, [.int 0, .int 20, .ref x_sg_totals, .ref x_sg_points, .ref x_sg_out])), (x_sg_totals, .inl (cI, 20, .inl (fun _ => 0))), (x_sg_points, .inl (cI, 20, .inl (fun _ => 0))), (x_sg_out, .inl (cZ, 20, .inl (fun _ => 0)))])) (va_Qi (fun (r u : Int32) => r = u) (fun u t => ((u = 1 ∧ (1 ≤ pN_i ∧ pN_i ≤ 100)) ∨ (u = 0 ∧ ¬ (1 ≤ pN_i ∧ pN_i ≤ 100))) ∧ va_P (dC, dI) vwCl [] t.heap ∧ va_K (dC, dI) vwCl [(cI, .int), (cZ, .boolean)] t ∧ va_D (va_A [(h0, .inr (9, [.ref x_riders, .ref x_road, .ref x_tape, .ref x_book, .ref x_reader, .ref x_latest, .ref x_log, .ref x_trial, .ref x_stages, .int 0, .int 0, .int 0])), (x_stages, .inr (7, [.int 0, .int 20, .ref x_sg_totals, .ref x_sg_points, .ref x_sg_out])), (x_sg_totals, .inl (cI, 20, .inl (fun _ => 0))), (x_sg_points, .inl (cI, 20, .inl (fun _ => 0))), (x_sg_out, .inl (cZ, 20, .inl (fun _ => 0)))] sz) []) (va_A [(h0, .inr (9, [.ref x_riders, .ref x_road, .ref x_tape, .ref x_book, .ref x_reader, .ref x_latest, .ref x_log, .ref x_trial, .ref x_stages, .int 0, .int 0, .int 0])), (x_stages, .inr (7, [.int 0, .int 20, .ref x_sg_totals, .ref x_sg_points, .ref x_sg_out])), (x_sg_totals, .inl (cI, 20, .inl (fun _ => 0))), (x_sg_points, .inl (cI, 20, .inl (fun _ => 0))), (x_sg_out, .inl (cZ, 20, .inl (fun _ => 0)))] sz)) 0 0 (va_A [(h0, .inr (9, [.ref x_riders, .ref x_road, .ref x_tape, .ref x_book, .ref x_reader, .ref x_latest, .ref x_log, .ref x_trial, .ref x_stages, .int 0, .int 0, .int 0])), (x_stages, .inr (7, [.int 0, .int 20, .ref x_sg_totals, .ref x_sg_points, .ref x_sg_out])), (x_sg_totals, .inl (cI, 20, .inl (fun _ => 0))), (x_sg_points, .inl (cI, 20, .inl (fun _ => 0))), (x_sg_out, .inl (cZ, 20, .inl (fun _ => 0)))] sz) := by
  refine Met.ofW (cc := cX9_limit) (maxL := 2) (ret := (some .boolean)) (by decide) rfl ?_
  intro p e s m args below meth c s₁ B hml hv
  obtain ⟨rfl, hsz, hP, hK, hD0⟩ := hv
  have hx := B.exec
  have hb := B.bytes
  have hr := B.returns
  have hts := atoms_spec (ws := Cond.code yX9_limit cX9_limit 2 (some .boolean) :: lw_good) B.pre
  have hown : s.vm.findClass RX9 = some m.cls := findClass_of_methodNamed B.named
  have hlocks := B.notSynchronized
  have hiX7 : ∀ w ∈ wsX70, w ∈ (Cond.code yX9_limit cX9_limit 2 (some .boolean) :: lw_good) := fun w h => List.mem_cons_of_mem _ (zi_X7 w h)
  have hiX9 : ∀ w ∈ wsX90, w ∈ (Cond.code yX9_limit cX9_limit 2 (some .boolean) :: lw_good) := fun w h => List.mem_cons_of_mem _ (zi_X9 w h)
  have hw0 := hts (.fieldLink RX9 64 "BunchRace" "stages" "LBunchRace$Stages;") (List.mem_cons_of_mem _ zw_342)
  have hw1 := hts (.fieldLink RX9 191 "BunchRace$Stages" "limit" "I") (List.mem_cons_of_mem _ zw_316)
  subst hsz
  have hD := hD0.self (sz := s.heap.size)
  generalize hAe : va_A [(h0, .inr (9, [.ref x_riders, .ref x_road, .ref x_tape, .ref x_book, .ref x_reader, .ref x_latest, .ref x_log, .ref x_trial, .ref x_stages, .int 0, .int 0, .int 0])), (x_stages, .inr (7, [.int 0, .int 20, .ref x_sg_totals, .ref x_sg_points, .ref x_sg_out])), (x_sg_totals, .inl (cI, 20, .inl (fun _ => 0))), (x_sg_points, .inl (cI, 20, .inl (fun _ => 0))), (x_sg_out, .inl (cZ, 20, .inl (fun _ => 0)))] s.heap.size = A at hD ⊢
  have hA : ∀ q : Nat, s.heap.size ≤ q → A q := fun q h => by rw [← hAe]; exact Or.inr h
  have hS : va_S A s.heap s.heap [] := va_S.rf
  have hP : va_P (dC, dI) vwCl [(h0, .inr (9, [.ref x_riders, .ref x_road, .ref x_tape, .ref x_book, .ref x_reader, .ref x_latest, .ref x_log, .ref x_trial, .ref x_stages, .int 0, .int 0, .int 0])), (x_stages, .inr (7, [.int 0, .int 20, .ref x_sg_totals, .ref x_sg_points, .ref x_sg_out])), (x_sg_totals, .inl (cI, 20, .inl (fun _ => 0))), (x_sg_points, .inl (cI, 20, .inl (fun _ => 0))), (x_sg_out, .inl (cZ, 20, .inl (fun _ => 0)))] s.heap := hP
  have hl := lv_entry ([.ref h0, .int pN]) (n := 2) (Nat.le_of_ble_eq_true rfl)
  rw [lg_entry_eq]
  generalize (lg_sl ([.ref h0, .int pN]) ++ List.replicate (2 - (lg_sl ([.ref h0, .int pN])).length) Slot.unset).toArray = ls at hl ⊢
  have hl : lv_has ls 2 [(0, .ref h0), (1, .int pN)] := hl
  refine lv_iload_n hx hb dX9_limit_0 rfl (lv_at hl 1 rfl) ?_
  refine lv_iconst (v := 1) hx hb dX9_limit_1 (by decide) ?_
  refine lv_icmp_lt (tgt := 11) hx hb dX9_limit_2 (by decide) (fun c_1 => ?_) (fun c_1 => ?_)
  ·
    have c_1 : pN_i < (1:Int) := zz_lt pN_h (by decide) c_1
    refine lv_iconst (v := 0) hx hb dX9_limit_11 (by decide) ?_
    have hP9 := hP.sub (ws' := []) [] rfl
    have hD9 := hD.sub (ws' := []) [] (by decide) rfl
    refine W.widen (k := 0) (n := 0) (Nat.le_of_ble_eq_true rfl) (Nat.le_of_ble_eq_true rfl) ?_
    have hu9 : (0 : Int32).toInt = (0:Int) := (by decide)
    have hf9_0 : ((0 : Int32) = 1 ∧ (1 ≤ pN_i ∧ pN_i ≤ 100)) ∨ ((0 : Int32) = 0 ∧ ¬ (1 ≤ pN_i ∧ pN_i ≤ 100)) := Or.inr ⟨rfl, by omega⟩
    exact W.zret (v := 0) hx hb hr rfl (fun t ht hW => ⟨⟨0, 0, rfl, rfl, hf9_0, by rw [ht]; exact hP9, va_K.moved hW.alike hK, hD9⟩, hS.F ht⟩) hS.2.2 dX9_limit_12
  ·
    have c_1 : ¬ (pN_i < (1:Int)) := zz_ltn pN_h (by decide) c_1
    refine lv_iload_n hx hb dX9_limit_5 rfl (lv_at hl 1 rfl) ?_
    refine lv_bipush (v := 100) hx hb dX9_limit_6 (by decide) ?_
    refine lv_icmp_le (tgt := 13) hx hb dX9_limit_8 (by decide) (fun c_2 => ?_) (fun c_2 => ?_)
    ·
      have c_2 : pN_i ≤ (100:Int) := zz_le pN_h (by decide) c_2
      refine lv_aload_n hx hb dX9_limit_13 rfl (lv_at hl 0 rfl) ?_
      refine va_get (D := (dC, dI)) (ci := 9) (v := .ref x_stages) (C := RX9) (T := TX9) (N := 12) hx hb hts hiX9 hown hK hP 0 rfl rfl 8 (by decide) hw0 (fun _ h9 => h9) rfl dX9_limit_14 ?_
      refine lv_iload_n hx hb dX9_limit_17 rfl (lv_at hl 1 rfl) ?_
      refine va_put (D := (dC, dI)) (ci := 7) (v := .int pN) (ty := .int) (C := RX7) (T := TX7) (N := 5) hx hb hts hiX7 tyX7 tyX7_ok nmX7 hown hK hP hD hS 1 rfl rfl 1 (by decide) hw1 (fun _ h9 => h9) rfl (by decide +kernel) rfl rfl (Nat.le_of_ble_eq_true rfl) dX9_limit_18 (fun H locs hP hD hS => ?_)
      have hP : va_P (dC, dI) vwCl [(h0, .inr (9, [.ref x_riders, .ref x_road, .ref x_tape, .ref x_book, .ref x_reader, .ref x_latest, .ref x_log, .ref x_trial, .ref x_stages, .int 0, .int 0, .int 0])), (x_stages, .inr (7, [.int 0, .int pN, .ref x_sg_totals, .ref x_sg_points, .ref x_sg_out])), (x_sg_totals, .inl (cI, 20, .inl (fun _ => 0))), (x_sg_points, .inl (cI, 20, .inl (fun _ => 0))), (x_sg_out, .inl (cZ, 20, .inl (fun _ => 0)))] H := hP
      have hD : va_D A [(h0, .inr (9, [.ref x_riders, .ref x_road, .ref x_tape, .ref x_book, .ref x_reader, .ref x_latest, .ref x_log, .ref x_trial, .ref x_stages, .int 0, .int 0, .int 0])), (x_stages, .inr (7, [.int 0, .int pN, .ref x_sg_totals, .ref x_sg_points, .ref x_sg_out])), (x_sg_totals, .inl (cI, 20, .inl (fun _ => 0))), (x_sg_points, .inl (cI, 20, .inl (fun _ => 0))), (x_sg_out, .inl (cZ, 20, .inl (fun _ => 0)))] := hD
      refine lv_iconst (v := 1) hx hb dX9_limit_21 (by decide) ?_
      have hP9 := hP.sub (ws' := []) [] rfl
      have hD9 := hD.sub (ws' := []) [] (by decide) rfl
      refine W.widen (k := 0) (n := 0) (Nat.le_of_ble_eq_true rfl) (Nat.le_of_ble_eq_true rfl) ?_
      have hu9 : (1 : Int32).toInt = (1:Int) := (by decide)
      have hf9_0 : ((1 : Int32) = 1 ∧ (1 ≤ pN_i ∧ pN_i ≤ 100)) ∨ ((1 : Int32) = 0 ∧ ¬ (1 ≤ pN_i ∧ pN_i ≤ 100)) := Or.inl ⟨rfl, by omega⟩
      exact W.zret (v := 1) hx hb hr rfl (fun t ht hW => ⟨⟨1, 1, rfl, rfl, hf9_0, by rw [ht]; exact hP9, va_K.moved hW.alike hK, hD9⟩, hS.F ht⟩) hS.2.2 dX9_limit_22
    ·
      have c_2 : ¬ (pN_i ≤ (100:Int)) := zz_len pN_h (by decide) c_2
      refine lv_iconst (v := 0) hx hb dX9_limit_11 (by decide) ?_
      have hP9 := hP.sub (ws' := []) [] rfl
      have hD9 := hD.sub (ws' := []) [] (by decide) rfl
      refine W.widen (k := 0) (n := 0) (Nat.le_of_ble_eq_true rfl) (Nat.le_of_ble_eq_true rfl) ?_
      have hu9 : (0 : Int32).toInt = (0:Int) := (by decide)
      have hf9_0 : ((0 : Int32) = 1 ∧ (1 ≤ pN_i ∧ pN_i ≤ 100)) ∨ ((0 : Int32) = 0 ∧ ¬ (1 ≤ pN_i ∧ pN_i ≤ 100)) := Or.inr ⟨rfl, by omega⟩
      exact W.zret (v := 0) hx hb hr rfl (fun t ht hW => ⟨⟨0, 0, rfl, rfl, hf9_0, by rw [ht]; exact hP9, va_K.moved hW.alike hK, hD9⟩, hS.F ht⟩) hS.2.2 dX9_limit_12

set_option maxHeartbeats 4000000 in
set_option maxRecDepth 100000 in
theorem c_X9_sum (l : Launch) (dC : Nat → ClassId) (dI : Nat → Nat → Nat) (cI cZ : ClassId) (sz : Nat) (h0 : Nat) (x_riders : Nat) (x_road : Nat) (x_tape : Nat) (x_book : Nat) (x_reader : Nat) (x_latest : Nat) (x_log : Nat) (x_trial : Nat) (x_stages : Nat) (x_ri_teams : Nat) (x_ri_steady : Nat) (x_ri_full : Nat) (x_ri_climb : Nat) (pR : Int32) (pR_i : Int) (pR_h : pR.toInt = pR_i) (pW : Int32) (pW_i : Int) (pW_h : pW.toInt = pW_i) : Met l yX9_sum (Cond.code yX9_sum cX9_sum 3 (some .int) :: lw_good) ({ frames := 0, cells := 0, slots := 0, locals := 0 }) (va_Pc [.ref h0, .int pR, .int pW] (fun U => U.heap.size = sz ∧ va_P (dC, dI) vwCl [(h0, .inr (9, [.ref x_riders, .ref x_road, .ref x_tape, .ref x_book, .ref x_reader, .ref x_latest, .ref x_log, .ref x_trial, .ref x_stages, .int 0, .int 0, .int 0])), (x_riders, .inr (5, [.int 0, .ref x_ri_teams, .ref x_ri_steady, .ref x_ri_full, .ref x_ri_climb]))] U.heap ∧ va_K (dC, dI) vwCl [(cI, .int), (cZ, .boolean)] U ∧ va_D (fun _ => True) [(h0, .inr (9, [.ref x_riders, .ref x_road, .ref x_tape, .ref x_book, .ref x_reader, .ref x_latest, .ref x_log, .ref x_trial, .ref x_stages, .int 0, .int 0, .int 0])), (x_riders, .inr (5, [.int 0, .ref x_ri_teams, .ref x_ri_steady, .ref x_ri_full, .ref x_ri_climb]))])) (va_Qi (fun (r u : Int32) => r = u) (fun u t => (u.toInt = -1) ∧ va_P (dC, dI) vwCl [] t.heap ∧ va_K (dC, dI) vwCl [(cI, .int), (cZ, .boolean)] t ∧ va_D (va_A [(h0, .inr (9, [.ref x_riders, .ref x_road, .ref x_tape, .ref x_book, .ref x_reader, .ref x_latest, .ref x_log, .ref x_trial, .ref x_stages, .int 0, .int 0, .int 0])), (x_riders, .inr (5, [.int 0, .ref x_ri_teams, .ref x_ri_steady, .ref x_ri_full, .ref x_ri_climb]))] sz) []) (va_A [(h0, .inr (9, [.ref x_riders, .ref x_road, .ref x_tape, .ref x_book, .ref x_reader, .ref x_latest, .ref x_log, .ref x_trial, .ref x_stages, .int 0, .int 0, .int 0])), (x_riders, .inr (5, [.int 0, .ref x_ri_teams, .ref x_ri_steady, .ref x_ri_full, .ref x_ri_climb]))] sz)) 0 0 (va_A [(h0, .inr (9, [.ref x_riders, .ref x_road, .ref x_tape, .ref x_book, .ref x_reader, .ref x_latest, .ref x_log, .ref x_trial, .ref x_stages, .int 0, .int 0, .int 0])), (x_riders, .inr (5, [.int 0, .ref x_ri_teams, .ref x_ri_steady, .ref x_ri_full, .ref x_ri_climb]))] sz) := by
  refine Met.ofW (cc := cX9_sum) (maxL := 3) (ret := (some .int)) (by decide) rfl ?_
  intro p e s m args below meth c s₁ B hml hv
  obtain ⟨rfl, hsz, hP, hK, hD0⟩ := hv
  have hx := B.exec
  have hb := B.bytes
  have hr := B.returns
  have hts := atoms_spec (ws := Cond.code yX9_sum cX9_sum 3 (some .int) :: lw_good) B.pre
  have hown : s.vm.findClass RX9 = some m.cls := findClass_of_methodNamed B.named
  have hlocks := B.notSynchronized
  have hiX5 : ∀ w ∈ wsX50, w ∈ (Cond.code yX9_sum cX9_sum 3 (some .int) :: lw_good) := fun w h => List.mem_cons_of_mem _ (zi_X5 w h)
  have hiX9 : ∀ w ∈ wsX90, w ∈ (Cond.code yX9_sum cX9_sum 3 (some .int) :: lw_good) := fun w h => List.mem_cons_of_mem _ (zi_X9 w h)
  have hw0 := hts (.fieldLink RX9 12 "BunchRace" "riders" "LBunchRace$Riders;") (List.mem_cons_of_mem _ zw_334)
  have hw1 := hts (.fieldLink RX9 122 "BunchRace$Riders" "number" "I") (List.mem_cons_of_mem _ zw_77)
  subst hsz
  have hD := hD0.self (sz := s.heap.size)
  generalize hAe : va_A [(h0, .inr (9, [.ref x_riders, .ref x_road, .ref x_tape, .ref x_book, .ref x_reader, .ref x_latest, .ref x_log, .ref x_trial, .ref x_stages, .int 0, .int 0, .int 0])), (x_riders, .inr (5, [.int 0, .ref x_ri_teams, .ref x_ri_steady, .ref x_ri_full, .ref x_ri_climb]))] s.heap.size = A at hD ⊢
  have hA : ∀ q : Nat, s.heap.size ≤ q → A q := fun q h => by rw [← hAe]; exact Or.inr h
  have hS : va_S A s.heap s.heap [] := va_S.rf
  have hP : va_P (dC, dI) vwCl [(h0, .inr (9, [.ref x_riders, .ref x_road, .ref x_tape, .ref x_book, .ref x_reader, .ref x_latest, .ref x_log, .ref x_trial, .ref x_stages, .int 0, .int 0, .int 0])), (x_riders, .inr (5, [.int 0, .ref x_ri_teams, .ref x_ri_steady, .ref x_ri_full, .ref x_ri_climb]))] s.heap := hP
  have hl := lv_entry ([.ref h0, .int pR, .int pW]) (n := 3) (Nat.le_of_ble_eq_true rfl)
  rw [lg_entry_eq]
  generalize (lg_sl ([.ref h0, .int pR, .int pW]) ++ List.replicate (3 - (lg_sl ([.ref h0, .int pR, .int pW])).length) Slot.unset).toArray = ls at hl ⊢
  have hl : lv_has ls 3 [(0, .ref h0), (1, .int pR), (2, .int pW)] := hl
  refine lv_iload_n hx hb dX9_sum_0 rfl (lv_at hl 1 rfl) ?_
  refine lv_if_lt (tgt := 15) hx hb dX9_sum_1 (by decide) (fun c_1 => ?_) (fun c_1 => ?_)
  ·
    have c_1 : pR_i < (0:Int) := zz_lt pR_h (by decide) c_1
    refine lv_iconst (v := (-1)) hx hb dX9_sum_15 (by decide) ?_
    have hP9 := hP.sub (ws' := []) [] rfl
    have hD9 := hD.sub (ws' := []) [] (by decide) rfl
    refine W.widen (k := 0) (n := 0) (Nat.le_of_ble_eq_true rfl) (Nat.le_of_ble_eq_true rfl) ?_
    have hu9 : ((-1) : Int32).toInt = (-1:Int) := (by decide)
    have hf9_0 : ((-1) : Int32).toInt = -1 := by omega
    exact W.iret (v := (-1)) hx hb hr (fun t ht hW => ⟨⟨(-1), (-1), rfl, rfl, hf9_0, by rw [ht]; exact hP9, va_K.moved hW.alike hK, hD9⟩, hS.F ht⟩) hS.2.2 dX9_sum_16
  ·
    have c_1 : ¬ (pR_i < (0:Int)) := zz_ltn pR_h (by decide) c_1
    refine lv_iload_n hx hb dX9_sum_4 rfl (lv_at hl 1 rfl) ?_
    refine lv_aload_n hx hb dX9_sum_5 rfl (lv_at hl 0 rfl) ?_
    refine va_get (D := (dC, dI)) (ci := 9) (v := .ref x_riders) (C := RX9) (T := TX9) (N := 12) hx hb hts hiX9 hown hK hP 0 rfl rfl 0 (by decide) hw0 (fun _ h9 => h9) rfl dX9_sum_6 ?_
    refine va_get (D := (dC, dI)) (ci := 5) (v := .int 0) (C := RX5) (T := TX5) (N := 5) hx hb hts hiX5 hown hK hP 1 rfl rfl 0 (by decide) hw1 (fun _ h9 => h9) rfl dX9_sum_9 ?_
    refine lv_icmp_lt (tgt := 17) hx hb dX9_sum_12 (by decide) (fun c_2 => ?_) (fun c_2 => ?_)
    ·
      have c_2 : pR_i < (0:Int) := zz_lt pR_h (by decide) c_2
      exact absurd c_2 (by omega)
    ·
      have c_2 : ¬ (pR_i < (0:Int)) := zz_ltn pR_h (by decide) c_2
      refine lv_iconst (v := (-1)) hx hb dX9_sum_15 (by decide) ?_
      have hP9 := hP.sub (ws' := []) [] rfl
      have hD9 := hD.sub (ws' := []) [] (by decide) rfl
      refine W.widen (k := 0) (n := 0) (Nat.le_of_ble_eq_true rfl) (Nat.le_of_ble_eq_true rfl) ?_
      have hu9 : ((-1) : Int32).toInt = (-1:Int) := (by decide)
      have hf9_0 : ((-1) : Int32).toInt = -1 := by omega
      exact W.iret (v := (-1)) hx hb hr (fun t ht hW => ⟨⟨(-1), (-1), rfl, rfl, hf9_0, by rw [ht]; exact hP9, va_K.moved hW.alike hK, hD9⟩, hS.F ht⟩) hS.2.2 dX9_sum_16

set_option maxHeartbeats 4000000 in
set_option maxRecDepth 100000 in
theorem c_X7_lowestThreeOf (l : Launch) (dC : Nat → ClassId) (dI : Nat → Nat → Nat) (cI cZ : ClassId) (sz : Nat) (h0 : Nat) (x_totals : Nat) (x_points : Nat) (x_out : Nat) (pRi : Nat) (y_teams : Nat) (y_steady : Nat) (y_full : Nat) (y_climb : Nat) (pT : Int32) (pT_i : Int) (pT_h : pT.toInt = pT_i) : Met l yX7_lowestThreeOf (Cond.code yX7_lowestThreeOf cX7_lowestThreeOf 6 (some .int) :: lw_good) ({ frames := 0, cells := 0, slots := 0, locals := 0 }) (va_Pc [.ref h0, .int pT, .ref pRi] (fun U => U.heap.size = sz ∧ va_P (dC, dI) vwCl [(h0, .inr (7, [.int 0, .int 20, .ref x_totals, .ref x_points, .ref x_out])), (pRi, .inr (5, [.int 0, .ref y_teams, .ref y_steady, .ref y_full, .ref y_climb]))] U.heap ∧ va_K (dC, dI) vwCl [(cI, .int), (cZ, .boolean)] U ∧ va_D (fun _ => True) [(h0, .inr (7, [.int 0, .int 20, .ref x_totals, .ref x_points, .ref x_out])), (pRi, .inr (5, [.int 0, .ref y_teams, .ref y_steady, .ref y_full, .ref y_climb]))])) (va_Qi (fun (r u : Int32) => r = u) (fun u t => (u.toInt = -1) ∧ va_P (dC, dI) vwCl [] t.heap ∧ va_K (dC, dI) vwCl [(cI, .int), (cZ, .boolean)] t ∧ va_D (va_A [(h0, .inr (7, [.int 0, .int 20, .ref x_totals, .ref x_points, .ref x_out])), (pRi, .inr (5, [.int 0, .ref y_teams, .ref y_steady, .ref y_full, .ref y_climb]))] sz) []) (va_A [(h0, .inr (7, [.int 0, .int 20, .ref x_totals, .ref x_points, .ref x_out])), (pRi, .inr (5, [.int 0, .ref y_teams, .ref y_steady, .ref y_full, .ref y_climb]))] sz)) 0 0 (va_A [(h0, .inr (7, [.int 0, .int 20, .ref x_totals, .ref x_points, .ref x_out])), (pRi, .inr (5, [.int 0, .ref y_teams, .ref y_steady, .ref y_full, .ref y_climb]))] sz) := by
  refine Met.ofW (cc := cX7_lowestThreeOf) (maxL := 6) (ret := (some .int)) (by decide) rfl ?_
  intro p e s m args below meth c s₁ B hml hv
  obtain ⟨rfl, hsz, hP, hK, hD0⟩ := hv
  have hx := B.exec
  have hb := B.bytes
  have hr := B.returns
  have hts := atoms_spec (ws := Cond.code yX7_lowestThreeOf cX7_lowestThreeOf 6 (some .int) :: lw_good) B.pre
  have hown : s.vm.findClass RX7 = some m.cls := findClass_of_methodNamed B.named
  have hlocks := B.notSynchronized
  have hiX5 : ∀ w ∈ wsX50, w ∈ (Cond.code yX7_lowestThreeOf cX7_lowestThreeOf 6 (some .int) :: lw_good) := fun w h => List.mem_cons_of_mem _ (zi_X5 w h)
  have hw0 := hts (.fieldLink RX7 54 "BunchRace$Riders" "number" "I") (List.mem_cons_of_mem _ zw_76)
  subst hsz
  have hD := hD0.self (sz := s.heap.size)
  generalize hAe : va_A [(h0, .inr (7, [.int 0, .int 20, .ref x_totals, .ref x_points, .ref x_out])), (pRi, .inr (5, [.int 0, .ref y_teams, .ref y_steady, .ref y_full, .ref y_climb]))] s.heap.size = A at hD ⊢
  have hA : ∀ q : Nat, s.heap.size ≤ q → A q := fun q h => by rw [← hAe]; exact Or.inr h
  have hS : va_S A s.heap s.heap [] := va_S.rf
  have hP : va_P (dC, dI) vwCl [(h0, .inr (7, [.int 0, .int 20, .ref x_totals, .ref x_points, .ref x_out])), (pRi, .inr (5, [.int 0, .ref y_teams, .ref y_steady, .ref y_full, .ref y_climb]))] s.heap := hP
  have hl := lv_entry ([.ref h0, .int pT, .ref pRi]) (n := 6) (Nat.le_of_ble_eq_true rfl)
  rw [lg_entry_eq]
  generalize (lg_sl ([.ref h0, .int pT, .ref pRi]) ++ List.replicate (6 - (lg_sl ([.ref h0, .int pT, .ref pRi])).length) Slot.unset).toArray = ls at hl ⊢
  have hl : lv_has ls 6 [(0, .ref h0), (1, .int pT), (2, .ref pRi)] := hl
  refine lv_iconst (v := 0) hx hb dX7_lowestThreeOf_0 (by decide) ?_
  refine lv_istore_n (lv' := [(3, .int 0), (0, .ref h0), (1, .int pT), (2, .ref pRi)]) hx hb dX7_lowestThreeOf_1 rfl hl (by decide) rfl (fun ls hl => ?_)
  refine lv_iconst (v := 0) hx hb dX7_lowestThreeOf_2 (by decide) ?_
  refine lv_istore (lv' := [(4, .int 0), (3, .int 0), (0, .ref h0), (1, .int pT), (2, .ref pRi)]) hx hb dX7_lowestThreeOf_3 hl (by decide) rfl (fun ls hl => ?_)
  refine lv_iconst (v := 0) hx hb dX7_lowestThreeOf_5 (by decide) ?_
  refine lv_istore (lv' := [(5, .int 0), (4, .int 0), (3, .int 0), (0, .ref h0), (1, .int pT), (2, .ref pRi)]) hx hb dX7_lowestThreeOf_6 hl (by decide) rfl (fun ls hl => ?_)
  refine lv_iload hx hb dX7_lowestThreeOf_8 (lv_at hl 0 rfl) ?_
  refine lv_aload_n hx hb dX7_lowestThreeOf_10 rfl (lv_at hl 5 rfl) ?_
  refine va_get (D := (dC, dI)) (ci := 5) (v := .int 0) (C := RX5) (T := TX5) (N := 5) hx hb hts hiX5 hown hK hP 1 rfl rfl 0 (by decide) hw0 (fun _ h9 => h9) rfl dX7_lowestThreeOf_11 ?_
  refine lv_icmp_ge (tgt := 61) hx hb dX7_lowestThreeOf_14 (by decide) (fun c_1 => ?_) (fun c_1 => ?_)
  ·
    refine lv_iload_n hx hb dX7_lowestThreeOf_61 rfl (lv_at hl 2 rfl) ?_
    refine lv_iconst (v := 3) hx hb dX7_lowestThreeOf_62 (by decide) ?_
    refine lv_icmp_ge (tgt := 70) hx hb dX7_lowestThreeOf_63 (by decide) (fun c_2 => ?_) (fun c_2 => ?_)
    ·
      exact absurd c_2 (by decide)
    ·
      refine lv_iconst (v := (-1)) hx hb dX7_lowestThreeOf_66 (by decide) ?_
      refine lv_goto (tgt := 72) hx hb dX7_lowestThreeOf_67 (by decide) ?_
      have hP9 := hP.sub (ws' := []) [] rfl
      have hD9 := hD.sub (ws' := []) [] (by decide) rfl
      refine W.widen (k := 0) (n := 0) (Nat.le_of_ble_eq_true rfl) (Nat.le_of_ble_eq_true rfl) ?_
      have hu9 : ((-1) : Int32).toInt = (-1:Int) := (by decide)
      have hf9_0 : ((-1) : Int32).toInt = -1 := by omega
      exact W.iret (v := (-1)) hx hb hr (fun t ht hW => ⟨⟨(-1), (-1), rfl, rfl, hf9_0, by rw [ht]; exact hP9, va_K.moved hW.alike hK, hD9⟩, hS.F ht⟩) hS.2.2 dX7_lowestThreeOf_72
  ·
    exact absurd c_1 (by decide)

set_option maxHeartbeats 4000000 in
set_option maxRecDepth 100000 in
theorem c_X9_team (l : Launch) (dC : Nat → ClassId) (dI : Nat → Nat → Nat) (cI cZ : ClassId) (sz : Nat) (h0 : Nat) (x_riders : Nat) (x_road : Nat) (x_tape : Nat) (x_book : Nat) (x_reader : Nat) (x_latest : Nat) (x_log : Nat) (x_trial : Nat) (x_stages : Nat) (x_ri_teams : Nat) (x_ri_steady : Nat) (x_ri_full : Nat) (x_ri_climb : Nat) (x_sg_totals : Nat) (x_sg_points : Nat) (x_sg_out : Nat) (pT : Int32) (pT_i : Int) (pT_h : pT.toInt = pT_i) : Met l yX9_team (Cond.code yX9_team cX9_team 2 (some .int) :: lw_good) ({ frames := 1, cells := 0, slots := 0, locals := 25 }) (va_Pc [.ref h0, .int pT] (fun U => U.heap.size = sz ∧ va_P (dC, dI) vwCl [(h0, .inr (9, [.ref x_riders, .ref x_road, .ref x_tape, .ref x_book, .ref x_reader, .ref x_latest, .ref x_log, .ref x_trial, .ref x_stages, .int 0, .int 0, .int 0])), (x_riders, .inr (5, [.int 0, .ref x_ri_teams, .ref x_ri_steady, .ref x_ri_full, .ref x_ri_climb])), (x_stages, .inr (7, [.int 0, .int 20, .ref x_sg_totals, .ref x_sg_points, .ref x_sg_out]))] U.heap ∧ va_K (dC, dI) vwCl [(cI, .int), (cZ, .boolean)] U ∧ va_D (fun _ => True) [(h0, .inr (9, [.ref x_riders, .ref x_road, .ref x_tape, .ref x_book, .ref x_reader, .ref x_latest, .ref x_log, .ref x_trial, .ref x_stages, .int 0, .int 0, .int 0])), (x_riders, .inr (5, [.int 0, .ref x_ri_teams, .ref x_ri_steady, .ref x_ri_full, .ref x_ri_climb])), (x_stages, .inr (7, [.int 0, .int 20, .ref x_sg_totals, .ref x_sg_points, .ref x_sg_out]))])) (va_Qi (fun (r u : Int32) => r = u) (fun u t => (u.toInt = -1) ∧ va_P (dC, dI) vwCl [] t.heap ∧ va_K (dC, dI) vwCl [(cI, .int), (cZ, .boolean)] t ∧ va_D (va_A [(h0, .inr (9, [.ref x_riders, .ref x_road, .ref x_tape, .ref x_book, .ref x_reader, .ref x_latest, .ref x_log, .ref x_trial, .ref x_stages, .int 0, .int 0, .int 0])), (x_riders, .inr (5, [.int 0, .ref x_ri_teams, .ref x_ri_steady, .ref x_ri_full, .ref x_ri_climb])), (x_stages, .inr (7, [.int 0, .int 20, .ref x_sg_totals, .ref x_sg_points, .ref x_sg_out]))] sz) []) (va_A [(h0, .inr (9, [.ref x_riders, .ref x_road, .ref x_tape, .ref x_book, .ref x_reader, .ref x_latest, .ref x_log, .ref x_trial, .ref x_stages, .int 0, .int 0, .int 0])), (x_riders, .inr (5, [.int 0, .ref x_ri_teams, .ref x_ri_steady, .ref x_ri_full, .ref x_ri_climb])), (x_stages, .inr (7, [.int 0, .int 20, .ref x_sg_totals, .ref x_sg_points, .ref x_sg_out]))] sz)) 0 0 (va_A [(h0, .inr (9, [.ref x_riders, .ref x_road, .ref x_tape, .ref x_book, .ref x_reader, .ref x_latest, .ref x_log, .ref x_trial, .ref x_stages, .int 0, .int 0, .int 0])), (x_riders, .inr (5, [.int 0, .ref x_ri_teams, .ref x_ri_steady, .ref x_ri_full, .ref x_ri_climb])), (x_stages, .inr (7, [.int 0, .int 20, .ref x_sg_totals, .ref x_sg_points, .ref x_sg_out]))] sz) := by
  refine Met.ofW (cc := cX9_team) (maxL := 2) (ret := (some .int)) (by decide) rfl ?_
  intro p e s m args below meth c s₁ B hml hv
  obtain ⟨rfl, hsz, hP, hK, hD0⟩ := hv
  have hx := B.exec
  have hb := B.bytes
  have hr := B.returns
  have hts := atoms_spec (ws := Cond.code yX9_team cX9_team 2 (some .int) :: lw_good) B.pre
  have hown : s.vm.findClass RX9 = some m.cls := findClass_of_methodNamed B.named
  have hlocks := B.notSynchronized
  have hiX9 : ∀ w ∈ wsX90, w ∈ (Cond.code yX9_team cX9_team 2 (some .int) :: lw_good) := fun w h => List.mem_cons_of_mem _ (zi_X9 w h)
  have hw0 := hts (.initialized RX9) (List.mem_cons_of_mem _ zw_48)
  have hw1 := hts (.methodLink RX9 116 yX9_isTeam) (List.mem_cons_of_mem _ zw_496)
  have hw2 := hts (.static yX9_isTeam) (List.mem_cons_of_mem _ zw_380)
  have hw3 := hts (.fieldLink RX9 64 "BunchRace" "stages" "LBunchRace$Stages;") (List.mem_cons_of_mem _ zw_342)
  have hw4 := hts (.fieldLink RX9 12 "BunchRace" "riders" "LBunchRace$Riders;") (List.mem_cons_of_mem _ zw_334)
  have hw5 := hts (.initialized RX7) (List.mem_cons_of_mem _ zw_57)
  have hw6 := hts (.methodLink RX9 203 yX7_lowestThreeOf) (List.mem_cons_of_mem _ zw_681)
  have hw7 := hts (.instanceMethod yX7_lowestThreeOf) (List.mem_cons_of_mem _ zw_682)
  have hw8 := hts (.selects RX7 yX7_lowestThreeOf yX7_lowestThreeOf) (List.mem_cons_of_mem _ zw_683)
  subst hsz
  have hD := hD0.self (sz := s.heap.size)
  generalize hAe : va_A [(h0, .inr (9, [.ref x_riders, .ref x_road, .ref x_tape, .ref x_book, .ref x_reader, .ref x_latest, .ref x_log, .ref x_trial, .ref x_stages, .int 0, .int 0, .int 0])), (x_riders, .inr (5, [.int 0, .ref x_ri_teams, .ref x_ri_steady, .ref x_ri_full, .ref x_ri_climb])), (x_stages, .inr (7, [.int 0, .int 20, .ref x_sg_totals, .ref x_sg_points, .ref x_sg_out]))] s.heap.size = A at hD ⊢
  have hA : ∀ q : Nat, s.heap.size ≤ q → A q := fun q h => by rw [← hAe]; exact Or.inr h
  have hS : va_S A s.heap s.heap [] := va_S.rf
  have hP : va_P (dC, dI) vwCl [(h0, .inr (9, [.ref x_riders, .ref x_road, .ref x_tape, .ref x_book, .ref x_reader, .ref x_latest, .ref x_log, .ref x_trial, .ref x_stages, .int 0, .int 0, .int 0])), (x_riders, .inr (5, [.int 0, .ref x_ri_teams, .ref x_ri_steady, .ref x_ri_full, .ref x_ri_climb])), (x_stages, .inr (7, [.int 0, .int 20, .ref x_sg_totals, .ref x_sg_points, .ref x_sg_out]))] s.heap := hP
  have hl := lv_entry ([.ref h0, .int pT]) (n := 2) (Nat.le_of_ble_eq_true rfl)
  rw [lg_entry_eq]
  generalize (lg_sl ([.ref h0, .int pT]) ++ List.replicate (2 - (lg_sl ([.ref h0, .int pT])).length) Slot.unset).toArray = ls at hl ⊢
  have hl : lv_has ls 2 [(0, .ref h0), (1, .int pT)] := hl
  refine lv_iload_n hx hb dX9_team_0 rfl (lv_at hl 1 rfl) ?_
  have hPc := hP.sub (ws' := []) [] rfl
  have hDc := hD.sub (ws' := []) [] (by decide) rfl
  have hFc := va_free (wc := []) hD hS hA [] rfl
  refine va_calli (va_runS (As := [.int pT]) (rest := []) ⟨hx, hb, hml, hown, hts⟩ (c_X9_isTeam l dC dI cI cZ (s.heap).size pT pT_i pT_h) ⟨callB_of 1 hts (zz_good zw_381) rfl rfl rfl hw0 hw1 (by decide +kernel) ⟨Nat.le_of_ble_eq_true rfl, Nat.le_of_ble_eq_true rfl⟩, hw2⟩ ⟨fun a U g mk q => by obtain ⟨q0, q1, qP, qK, qD⟩ := q; exact ⟨q0, q1, qP, va_K.moved (u := U) (U := U.calling g mk a) (Vm.Alike.refl U.vm) qK, qD⟩, fun U hU hW => ⟨rfl, by rw [hU], by rw [hU]; exact hPc, va_K.moved hW.alike hK, hDc.weaken (fun _ _ _ _ => trivial)⟩⟩ rfl rfl hl.1 rfl (lv_room (Nat.le_of_ble_eq_true rfl)) dX9_team_1 ⟨Nat.le_of_ble_eq_true rfl, Nat.le_of_ble_eq_true rfl⟩) hS (fun q _ h => hFc q h) hFc (fun r_1 u t H1 locs ht hvm hpost hB hz1 hk1 hS => ?_)
  subst hpost
  obtain ⟨hf_2, hP1, hK1, hD1⟩ := hB
  rw [ht] at hP1
  obtain ⟨hP, hD⟩ := va_join (wr := [(h0, .inr (9, [.ref x_riders, .ref x_road, .ref x_tape, .ref x_book, .ref x_reader, .ref x_latest, .ref x_log, .ref x_trial, .ref x_stages, .int 0, .int 0, .int 0])), (x_riders, .inr (5, [.int 0, .ref x_ri_teams, .ref x_ri_steady, .ref x_ri_full, .ref x_ri_climb])), (x_stages, .inr (7, [.int 0, .int 20, .ref x_sg_totals, .ref x_sg_points, .ref x_sg_out]))]) (w1 := []) hP hD [] [0, 1, 2] rfl rfl (by decide) (by decide) hk1 hFc hP1 hD1
  generalize H1 = H at hP hS ⊢
  have hP : va_P (dC, dI) vwCl [(h0, .inr (9, [.ref x_riders, .ref x_road, .ref x_tape, .ref x_book, .ref x_reader, .ref x_latest, .ref x_log, .ref x_trial, .ref x_stages, .int 0, .int 0, .int 0])), (x_riders, .inr (5, [.int 0, .ref x_ri_teams, .ref x_ri_steady, .ref x_ri_full, .ref x_ri_climb])), (x_stages, .inr (7, [.int 0, .int 20, .ref x_sg_totals, .ref x_sg_points, .ref x_sg_out]))] H := hP
  have hD : va_D A [(h0, .inr (9, [.ref x_riders, .ref x_road, .ref x_tape, .ref x_book, .ref x_reader, .ref x_latest, .ref x_log, .ref x_trial, .ref x_stages, .int 0, .int 0, .int 0])), (x_riders, .inr (5, [.int 0, .ref x_ri_teams, .ref x_ri_steady, .ref x_ri_full, .ref x_ri_climb])), (x_stages, .inr (7, [.int 0, .int 20, .ref x_sg_totals, .ref x_sg_points, .ref x_sg_out]))] := hD
  have hf_2 : (r_1 = 1 ∧ (0 ≤ pT_i ∧ pT_i ≤ 4)) ∨ (r_1 = 0 ∧ ¬ (0 ≤ pT_i ∧ pT_i ≤ 4)) := hf_2
  rcases hf_2 with ⟨rfl, hf_2⟩ | ⟨rfl, hf_2⟩
  ·
    refine lv_if_ne (tgt := 9) hx hb dX9_team_4 (by decide) (fun c_3 => ?_) (fun c_3 => ?_)
    ·
      refine lv_aload_n hx hb dX9_team_9 rfl (lv_at hl 0 rfl) ?_
      refine va_get (D := (dC, dI)) (ci := 9) (v := .ref x_stages) (C := RX9) (T := TX9) (N := 12) hx hb hts hiX9 hown hK hP 0 rfl rfl 8 (by decide) hw3 (fun _ h9 => h9) rfl dX9_team_10 ?_
      refine lv_iload_n hx hb dX9_team_13 rfl (lv_at hl 1 rfl) ?_
      refine lv_aload_n hx hb dX9_team_14 rfl (lv_at hl 0 rfl) ?_
      refine va_get (D := (dC, dI)) (ci := 9) (v := .ref x_riders) (C := RX9) (T := TX9) (N := 12) hx hb hts hiX9 hown hK hP 0 rfl rfl 0 (by decide) hw4 (fun _ h9 => h9) rfl dX9_team_15 ?_
      have hPc := hP.sub (ws' := [(x_stages, .inr (7, [.int 0, .int 20, .ref x_sg_totals, .ref x_sg_points, .ref x_sg_out])), (x_riders, .inr (5, [.int 0, .ref x_ri_teams, .ref x_ri_steady, .ref x_ri_full, .ref x_ri_climb]))]) [2, 1] rfl
      have hDc := hD.sub (ws' := [(x_stages, .inr (7, [.int 0, .int 20, .ref x_sg_totals, .ref x_sg_points, .ref x_sg_out])), (x_riders, .inr (5, [.int 0, .ref x_ri_teams, .ref x_ri_steady, .ref x_ri_full, .ref x_ri_climb]))]) [2, 1] (by decide) rfl
      have hFc := va_free (wc := [(x_stages, .inr (7, [.int 0, .int 20, .ref x_sg_totals, .ref x_sg_points, .ref x_sg_out])), (x_riders, .inr (5, [.int 0, .ref x_ri_teams, .ref x_ri_steady, .ref x_ri_full, .ref x_ri_climb]))]) hD hS hA [2, 1] rfl
      refine va_calli (va_runV (As := [.int pT, .ref x_riders]) (rest := []) ⟨hx, hb, hml, hown, hts⟩ (c_X7_lowestThreeOf l dC dI cI cZ (H).size x_stages x_sg_totals x_sg_points x_sg_out x_riders x_ri_teams x_ri_steady x_ri_full x_ri_climb pT pT_i pT_h) ⟨callB_of 2 hts (zz_good zw_684) rfl rfl rfl hw5 hw6 (by decide +kernel) ⟨Nat.le_of_ble_eq_true rfl, Nat.le_of_ble_eq_true rfl⟩, hw7, hw8⟩ ⟨fun a U g mk q => by obtain ⟨q0, q1, qP, qK, qD⟩ := q; exact ⟨q0, q1, qP, va_K.moved (u := U) (U := U.calling g mk a) (Vm.Alike.refl U.vm) qK, qD⟩, va_recv hK hPc (ci := 7) (q0 := 0) rfl rfl, fun U hU hW => ⟨rfl, by rw [hU], by rw [hU]; exact hPc, va_K.moved hW.alike hK, hDc.weaken (fun _ _ _ _ => trivial)⟩⟩ rfl rfl hl.1 rfl (lv_room (Nat.le_of_ble_eq_true rfl)) dX9_team_18 ⟨Nat.le_of_ble_eq_true rfl, Nat.le_of_ble_eq_true rfl⟩) hS (fun q _ h => hFc q h) hFc (fun r_4 u t H1 locs ht hvm hpost hB hz1 hk1 hS => ?_)
      subst hpost
      obtain ⟨hf_5, hP1, hK1, hD1⟩ := hB
      rw [ht] at hP1
      obtain ⟨hP, hD⟩ := va_join (wr := [(h0, .inr (9, [.ref x_riders, .ref x_road, .ref x_tape, .ref x_book, .ref x_reader, .ref x_latest, .ref x_log, .ref x_trial, .ref x_stages, .int 0, .int 0, .int 0]))]) (w1 := []) hP hD [2, 1] [0] rfl rfl (by decide) (by decide) hk1 hFc hP1 hD1
      generalize H1 = H at hP hS ⊢
      have hP : va_P (dC, dI) vwCl [(h0, .inr (9, [.ref x_riders, .ref x_road, .ref x_tape, .ref x_book, .ref x_reader, .ref x_latest, .ref x_log, .ref x_trial, .ref x_stages, .int 0, .int 0, .int 0]))] H := hP
      have hD : va_D A [(h0, .inr (9, [.ref x_riders, .ref x_road, .ref x_tape, .ref x_book, .ref x_reader, .ref x_latest, .ref x_log, .ref x_trial, .ref x_stages, .int 0, .int 0, .int 0]))] := hD
      have hf_5 : r_4.toInt = -1 := hf_5
      obtain rfl : r_4 = (-1) := Int32.toInt_inj.mp (hf_5.trans (by decide))
      have hP9 := hP.sub (ws' := []) [] rfl
      have hD9 := hD.sub (ws' := []) [] (by decide) rfl
      refine W.widen (k := 0) (n := 0) (Nat.le_of_ble_eq_true rfl) (Nat.le_of_ble_eq_true rfl) ?_
      have hu9 : ((-1) : Int32).toInt = (-1:Int) := (by decide)
      have hf9_0 : ((-1) : Int32).toInt = -1 := by omega
      exact W.iret (v := (-1)) hx hb hr (fun t ht hW => ⟨⟨(-1), (-1), rfl, rfl, hf9_0, by rw [ht]; exact hP9, va_K.moved hW.alike hK, hD9⟩, hS.F ht⟩) hS.2.2 dX9_team_21
    ·
      exact absurd c_3 (by decide)
  ·
    refine lv_if_ne (tgt := 9) hx hb dX9_team_4 (by decide) (fun c_6 => ?_) (fun c_6 => ?_)
    ·
      exact absurd c_6 (by decide)
    ·
      refine lv_iconst (v := (-1)) hx hb dX9_team_7 (by decide) ?_
      have hP9 := hP.sub (ws' := []) [] rfl
      have hD9 := hD.sub (ws' := []) [] (by decide) rfl
      refine W.widen (k := 0) (n := 0) (Nat.le_of_ble_eq_true rfl) (Nat.le_of_ble_eq_true rfl) ?_
      have hu9 : ((-1) : Int32).toInt = (-1:Int) := (by decide)
      have hf9_0 : ((-1) : Int32).toInt = -1 := by omega
      exact W.iret (v := (-1)) hx hb hr (fun t ht hW => ⟨⟨(-1), (-1), rfl, rfl, hf9_0, by rw [ht]; exact hP9, va_K.moved hW.alike hK, hD9⟩, hS.F ht⟩) hS.2.2 dX9_team_8

set_option maxHeartbeats 4000000 in
set_option maxRecDepth 100000 in
theorem c_X9_canTry (l : Launch) (dC : Nat → ClassId) (dI : Nat → Nat → Nat) (cI cZ : ClassId) (sz : Nat) (h0 : Nat) (x_riders : Nat) (x_road : Nat) (x_tape : Nat) (x_book : Nat) (x_reader : Nat) (x_latest : Nat) (x_log : Nat) (x_trial : Nat) (x_stages : Nat) (x_ri_teams : Nat) (x_ri_steady : Nat) (x_ri_full : Nat) (x_ri_climb : Nat) (x_ro_rises : Nat) (x_ro_winds : Nat) (x_ro_primeMetres : Nat) (pT : Int32) (pT_i : Int) (pT_h : pT.toInt = pT_i) (pM : Int32) (pM_i : Int) (pM_h : pM.toInt = pM_i) : Met l yX9_canTry (Cond.code yX9_canTry cX9_canTry 3 (some .boolean) :: lw_good) ({ frames := 2, cells := 0, slots := 0, locals := 41 }) (va_Pc [.ref h0, .int pT, .int pM] (fun U => U.heap.size = sz ∧ va_P (dC, dI) vwCl [(h0, .inr (9, [.ref x_riders, .ref x_road, .ref x_tape, .ref x_book, .ref x_reader, .ref x_latest, .ref x_log, .ref x_trial, .ref x_stages, .int 0, .int 0, .int 0])), (x_riders, .inr (5, [.int 0, .ref x_ri_teams, .ref x_ri_steady, .ref x_ri_full, .ref x_ri_climb])), (x_road, .inr (6, [.int 1, .ref x_ro_rises, .ref x_ro_winds, .int 0, .ref x_ro_primeMetres, .int 0, .int 0]))] U.heap ∧ va_K (dC, dI) vwCl [(cI, .int), (cZ, .boolean)] U ∧ va_D (fun _ => True) [(h0, .inr (9, [.ref x_riders, .ref x_road, .ref x_tape, .ref x_book, .ref x_reader, .ref x_latest, .ref x_log, .ref x_trial, .ref x_stages, .int 0, .int 0, .int 0])), (x_riders, .inr (5, [.int 0, .ref x_ri_teams, .ref x_ri_steady, .ref x_ri_full, .ref x_ri_climb])), (x_road, .inr (6, [.int 1, .ref x_ro_rises, .ref x_ro_winds, .int 0, .ref x_ro_primeMetres, .int 0, .int 0]))])) (va_Qi (fun (r u : Int32) => r = u) (fun u t => (u.toInt = 0) ∧ va_P (dC, dI) vwCl [] t.heap ∧ va_K (dC, dI) vwCl [(cI, .int), (cZ, .boolean)] t ∧ va_D (va_A [(h0, .inr (9, [.ref x_riders, .ref x_road, .ref x_tape, .ref x_book, .ref x_reader, .ref x_latest, .ref x_log, .ref x_trial, .ref x_stages, .int 0, .int 0, .int 0])), (x_riders, .inr (5, [.int 0, .ref x_ri_teams, .ref x_ri_steady, .ref x_ri_full, .ref x_ri_climb])), (x_road, .inr (6, [.int 1, .ref x_ro_rises, .ref x_ro_winds, .int 0, .ref x_ro_primeMetres, .int 0, .int 0]))] sz) []) (va_A [(h0, .inr (9, [.ref x_riders, .ref x_road, .ref x_tape, .ref x_book, .ref x_reader, .ref x_latest, .ref x_log, .ref x_trial, .ref x_stages, .int 0, .int 0, .int 0])), (x_riders, .inr (5, [.int 0, .ref x_ri_teams, .ref x_ri_steady, .ref x_ri_full, .ref x_ri_climb])), (x_road, .inr (6, [.int 1, .ref x_ro_rises, .ref x_ro_winds, .int 0, .ref x_ro_primeMetres, .int 0, .int 0]))] sz)) 0 0 (va_A [(h0, .inr (9, [.ref x_riders, .ref x_road, .ref x_tape, .ref x_book, .ref x_reader, .ref x_latest, .ref x_log, .ref x_trial, .ref x_stages, .int 0, .int 0, .int 0])), (x_riders, .inr (5, [.int 0, .ref x_ri_teams, .ref x_ri_steady, .ref x_ri_full, .ref x_ri_climb])), (x_road, .inr (6, [.int 1, .ref x_ro_rises, .ref x_ro_winds, .int 0, .ref x_ro_primeMetres, .int 0, .int 0]))] sz) := by
  refine Met.ofW (cc := cX9_canTry) (maxL := 3) (ret := (some .boolean)) (by decide) rfl ?_
  intro p e s m args below meth c s₁ B hml hv
  obtain ⟨rfl, hsz, hP, hK, hD0⟩ := hv
  have hx := B.exec
  have hb := B.bytes
  have hr := B.returns
  have hts := atoms_spec (ws := Cond.code yX9_canTry cX9_canTry 3 (some .boolean) :: lw_good) B.pre
  have hown : s.vm.findClass RX9 = some m.cls := findClass_of_methodNamed B.named
  have hlocks := B.notSynchronized
  have hiX5 : ∀ w ∈ wsX50, w ∈ (Cond.code yX9_canTry cX9_canTry 3 (some .boolean) :: lw_good) := fun w h => List.mem_cons_of_mem _ (zi_X5 w h)
  have hiX9 : ∀ w ∈ wsX90, w ∈ (Cond.code yX9_canTry cX9_canTry 3 (some .boolean) :: lw_good) := fun w h => List.mem_cons_of_mem _ (zi_X9 w h)
  have hw0 := hts (.initialized RX9) (List.mem_cons_of_mem _ zw_48)
  have hw1 := hts (.methodLink RX9 116 yX9_isTeam) (List.mem_cons_of_mem _ zw_496)
  have hw2 := hts (.static yX9_isTeam) (List.mem_cons_of_mem _ zw_380)
  have hw3 := hts (.fieldLink RX9 19 "BunchRace" "road" "LBunchRace$Road;") (List.mem_cons_of_mem _ zw_335)
  have hw4 := hts (.initialized RX6) (List.mem_cons_of_mem _ zw_50)
  have hw5 := hts (.methodLink RX9 224 yX6_isBetweenEnds) (List.mem_cons_of_mem _ zw_701)
  have hw6 := hts (.instanceMethod yX6_isBetweenEnds) (List.mem_cons_of_mem _ zw_407)
  have hw7 := hts (.selects RX6 yX6_isBetweenEnds yX6_isBetweenEnds) (List.mem_cons_of_mem _ zw_408)
  have hw8 := hts (.fieldLink RX9 12 "BunchRace" "riders" "LBunchRace$Riders;") (List.mem_cons_of_mem _ zw_334)
  have hw9 := hts (.fieldLink RX9 122 "BunchRace$Riders" "number" "I") (List.mem_cons_of_mem _ zw_77)
  subst hsz
  have hD := hD0.self (sz := s.heap.size)
  generalize hAe : va_A [(h0, .inr (9, [.ref x_riders, .ref x_road, .ref x_tape, .ref x_book, .ref x_reader, .ref x_latest, .ref x_log, .ref x_trial, .ref x_stages, .int 0, .int 0, .int 0])), (x_riders, .inr (5, [.int 0, .ref x_ri_teams, .ref x_ri_steady, .ref x_ri_full, .ref x_ri_climb])), (x_road, .inr (6, [.int 1, .ref x_ro_rises, .ref x_ro_winds, .int 0, .ref x_ro_primeMetres, .int 0, .int 0]))] s.heap.size = A at hD ⊢
  have hA : ∀ q : Nat, s.heap.size ≤ q → A q := fun q h => by rw [← hAe]; exact Or.inr h
  have hS : va_S A s.heap s.heap [] := va_S.rf
  have hP : va_P (dC, dI) vwCl [(h0, .inr (9, [.ref x_riders, .ref x_road, .ref x_tape, .ref x_book, .ref x_reader, .ref x_latest, .ref x_log, .ref x_trial, .ref x_stages, .int 0, .int 0, .int 0])), (x_riders, .inr (5, [.int 0, .ref x_ri_teams, .ref x_ri_steady, .ref x_ri_full, .ref x_ri_climb])), (x_road, .inr (6, [.int 1, .ref x_ro_rises, .ref x_ro_winds, .int 0, .ref x_ro_primeMetres, .int 0, .int 0]))] s.heap := hP
  have hl := lv_entry ([.ref h0, .int pT, .int pM]) (n := 3) (Nat.le_of_ble_eq_true rfl)
  rw [lg_entry_eq]
  generalize (lg_sl ([.ref h0, .int pT, .int pM]) ++ List.replicate (3 - (lg_sl ([.ref h0, .int pT, .int pM])).length) Slot.unset).toArray = ls at hl ⊢
  have hl : lv_has ls 3 [(0, .ref h0), (1, .int pT), (2, .int pM)] := hl
  refine lv_iload_n hx hb dX9_canTry_0 rfl (lv_at hl 1 rfl) ?_
  have hPc := hP.sub (ws' := []) [] rfl
  have hDc := hD.sub (ws' := []) [] (by decide) rfl
  have hFc := va_free (wc := []) hD hS hA [] rfl
  refine va_calli (va_runS (As := [.int pT]) (rest := []) ⟨hx, hb, hml, hown, hts⟩ (c_X9_isTeam l dC dI cI cZ (s.heap).size pT pT_i pT_h) ⟨callB_of 1 hts (zz_good zw_381) rfl rfl rfl hw0 hw1 (by decide +kernel) ⟨Nat.le_of_ble_eq_true rfl, Nat.le_of_ble_eq_true rfl⟩, hw2⟩ ⟨fun a U g mk q => by obtain ⟨q0, q1, qP, qK, qD⟩ := q; exact ⟨q0, q1, qP, va_K.moved (u := U) (U := U.calling g mk a) (Vm.Alike.refl U.vm) qK, qD⟩, fun U hU hW => ⟨rfl, by rw [hU], by rw [hU]; exact hPc, va_K.moved hW.alike hK, hDc.weaken (fun _ _ _ _ => trivial)⟩⟩ rfl rfl hl.1 rfl (lv_room (Nat.le_of_ble_eq_true rfl)) dX9_canTry_1 ⟨Nat.le_of_ble_eq_true rfl, Nat.le_of_ble_eq_true rfl⟩) hS (fun q _ h => hFc q h) hFc (fun r_1 u t H1 locs ht hvm hpost hB hz1 hk1 hS => ?_)
  subst hpost
  obtain ⟨hf_2, hP1, hK1, hD1⟩ := hB
  rw [ht] at hP1
  obtain ⟨hP, hD⟩ := va_join (wr := [(h0, .inr (9, [.ref x_riders, .ref x_road, .ref x_tape, .ref x_book, .ref x_reader, .ref x_latest, .ref x_log, .ref x_trial, .ref x_stages, .int 0, .int 0, .int 0])), (x_riders, .inr (5, [.int 0, .ref x_ri_teams, .ref x_ri_steady, .ref x_ri_full, .ref x_ri_climb])), (x_road, .inr (6, [.int 1, .ref x_ro_rises, .ref x_ro_winds, .int 0, .ref x_ro_primeMetres, .int 0, .int 0]))]) (w1 := []) hP hD [] [0, 1, 2] rfl rfl (by decide) (by decide) hk1 hFc hP1 hD1
  generalize H1 = H at hP hS ⊢
  have hP : va_P (dC, dI) vwCl [(h0, .inr (9, [.ref x_riders, .ref x_road, .ref x_tape, .ref x_book, .ref x_reader, .ref x_latest, .ref x_log, .ref x_trial, .ref x_stages, .int 0, .int 0, .int 0])), (x_riders, .inr (5, [.int 0, .ref x_ri_teams, .ref x_ri_steady, .ref x_ri_full, .ref x_ri_climb])), (x_road, .inr (6, [.int 1, .ref x_ro_rises, .ref x_ro_winds, .int 0, .ref x_ro_primeMetres, .int 0, .int 0]))] H := hP
  have hD : va_D A [(h0, .inr (9, [.ref x_riders, .ref x_road, .ref x_tape, .ref x_book, .ref x_reader, .ref x_latest, .ref x_log, .ref x_trial, .ref x_stages, .int 0, .int 0, .int 0])), (x_riders, .inr (5, [.int 0, .ref x_ri_teams, .ref x_ri_steady, .ref x_ri_full, .ref x_ri_climb])), (x_road, .inr (6, [.int 1, .ref x_ro_rises, .ref x_ro_winds, .int 0, .ref x_ro_primeMetres, .int 0, .int 0]))] := hD
  have hf_2 : (r_1 = 1 ∧ (0 ≤ pT_i ∧ pT_i ≤ 4)) ∨ (r_1 = 0 ∧ ¬ (0 ≤ pT_i ∧ pT_i ≤ 4)) := hf_2
  rcases hf_2 with ⟨rfl, hf_2⟩ | ⟨rfl, hf_2⟩
  ·
    refine lv_if_eq (tgt := 32) hx hb dX9_canTry_4 (by decide) (fun c_3 => ?_) (fun c_3 => ?_)
    ·
      exact absurd c_3 (by decide)
    ·
      refine lv_aload_n hx hb dX9_canTry_7 rfl (lv_at hl 0 rfl) ?_
      refine va_get (D := (dC, dI)) (ci := 9) (v := .ref x_road) (C := RX9) (T := TX9) (N := 12) hx hb hts hiX9 hown hK hP 0 rfl rfl 1 (by decide) hw3 (fun _ h9 => h9) rfl dX9_canTry_8 ?_
      refine lv_iload_n hx hb dX9_canTry_11 rfl (lv_at hl 2 rfl) ?_
      have hPc := hP.sub (ws' := [(x_road, .inr (6, [.int 1, .ref x_ro_rises, .ref x_ro_winds, .int 0, .ref x_ro_primeMetres, .int 0, .int 0]))]) [2] rfl
      have hDc := hD.sub (ws' := [(x_road, .inr (6, [.int 1, .ref x_ro_rises, .ref x_ro_winds, .int 0, .ref x_ro_primeMetres, .int 0, .int 0]))]) [2] (by decide) rfl
      have hFc := va_free (wc := [(x_road, .inr (6, [.int 1, .ref x_ro_rises, .ref x_ro_winds, .int 0, .ref x_ro_primeMetres, .int 0, .int 0]))]) hD hS hA [2] rfl
      refine va_calli (va_runV (As := [.int pM]) (rest := []) ⟨hx, hb, hml, hown, hts⟩ (c_X6_isBetweenEnds l dC dI cI cZ (H).size x_road x_ro_rises x_ro_winds x_ro_primeMetres pM pM_i pM_h) ⟨callB_of 1 hts (zz_good zw_409) rfl rfl rfl hw4 hw5 (by decide +kernel) ⟨Nat.le_of_ble_eq_true rfl, Nat.le_of_ble_eq_true rfl⟩, hw6, hw7⟩ ⟨fun a U g mk q => by obtain ⟨q0, q1, qP, qK, qD⟩ := q; exact ⟨q0, q1, qP, va_K.moved (u := U) (U := U.calling g mk a) (Vm.Alike.refl U.vm) qK, qD⟩, va_recv hK hPc (ci := 6) (q0 := 0) rfl rfl, fun U hU hW => ⟨rfl, by rw [hU], by rw [hU]; exact hPc, va_K.moved hW.alike hK, hDc.weaken (fun _ _ _ _ => trivial)⟩⟩ rfl rfl hl.1 rfl (lv_room (Nat.le_of_ble_eq_true rfl)) dX9_canTry_12 ⟨Nat.le_of_ble_eq_true rfl, Nat.le_of_ble_eq_true rfl⟩) hS (fun q _ h => hFc q h) hFc (fun r_4 u t H1 locs ht hvm hpost hB hz1 hk1 hS => ?_)
      subst hpost
      obtain ⟨hf_5, hP1, hK1, hD1⟩ := hB
      rw [ht] at hP1
      obtain ⟨hP, hD⟩ := va_join (wr := [(h0, .inr (9, [.ref x_riders, .ref x_road, .ref x_tape, .ref x_book, .ref x_reader, .ref x_latest, .ref x_log, .ref x_trial, .ref x_stages, .int 0, .int 0, .int 0])), (x_riders, .inr (5, [.int 0, .ref x_ri_teams, .ref x_ri_steady, .ref x_ri_full, .ref x_ri_climb]))]) (w1 := [(x_road, .inr (6, [.int 1, .ref x_ro_rises, .ref x_ro_winds, .int 0, .ref x_ro_primeMetres, .int 0, .int 0]))]) hP hD [2] [0, 1] rfl rfl (by decide) (by decide) hk1 hFc hP1 hD1
      generalize H1 = H at hP hS ⊢
      have hP : va_P (dC, dI) vwCl [(h0, .inr (9, [.ref x_riders, .ref x_road, .ref x_tape, .ref x_book, .ref x_reader, .ref x_latest, .ref x_log, .ref x_trial, .ref x_stages, .int 0, .int 0, .int 0])), (x_riders, .inr (5, [.int 0, .ref x_ri_teams, .ref x_ri_steady, .ref x_ri_full, .ref x_ri_climb])), (x_road, .inr (6, [.int 1, .ref x_ro_rises, .ref x_ro_winds, .int 0, .ref x_ro_primeMetres, .int 0, .int 0]))] H := hP
      have hD : va_D A [(h0, .inr (9, [.ref x_riders, .ref x_road, .ref x_tape, .ref x_book, .ref x_reader, .ref x_latest, .ref x_log, .ref x_trial, .ref x_stages, .int 0, .int 0, .int 0])), (x_riders, .inr (5, [.int 0, .ref x_ri_teams, .ref x_ri_steady, .ref x_ri_full, .ref x_ri_climb])), (x_road, .inr (6, [.int 1, .ref x_ro_rises, .ref x_ro_winds, .int 0, .ref x_ro_primeMetres, .int 0, .int 0]))] := hD
      have hf_5 : (r_4 = 1 ∧ (1 ≤ pM_i ∧ pM_i ≤ 999)) ∨ (r_4 = 0 ∧ ¬ (1 ≤ pM_i ∧ pM_i ≤ 999)) := hf_5
      rcases hf_5 with ⟨rfl, hf_5⟩ | ⟨rfl, hf_5⟩
      ·
        refine lv_if_eq (tgt := 32) hx hb dX9_canTry_15 (by decide) (fun c_6 => ?_) (fun c_6 => ?_)
        ·
          exact absurd c_6 (by decide)
        ·
          refine lv_aload_n hx hb dX9_canTry_18 rfl (lv_at hl 0 rfl) ?_
          refine va_get (D := (dC, dI)) (ci := 9) (v := .ref x_riders) (C := RX9) (T := TX9) (N := 12) hx hb hts hiX9 hown hK hP 0 rfl rfl 0 (by decide) hw8 (fun _ h9 => h9) rfl dX9_canTry_19 ?_
          refine va_get (D := (dC, dI)) (ci := 5) (v := .int 0) (C := RX5) (T := TX5) (N := 5) hx hb hts hiX5 hown hK hP 1 rfl rfl 0 (by decide) hw9 (fun _ h9 => h9) rfl dX9_canTry_22 ?_
          refine lv_if_le (tgt := 32) hx hb dX9_canTry_25 (by decide) (fun c_7 => ?_) (fun c_7 => ?_)
          ·
            refine lv_iconst (v := 0) hx hb dX9_canTry_32 (by decide) ?_
            have hP9 := hP.sub (ws' := []) [] rfl
            have hD9 := hD.sub (ws' := []) [] (by decide) rfl
            refine W.widen (k := 0) (n := 0) (Nat.le_of_ble_eq_true rfl) (Nat.le_of_ble_eq_true rfl) ?_
            have hu9 : (0 : Int32).toInt = (0:Int) := (by decide)
            have hf9_0 : (0 : Int32).toInt = 0 := by omega
            exact W.zret (v := 0) hx hb hr rfl (fun t ht hW => ⟨⟨0, 0, rfl, rfl, hf9_0, by rw [ht]; exact hP9, va_K.moved hW.alike hK, hD9⟩, hS.F ht⟩) hS.2.2 dX9_canTry_33
          ·
            exact absurd c_7 (by decide)
      ·
        refine lv_if_eq (tgt := 32) hx hb dX9_canTry_15 (by decide) (fun c_8 => ?_) (fun c_8 => ?_)
        ·
          refine lv_iconst (v := 0) hx hb dX9_canTry_32 (by decide) ?_
          have hP9 := hP.sub (ws' := []) [] rfl
          have hD9 := hD.sub (ws' := []) [] (by decide) rfl
          refine W.widen (k := 0) (n := 0) (Nat.le_of_ble_eq_true rfl) (Nat.le_of_ble_eq_true rfl) ?_
          have hu9 : (0 : Int32).toInt = (0:Int) := (by decide)
          have hf9_0 : (0 : Int32).toInt = 0 := by omega
          exact W.zret (v := 0) hx hb hr rfl (fun t ht hW => ⟨⟨0, 0, rfl, rfl, hf9_0, by rw [ht]; exact hP9, va_K.moved hW.alike hK, hD9⟩, hS.F ht⟩) hS.2.2 dX9_canTry_33
        ·
          exact absurd c_8 (by decide)
  ·
    refine lv_if_eq (tgt := 32) hx hb dX9_canTry_4 (by decide) (fun c_9 => ?_) (fun c_9 => ?_)
    ·
      refine lv_iconst (v := 0) hx hb dX9_canTry_32 (by decide) ?_
      have hP9 := hP.sub (ws' := []) [] rfl
      have hD9 := hD.sub (ws' := []) [] (by decide) rfl
      refine W.widen (k := 0) (n := 0) (Nat.le_of_ble_eq_true rfl) (Nat.le_of_ble_eq_true rfl) ?_
      have hu9 : (0 : Int32).toInt = (0:Int) := (by decide)
      have hf9_0 : (0 : Int32).toInt = 0 := by omega
      exact W.zret (v := 0) hx hb hr rfl (fun t ht hW => ⟨⟨0, 0, rfl, rfl, hf9_0, by rw [ht]; exact hP9, va_K.moved hW.alike hK, hD9⟩, hS.F ht⟩) hS.2.2 dX9_canTry_33
    ·
      exact absurd c_9 (by decide)

set_option maxHeartbeats 4000000 in
set_option maxRecDepth 100000 in
theorem c_X9_attempt (l : Launch) (dC : Nat → ClassId) (dI : Nat → Nat → Nat) (cI cZ : ClassId) (sz : Nat) (h0 : Nat) (x_riders : Nat) (x_road : Nat) (x_tape : Nat) (x_book : Nat) (x_reader : Nat) (x_latest : Nat) (x_log : Nat) (x_trial : Nat) (x_stages : Nat) (x_ri_teams : Nat) (x_ri_steady : Nat) (x_ri_full : Nat) (x_ri_climb : Nat) (x_ro_rises : Nat) (x_ro_winds : Nat) (x_ro_primeMetres : Nat) (pT : Int32) (pT_i : Int) (pT_h : pT.toInt = pT_i) (pM : Int32) (pM_i : Int) (pM_h : pM.toInt = pM_i) (pA : Int32) (pA_i : Int) (pA_h : pA.toInt = pA_i) (pB : Int32) (pB_i : Int) (pB_h : pB.toInt = pB_i) (pSeed : Int64) : Met l yX9_attempt (Cond.code yX9_attempt cX9_attempt 7 (some .int) :: lw_good) ({ frames := 3, cells := 0, slots := 0, locals := 63 }) (va_Pc [.ref h0, .int pT, .int pM, .int pA, .int pB, .long pSeed] (fun U => U.heap.size = sz ∧ va_P (dC, dI) vwCl [(h0, .inr (9, [.ref x_riders, .ref x_road, .ref x_tape, .ref x_book, .ref x_reader, .ref x_latest, .ref x_log, .ref x_trial, .ref x_stages, .int 0, .int 0, .int 0])), (x_riders, .inr (5, [.int 0, .ref x_ri_teams, .ref x_ri_steady, .ref x_ri_full, .ref x_ri_climb])), (x_road, .inr (6, [.int 1, .ref x_ro_rises, .ref x_ro_winds, .int 0, .ref x_ro_primeMetres, .int 0, .int 0]))] U.heap ∧ va_K (dC, dI) vwCl [(cI, .int), (cZ, .boolean)] U ∧ va_D (fun _ => True) [(h0, .inr (9, [.ref x_riders, .ref x_road, .ref x_tape, .ref x_book, .ref x_reader, .ref x_latest, .ref x_log, .ref x_trial, .ref x_stages, .int 0, .int 0, .int 0])), (x_riders, .inr (5, [.int 0, .ref x_ri_teams, .ref x_ri_steady, .ref x_ri_full, .ref x_ri_climb])), (x_road, .inr (6, [.int 1, .ref x_ro_rises, .ref x_ro_winds, .int 0, .ref x_ro_primeMetres, .int 0, .int 0]))])) (va_Qi (fun (r u : Int32) => r = u) (fun u t => (u.toInt = -1) ∧ va_P (dC, dI) vwCl [] t.heap ∧ va_K (dC, dI) vwCl [(cI, .int), (cZ, .boolean)] t ∧ va_D (va_A [(h0, .inr (9, [.ref x_riders, .ref x_road, .ref x_tape, .ref x_book, .ref x_reader, .ref x_latest, .ref x_log, .ref x_trial, .ref x_stages, .int 0, .int 0, .int 0])), (x_riders, .inr (5, [.int 0, .ref x_ri_teams, .ref x_ri_steady, .ref x_ri_full, .ref x_ri_climb])), (x_road, .inr (6, [.int 1, .ref x_ro_rises, .ref x_ro_winds, .int 0, .ref x_ro_primeMetres, .int 0, .int 0]))] sz) []) (va_A [(h0, .inr (9, [.ref x_riders, .ref x_road, .ref x_tape, .ref x_book, .ref x_reader, .ref x_latest, .ref x_log, .ref x_trial, .ref x_stages, .int 0, .int 0, .int 0])), (x_riders, .inr (5, [.int 0, .ref x_ri_teams, .ref x_ri_steady, .ref x_ri_full, .ref x_ri_climb])), (x_road, .inr (6, [.int 1, .ref x_ro_rises, .ref x_ro_winds, .int 0, .ref x_ro_primeMetres, .int 0, .int 0]))] sz)) 0 0 (va_A [(h0, .inr (9, [.ref x_riders, .ref x_road, .ref x_tape, .ref x_book, .ref x_reader, .ref x_latest, .ref x_log, .ref x_trial, .ref x_stages, .int 0, .int 0, .int 0])), (x_riders, .inr (5, [.int 0, .ref x_ri_teams, .ref x_ri_steady, .ref x_ri_full, .ref x_ri_climb])), (x_road, .inr (6, [.int 1, .ref x_ro_rises, .ref x_ro_winds, .int 0, .ref x_ro_primeMetres, .int 0, .int 0]))] sz) := by
  refine Met.ofW (cc := cX9_attempt) (maxL := 7) (ret := (some .int)) (by decide) rfl ?_
  intro p e s m args below meth c s₁ B hml hv
  obtain ⟨rfl, hsz, hP, hK, hD0⟩ := hv
  have hx := B.exec
  have hb := B.bytes
  have hr := B.returns
  have hts := atoms_spec (ws := Cond.code yX9_attempt cX9_attempt 7 (some .int) :: lw_good) B.pre
  have hown : s.vm.findClass RX9 = some m.cls := findClass_of_methodNamed B.named
  have hlocks := B.notSynchronized
  have hw0 := hts (.initialized RX9) (List.mem_cons_of_mem _ zw_48)
  have hw1 := hts (.methodLink RX9 207 yX9_canTry) (List.mem_cons_of_mem _ zw_697)
  have hw2 := hts (.instanceMethod yX9_canTry) (List.mem_cons_of_mem _ zw_699)
  have hw3 := hts (.selects RX9 yX9_canTry yX9_canTry) (List.mem_cons_of_mem _ zw_21)
  subst hsz
  have hD := hD0.self (sz := s.heap.size)
  generalize hAe : va_A [(h0, .inr (9, [.ref x_riders, .ref x_road, .ref x_tape, .ref x_book, .ref x_reader, .ref x_latest, .ref x_log, .ref x_trial, .ref x_stages, .int 0, .int 0, .int 0])), (x_riders, .inr (5, [.int 0, .ref x_ri_teams, .ref x_ri_steady, .ref x_ri_full, .ref x_ri_climb])), (x_road, .inr (6, [.int 1, .ref x_ro_rises, .ref x_ro_winds, .int 0, .ref x_ro_primeMetres, .int 0, .int 0]))] s.heap.size = A at hD ⊢
  have hA : ∀ q : Nat, s.heap.size ≤ q → A q := fun q h => by rw [← hAe]; exact Or.inr h
  have hS : va_S A s.heap s.heap [] := va_S.rf
  have hP : va_P (dC, dI) vwCl [(h0, .inr (9, [.ref x_riders, .ref x_road, .ref x_tape, .ref x_book, .ref x_reader, .ref x_latest, .ref x_log, .ref x_trial, .ref x_stages, .int 0, .int 0, .int 0])), (x_riders, .inr (5, [.int 0, .ref x_ri_teams, .ref x_ri_steady, .ref x_ri_full, .ref x_ri_climb])), (x_road, .inr (6, [.int 1, .ref x_ro_rises, .ref x_ro_winds, .int 0, .ref x_ro_primeMetres, .int 0, .int 0]))] s.heap := hP
  have hl := lv_entry ([.ref h0, .int pT, .int pM, .int pA, .int pB, .long pSeed]) (n := 7) (Nat.le_of_ble_eq_true rfl)
  rw [lg_entry_eq]
  generalize (lg_sl ([.ref h0, .int pT, .int pM, .int pA, .int pB, .long pSeed]) ++ List.replicate (7 - (lg_sl ([.ref h0, .int pT, .int pM, .int pA, .int pB, .long pSeed])).length) Slot.unset).toArray = ls at hl ⊢
  have hl : lv_has ls 7 [(0, .ref h0), (1, .int pT), (2, .int pM), (3, .int pA), (4, .int pB), (5, .long pSeed)] := hl
  refine lv_aload_n hx hb dX9_attempt_0 rfl (lv_at hl 0 rfl) ?_
  refine lv_iload_n hx hb dX9_attempt_1 rfl (lv_at hl 1 rfl) ?_
  refine lv_iload_n hx hb dX9_attempt_2 rfl (lv_at hl 2 rfl) ?_
  have hPc := hP.sub (ws' := [(h0, .inr (9, [.ref x_riders, .ref x_road, .ref x_tape, .ref x_book, .ref x_reader, .ref x_latest, .ref x_log, .ref x_trial, .ref x_stages, .int 0, .int 0, .int 0])), (x_riders, .inr (5, [.int 0, .ref x_ri_teams, .ref x_ri_steady, .ref x_ri_full, .ref x_ri_climb])), (x_road, .inr (6, [.int 1, .ref x_ro_rises, .ref x_ro_winds, .int 0, .ref x_ro_primeMetres, .int 0, .int 0]))]) [0, 1, 2] rfl
  have hDc := hD.sub (ws' := [(h0, .inr (9, [.ref x_riders, .ref x_road, .ref x_tape, .ref x_book, .ref x_reader, .ref x_latest, .ref x_log, .ref x_trial, .ref x_stages, .int 0, .int 0, .int 0])), (x_riders, .inr (5, [.int 0, .ref x_ri_teams, .ref x_ri_steady, .ref x_ri_full, .ref x_ri_climb])), (x_road, .inr (6, [.int 1, .ref x_ro_rises, .ref x_ro_winds, .int 0, .ref x_ro_primeMetres, .int 0, .int 0]))]) [0, 1, 2] (by decide) rfl
  have hFc := va_free (wc := [(h0, .inr (9, [.ref x_riders, .ref x_road, .ref x_tape, .ref x_book, .ref x_reader, .ref x_latest, .ref x_log, .ref x_trial, .ref x_stages, .int 0, .int 0, .int 0])), (x_riders, .inr (5, [.int 0, .ref x_ri_teams, .ref x_ri_steady, .ref x_ri_full, .ref x_ri_climb])), (x_road, .inr (6, [.int 1, .ref x_ro_rises, .ref x_ro_winds, .int 0, .ref x_ro_primeMetres, .int 0, .int 0]))]) hD hS hA [0, 1, 2] rfl
  refine va_calli (va_runV (As := [.int pT, .int pM]) (rest := []) ⟨hx, hb, hml, hown, hts⟩ (c_X9_canTry l dC dI cI cZ (s.heap).size h0 x_riders x_road x_tape x_book x_reader x_latest x_log x_trial x_stages x_ri_teams x_ri_steady x_ri_full x_ri_climb x_ro_rises x_ro_winds x_ro_primeMetres pT pT_i pT_h pM pM_i pM_h) ⟨callB_of 2 hts (zz_good zw_700) rfl rfl rfl hw0 hw1 (by decide +kernel) ⟨Nat.le_of_ble_eq_true rfl, Nat.le_of_ble_eq_true rfl⟩, hw2, hw3⟩ ⟨fun a U g mk q => by obtain ⟨q0, q1, qP, qK, qD⟩ := q; exact ⟨q0, q1, qP, va_K.moved (u := U) (U := U.calling g mk a) (Vm.Alike.refl U.vm) qK, qD⟩, va_recv hK hPc (ci := 9) (q0 := 0) rfl rfl, fun U hU hW => ⟨rfl, by rw [hU], by rw [hU]; exact hPc, va_K.moved hW.alike hK, hDc.weaken (fun _ _ _ _ => trivial)⟩⟩ rfl rfl hl.1 rfl (lv_room (Nat.le_of_ble_eq_true rfl)) dX9_attempt_3 ⟨Nat.le_of_ble_eq_true rfl, Nat.le_of_ble_eq_true rfl⟩) hS (fun q _ h => hFc q h) hFc (fun r_1 u t H1 locs ht hvm hpost hB hz1 hk1 hS => ?_)
  subst hpost
  obtain ⟨hf_2, hP1, hK1, hD1⟩ := hB
  rw [ht] at hP1
  obtain ⟨hP, hD⟩ := va_join (wr := []) (w1 := []) hP hD [0, 1, 2] [] rfl rfl (by decide) (by decide) hk1 hFc hP1 hD1
  generalize H1 = H at hP hS ⊢
  have hP : va_P (dC, dI) vwCl [] H := hP
  have hD : va_D A [] := hD
  have hf_2 : r_1.toInt = 0 := hf_2
  obtain rfl : r_1 = 0 := Int32.toInt_inj.mp (hf_2.trans (by decide))
  refine lv_if_eq (tgt := 26) hx hb dX9_attempt_6 (by decide) (fun c_3 => ?_) (fun c_3 => ?_)
  ·
    refine lv_iconst (v := (-1)) hx hb dX9_attempt_26 (by decide) ?_
    have hP9 := hP.sub (ws' := []) [] rfl
    have hD9 := hD.sub (ws' := []) [] (by decide) rfl
    refine W.widen (k := 0) (n := 0) (Nat.le_of_ble_eq_true rfl) (Nat.le_of_ble_eq_true rfl) ?_
    have hu9 : ((-1) : Int32).toInt = (-1:Int) := (by decide)
    have hf9_0 : ((-1) : Int32).toInt = -1 := by omega
    exact W.iret (v := (-1)) hx hb hr (fun t ht hW => ⟨⟨(-1), (-1), rfl, rfl, hf9_0, by rw [ht]; exact hP9, va_K.moved hW.alike hK, hD9⟩, hS.F ht⟩) hS.2.2 dX9_attempt_27
  ·
    exact absurd c_3 (by decide)

set_option maxHeartbeats 4000000 in
set_option maxRecDepth 100000 in
theorem c_X9_best (l : Launch) (dC : Nat → ClassId) (dI : Nat → Nat → Nat) (cI cZ : ClassId) (sz : Nat) (h0 : Nat) (x_riders : Nat) (x_road : Nat) (x_tape : Nat) (x_book : Nat) (x_reader : Nat) (x_latest : Nat) (x_log : Nat) (x_trial : Nat) (x_stages : Nat) (x_ri_teams : Nat) (x_ri_steady : Nat) (x_ri_full : Nat) (x_ri_climb : Nat) (x_ro_rises : Nat) (x_ro_winds : Nat) (x_ro_primeMetres : Nat) (pT : Int32) (pT_i : Int) (pT_h : pT.toInt = pT_i) (pM : Int32) (pM_i : Int) (pM_h : pM.toInt = pM_i) (pSeed : Int64) : Met l yX9_best (Cond.code yX9_best cX9_best 10 (some .int) :: lw_good) ({ frames := 3, cells := 0, slots := 0, locals := 63 }) (va_Pc [.ref h0, .int pT, .int pM, .long pSeed] (fun U => U.heap.size = sz ∧ va_P (dC, dI) vwCl [(h0, .inr (9, [.ref x_riders, .ref x_road, .ref x_tape, .ref x_book, .ref x_reader, .ref x_latest, .ref x_log, .ref x_trial, .ref x_stages, .int 0, .int 0, .int 0])), (x_riders, .inr (5, [.int 0, .ref x_ri_teams, .ref x_ri_steady, .ref x_ri_full, .ref x_ri_climb])), (x_road, .inr (6, [.int 1, .ref x_ro_rises, .ref x_ro_winds, .int 0, .ref x_ro_primeMetres, .int 0, .int 0]))] U.heap ∧ va_K (dC, dI) vwCl [(cI, .int), (cZ, .boolean)] U ∧ va_D (fun _ => True) [(h0, .inr (9, [.ref x_riders, .ref x_road, .ref x_tape, .ref x_book, .ref x_reader, .ref x_latest, .ref x_log, .ref x_trial, .ref x_stages, .int 0, .int 0, .int 0])), (x_riders, .inr (5, [.int 0, .ref x_ri_teams, .ref x_ri_steady, .ref x_ri_full, .ref x_ri_climb])), (x_road, .inr (6, [.int 1, .ref x_ro_rises, .ref x_ro_winds, .int 0, .ref x_ro_primeMetres, .int 0, .int 0]))])) (va_Qi (fun (r u : Int32) => r = u) (fun u t => (u.toInt = -1) ∧ va_P (dC, dI) vwCl [] t.heap ∧ va_K (dC, dI) vwCl [(cI, .int), (cZ, .boolean)] t ∧ va_D (va_A [(h0, .inr (9, [.ref x_riders, .ref x_road, .ref x_tape, .ref x_book, .ref x_reader, .ref x_latest, .ref x_log, .ref x_trial, .ref x_stages, .int 0, .int 0, .int 0])), (x_riders, .inr (5, [.int 0, .ref x_ri_teams, .ref x_ri_steady, .ref x_ri_full, .ref x_ri_climb])), (x_road, .inr (6, [.int 1, .ref x_ro_rises, .ref x_ro_winds, .int 0, .ref x_ro_primeMetres, .int 0, .int 0]))] sz) []) (va_A [(h0, .inr (9, [.ref x_riders, .ref x_road, .ref x_tape, .ref x_book, .ref x_reader, .ref x_latest, .ref x_log, .ref x_trial, .ref x_stages, .int 0, .int 0, .int 0])), (x_riders, .inr (5, [.int 0, .ref x_ri_teams, .ref x_ri_steady, .ref x_ri_full, .ref x_ri_climb])), (x_road, .inr (6, [.int 1, .ref x_ro_rises, .ref x_ro_winds, .int 0, .ref x_ro_primeMetres, .int 0, .int 0]))] sz)) 0 0 (va_A [(h0, .inr (9, [.ref x_riders, .ref x_road, .ref x_tape, .ref x_book, .ref x_reader, .ref x_latest, .ref x_log, .ref x_trial, .ref x_stages, .int 0, .int 0, .int 0])), (x_riders, .inr (5, [.int 0, .ref x_ri_teams, .ref x_ri_steady, .ref x_ri_full, .ref x_ri_climb])), (x_road, .inr (6, [.int 1, .ref x_ro_rises, .ref x_ro_winds, .int 0, .ref x_ro_primeMetres, .int 0, .int 0]))] sz) := by
  refine Met.ofW (cc := cX9_best) (maxL := 10) (ret := (some .int)) (by decide) rfl ?_
  intro p e s m args below meth c s₁ B hml hv
  obtain ⟨rfl, hsz, hP, hK, hD0⟩ := hv
  have hx := B.exec
  have hb := B.bytes
  have hr := B.returns
  have hts := atoms_spec (ws := Cond.code yX9_best cX9_best 10 (some .int) :: lw_good) B.pre
  have hown : s.vm.findClass RX9 = some m.cls := findClass_of_methodNamed B.named
  have hlocks := B.notSynchronized
  have hw0 := hts (.initialized RX9) (List.mem_cons_of_mem _ zw_48)
  have hw1 := hts (.methodLink RX9 207 yX9_canTry) (List.mem_cons_of_mem _ zw_697)
  have hw2 := hts (.instanceMethod yX9_canTry) (List.mem_cons_of_mem _ zw_699)
  have hw3 := hts (.selects RX9 yX9_canTry yX9_canTry) (List.mem_cons_of_mem _ zw_21)
  subst hsz
  have hD := hD0.self (sz := s.heap.size)
  generalize hAe : va_A [(h0, .inr (9, [.ref x_riders, .ref x_road, .ref x_tape, .ref x_book, .ref x_reader, .ref x_latest, .ref x_log, .ref x_trial, .ref x_stages, .int 0, .int 0, .int 0])), (x_riders, .inr (5, [.int 0, .ref x_ri_teams, .ref x_ri_steady, .ref x_ri_full, .ref x_ri_climb])), (x_road, .inr (6, [.int 1, .ref x_ro_rises, .ref x_ro_winds, .int 0, .ref x_ro_primeMetres, .int 0, .int 0]))] s.heap.size = A at hD ⊢
  have hA : ∀ q : Nat, s.heap.size ≤ q → A q := fun q h => by rw [← hAe]; exact Or.inr h
  have hS : va_S A s.heap s.heap [] := va_S.rf
  have hP : va_P (dC, dI) vwCl [(h0, .inr (9, [.ref x_riders, .ref x_road, .ref x_tape, .ref x_book, .ref x_reader, .ref x_latest, .ref x_log, .ref x_trial, .ref x_stages, .int 0, .int 0, .int 0])), (x_riders, .inr (5, [.int 0, .ref x_ri_teams, .ref x_ri_steady, .ref x_ri_full, .ref x_ri_climb])), (x_road, .inr (6, [.int 1, .ref x_ro_rises, .ref x_ro_winds, .int 0, .ref x_ro_primeMetres, .int 0, .int 0]))] s.heap := hP
  have hl := lv_entry ([.ref h0, .int pT, .int pM, .long pSeed]) (n := 10) (Nat.le_of_ble_eq_true rfl)
  rw [lg_entry_eq]
  generalize (lg_sl ([.ref h0, .int pT, .int pM, .long pSeed]) ++ List.replicate (10 - (lg_sl ([.ref h0, .int pT, .int pM, .long pSeed])).length) Slot.unset).toArray = ls at hl ⊢
  have hl : lv_has ls 10 [(0, .ref h0), (1, .int pT), (2, .int pM), (3, .long pSeed)] := hl
  refine lv_aload_n hx hb dX9_best_0 rfl (lv_at hl 0 rfl) ?_
  refine lv_iload_n hx hb dX9_best_1 rfl (lv_at hl 1 rfl) ?_
  refine lv_iload_n hx hb dX9_best_2 rfl (lv_at hl 2 rfl) ?_
  have hPc := hP.sub (ws' := [(h0, .inr (9, [.ref x_riders, .ref x_road, .ref x_tape, .ref x_book, .ref x_reader, .ref x_latest, .ref x_log, .ref x_trial, .ref x_stages, .int 0, .int 0, .int 0])), (x_riders, .inr (5, [.int 0, .ref x_ri_teams, .ref x_ri_steady, .ref x_ri_full, .ref x_ri_climb])), (x_road, .inr (6, [.int 1, .ref x_ro_rises, .ref x_ro_winds, .int 0, .ref x_ro_primeMetres, .int 0, .int 0]))]) [0, 1, 2] rfl
  have hDc := hD.sub (ws' := [(h0, .inr (9, [.ref x_riders, .ref x_road, .ref x_tape, .ref x_book, .ref x_reader, .ref x_latest, .ref x_log, .ref x_trial, .ref x_stages, .int 0, .int 0, .int 0])), (x_riders, .inr (5, [.int 0, .ref x_ri_teams, .ref x_ri_steady, .ref x_ri_full, .ref x_ri_climb])), (x_road, .inr (6, [.int 1, .ref x_ro_rises, .ref x_ro_winds, .int 0, .ref x_ro_primeMetres, .int 0, .int 0]))]) [0, 1, 2] (by decide) rfl
  have hFc := va_free (wc := [(h0, .inr (9, [.ref x_riders, .ref x_road, .ref x_tape, .ref x_book, .ref x_reader, .ref x_latest, .ref x_log, .ref x_trial, .ref x_stages, .int 0, .int 0, .int 0])), (x_riders, .inr (5, [.int 0, .ref x_ri_teams, .ref x_ri_steady, .ref x_ri_full, .ref x_ri_climb])), (x_road, .inr (6, [.int 1, .ref x_ro_rises, .ref x_ro_winds, .int 0, .ref x_ro_primeMetres, .int 0, .int 0]))]) hD hS hA [0, 1, 2] rfl
  refine va_calli (va_runV (As := [.int pT, .int pM]) (rest := []) ⟨hx, hb, hml, hown, hts⟩ (c_X9_canTry l dC dI cI cZ (s.heap).size h0 x_riders x_road x_tape x_book x_reader x_latest x_log x_trial x_stages x_ri_teams x_ri_steady x_ri_full x_ri_climb x_ro_rises x_ro_winds x_ro_primeMetres pT pT_i pT_h pM pM_i pM_h) ⟨callB_of 2 hts (zz_good zw_700) rfl rfl rfl hw0 hw1 (by decide +kernel) ⟨Nat.le_of_ble_eq_true rfl, Nat.le_of_ble_eq_true rfl⟩, hw2, hw3⟩ ⟨fun a U g mk q => by obtain ⟨q0, q1, qP, qK, qD⟩ := q; exact ⟨q0, q1, qP, va_K.moved (u := U) (U := U.calling g mk a) (Vm.Alike.refl U.vm) qK, qD⟩, va_recv hK hPc (ci := 9) (q0 := 0) rfl rfl, fun U hU hW => ⟨rfl, by rw [hU], by rw [hU]; exact hPc, va_K.moved hW.alike hK, hDc.weaken (fun _ _ _ _ => trivial)⟩⟩ rfl rfl hl.1 rfl (lv_room (Nat.le_of_ble_eq_true rfl)) dX9_best_3 ⟨Nat.le_of_ble_eq_true rfl, Nat.le_of_ble_eq_true rfl⟩) hS (fun q _ h => hFc q h) hFc (fun r_1 u t H1 locs ht hvm hpost hB hz1 hk1 hS => ?_)
  subst hpost
  obtain ⟨hf_2, hP1, hK1, hD1⟩ := hB
  rw [ht] at hP1
  obtain ⟨hP, hD⟩ := va_join (wr := []) (w1 := []) hP hD [0, 1, 2] [] rfl rfl (by decide) (by decide) hk1 hFc hP1 hD1
  generalize H1 = H at hP hS ⊢
  have hP : va_P (dC, dI) vwCl [] H := hP
  have hD : va_D A [] := hD
  have hf_2 : r_1.toInt = 0 := hf_2
  obtain rfl : r_1 = 0 := Int32.toInt_inj.mp (hf_2.trans (by decide))
  refine lv_if_eq (tgt := 16) hx hb dX9_best_6 (by decide) (fun c_3 => ?_) (fun c_3 => ?_)
  ·
    refine lv_iconst (v := (-1)) hx hb dX9_best_16 (by decide) ?_
    have hP9 := hP.sub (ws' := []) [] rfl
    have hD9 := hD.sub (ws' := []) [] (by decide) rfl
    refine W.widen (k := 0) (n := 0) (Nat.le_of_ble_eq_true rfl) (Nat.le_of_ble_eq_true rfl) ?_
    have hu9 : ((-1) : Int32).toInt = (-1:Int) := (by decide)
    have hf9_0 : ((-1) : Int32).toInt = -1 := by omega
    exact W.iret (v := (-1)) hx hb hr (fun t ht hW => ⟨⟨(-1), (-1), rfl, rfl, hf9_0, by rw [ht]; exact hP9, va_K.moved hW.alike hK, hD9⟩, hS.F ht⟩) hS.2.2 dX9_best_17
  ·
    exact absurd c_3 (by decide)

set_option maxHeartbeats 4000000 in
set_option maxRecDepth 100000 in
theorem c_X7_howManyOut (l : Launch) (dC : Nat → ClassId) (dI : Nat → Nat → Nat) (cI cZ : ClassId) (sz : Nat) (h0 : Nat) (x_totals : Nat) (x_points : Nat) (x_out : Nat) (pN : Int32) (pN_i : Int) (pN_h : pN.toInt = pN_i) (hh0 : pN_i = 0) : Met l yX7_howManyOut (Cond.code yX7_howManyOut cX7_howManyOut 4 (some .int) :: lw_good) ({ frames := 0, cells := 0, slots := 0, locals := 0 }) (va_Pc [.ref h0, .int pN] (fun U => U.heap.size = sz ∧ va_P (dC, dI) vwCl [(h0, .inr (7, [.int 0, .int 20, .ref x_totals, .ref x_points, .ref x_out]))] U.heap ∧ va_K (dC, dI) vwCl [(cI, .int), (cZ, .boolean)] U ∧ va_D (fun _ => True) [(h0, .inr (7, [.int 0, .int 20, .ref x_totals, .ref x_points, .ref x_out]))])) (va_Qi (fun (r u : Int32) => r = u) (fun u t => (u.toInt = 0) ∧ va_P (dC, dI) vwCl [] t.heap ∧ va_K (dC, dI) vwCl [(cI, .int), (cZ, .boolean)] t ∧ va_D (va_A [(h0, .inr (7, [.int 0, .int 20, .ref x_totals, .ref x_points, .ref x_out]))] sz) []) (va_A [(h0, .inr (7, [.int 0, .int 20, .ref x_totals, .ref x_points, .ref x_out]))] sz)) 0 0 (va_A [(h0, .inr (7, [.int 0, .int 20, .ref x_totals, .ref x_points, .ref x_out]))] sz) := by
  refine Met.ofW (cc := cX7_howManyOut) (maxL := 4) (ret := (some .int)) (by decide) rfl ?_
  intro p e s m args below meth c s₁ B hml hv
  obtain ⟨rfl, hsz, hP, hK, hD0⟩ := hv
  have hx := B.exec
  have hb := B.bytes
  have hr := B.returns
  have hts := atoms_spec (ws := Cond.code yX7_howManyOut cX7_howManyOut 4 (some .int) :: lw_good) B.pre
  have hown : s.vm.findClass RX7 = some m.cls := findClass_of_methodNamed B.named
  have hlocks := B.notSynchronized
  subst hsz
  have hD := hD0.self (sz := s.heap.size)
  generalize hAe : va_A [(h0, .inr (7, [.int 0, .int 20, .ref x_totals, .ref x_points, .ref x_out]))] s.heap.size = A at hD ⊢
  have hA : ∀ q : Nat, s.heap.size ≤ q → A q := fun q h => by rw [← hAe]; exact Or.inr h
  have hS : va_S A s.heap s.heap [] := va_S.rf
  have hP : va_P (dC, dI) vwCl [(h0, .inr (7, [.int 0, .int 20, .ref x_totals, .ref x_points, .ref x_out]))] s.heap := hP
  have hl := lv_entry ([.ref h0, .int pN]) (n := 4) (Nat.le_of_ble_eq_true rfl)
  rw [lg_entry_eq]
  generalize (lg_sl ([.ref h0, .int pN]) ++ List.replicate (4 - (lg_sl ([.ref h0, .int pN])).length) Slot.unset).toArray = ls at hl ⊢
  have hl : lv_has ls 4 [(0, .ref h0), (1, .int pN)] := hl
  refine lv_iconst (v := 0) hx hb dX7_howManyOut_0 (by decide) ?_
  refine lv_istore_n (lv' := [(2, .int 0), (0, .ref h0), (1, .int pN)]) hx hb dX7_howManyOut_1 rfl hl (by decide) rfl (fun ls hl => ?_)
  refine lv_iconst (v := 0) hx hb dX7_howManyOut_2 (by decide) ?_
  refine lv_istore_n (lv' := [(3, .int 0), (2, .int 0), (0, .ref h0), (1, .int pN)]) hx hb dX7_howManyOut_3 rfl hl (by decide) rfl (fun ls hl => ?_)
  refine lv_iload_n hx hb dX7_howManyOut_4 rfl (lv_at hl 0 rfl) ?_
  refine lv_iload_n hx hb dX7_howManyOut_5 rfl (lv_at hl 3 rfl) ?_
  refine lv_icmp_ge (tgt := 33) hx hb dX7_howManyOut_6 (by decide) (fun c_1 => ?_) (fun c_1 => ?_)
  ·
    have c_1 : pN_i ≤ (0:Int) := zz_le pN_h (by decide) c_1
    refine lv_iload_n hx hb dX7_howManyOut_33 rfl (lv_at hl 1 rfl) ?_
    have hP9 := hP.sub (ws' := []) [] rfl
    have hD9 := hD.sub (ws' := []) [] (by decide) rfl
    refine W.widen (k := 0) (n := 0) (Nat.le_of_ble_eq_true rfl) (Nat.le_of_ble_eq_true rfl) ?_
    have hu9 : (0 : Int32).toInt = (0:Int) := (by decide)
    have hf9_0 : (0 : Int32).toInt = 0 := by omega
    exact W.iret (v := 0) hx hb hr (fun t ht hW => ⟨⟨0, 0, rfl, rfl, hf9_0, by rw [ht]; exact hP9, va_K.moved hW.alike hK, hD9⟩, hS.F ht⟩) hS.2.2 dX7_howManyOut_34
  ·
    have c_1 : ¬ (pN_i ≤ (0:Int)) := zz_len pN_h (by decide) c_1
    exact absurd c_1 (by omega)

set_option maxHeartbeats 4000000 in
set_option maxRecDepth 100000 in
theorem c_X9_count (l : Launch) (dC : Nat → ClassId) (dI : Nat → Nat → Nat) (cI cZ : ClassId) (sz : Nat) (h0 : Nat) (x_riders : Nat) (x_road : Nat) (x_tape : Nat) (x_book : Nat) (x_reader : Nat) (x_latest : Nat) (x_log : Nat) (x_trial : Nat) (x_stages : Nat) (x_ri_teams : Nat) (x_ri_steady : Nat) (x_ri_full : Nat) (x_ri_climb : Nat) (x_ro_rises : Nat) (x_ro_winds : Nat) (x_ro_primeMetres : Nat) (x_ta_bytes : Nat) (x_sg_totals : Nat) (x_sg_points : Nat) (x_sg_out : Nat) (pW : Int32) (pW_i : Int) (pW_h : pW.toInt = pW_i) : Met l yX9_count (Cond.code yX9_count cX9_count 2 (some .int) :: lw_good) ({ frames := 1, cells := 0, slots := 0, locals := 23 }) (va_Pc [.ref h0, .int pW] (fun U => U.heap.size = sz ∧ va_P (dC, dI) vwCl [(h0, .inr (9, [.ref x_riders, .ref x_road, .ref x_tape, .ref x_book, .ref x_reader, .ref x_latest, .ref x_log, .ref x_trial, .ref x_stages, .int 0, .int 0, .int 0])), (x_riders, .inr (5, [.int 0, .ref x_ri_teams, .ref x_ri_steady, .ref x_ri_full, .ref x_ri_climb])), (x_road, .inr (6, [.int 1, .ref x_ro_rises, .ref x_ro_winds, .int 0, .ref x_ro_primeMetres, .int 0, .int 0])), (x_tape, .inr (8, [.int 0, .ref x_ta_bytes])), (x_stages, .inr (7, [.int 0, .int 20, .ref x_sg_totals, .ref x_sg_points, .ref x_sg_out]))] U.heap ∧ va_K (dC, dI) vwCl [(cI, .int), (cZ, .boolean)] U ∧ va_D (fun _ => True) [(h0, .inr (9, [.ref x_riders, .ref x_road, .ref x_tape, .ref x_book, .ref x_reader, .ref x_latest, .ref x_log, .ref x_trial, .ref x_stages, .int 0, .int 0, .int 0])), (x_riders, .inr (5, [.int 0, .ref x_ri_teams, .ref x_ri_steady, .ref x_ri_full, .ref x_ri_climb])), (x_road, .inr (6, [.int 1, .ref x_ro_rises, .ref x_ro_winds, .int 0, .ref x_ro_primeMetres, .int 0, .int 0])), (x_tape, .inr (8, [.int 0, .ref x_ta_bytes])), (x_stages, .inr (7, [.int 0, .int 20, .ref x_sg_totals, .ref x_sg_points, .ref x_sg_out]))])) (va_Qi (fun (r u : Int32) => r = u) (fun u t => (((pW_i < 0 ∨ 6 < pW_i) ∧ u.toInt = -1) ∨ (pW_i = 1 ∧ u.toInt = 1) ∨ (0 ≤ pW_i ∧ pW_i ≤ 6 ∧ pW_i ≠ 1 ∧ u.toInt = 0)) ∧ va_P (dC, dI) vwCl [] t.heap ∧ va_K (dC, dI) vwCl [(cI, .int), (cZ, .boolean)] t ∧ va_D (va_A [(h0, .inr (9, [.ref x_riders, .ref x_road, .ref x_tape, .ref x_book, .ref x_reader, .ref x_latest, .ref x_log, .ref x_trial, .ref x_stages, .int 0, .int 0, .int 0])), (x_riders, .inr (5, [.int 0, .ref x_ri_teams, .ref x_ri_steady, .ref x_ri_full, .ref x_ri_climb])), (x_road, .inr (6, [.int 1, .ref x_ro_rises, .ref x_ro_winds, .int 0, .ref x_ro_primeMetres, .int 0, .int 0])), (x_tape, .inr (8, [.int 0, .ref x_ta_bytes])), (x_stages, .inr (7, [.int 0, .int 20, .ref x_sg_totals, .ref x_sg_points, .ref x_sg_out]))] sz) []) (va_A [(h0, .inr (9, [.ref x_riders, .ref x_road, .ref x_tape, .ref x_book, .ref x_reader, .ref x_latest, .ref x_log, .ref x_trial, .ref x_stages, .int 0, .int 0, .int 0])), (x_riders, .inr (5, [.int 0, .ref x_ri_teams, .ref x_ri_steady, .ref x_ri_full, .ref x_ri_climb])), (x_road, .inr (6, [.int 1, .ref x_ro_rises, .ref x_ro_winds, .int 0, .ref x_ro_primeMetres, .int 0, .int 0])), (x_tape, .inr (8, [.int 0, .ref x_ta_bytes])), (x_stages, .inr (7, [.int 0, .int 20, .ref x_sg_totals, .ref x_sg_points, .ref x_sg_out]))] sz)) 0 0 (va_A [(h0, .inr (9, [.ref x_riders, .ref x_road, .ref x_tape, .ref x_book, .ref x_reader, .ref x_latest, .ref x_log, .ref x_trial, .ref x_stages, .int 0, .int 0, .int 0])), (x_riders, .inr (5, [.int 0, .ref x_ri_teams, .ref x_ri_steady, .ref x_ri_full, .ref x_ri_climb])), (x_road, .inr (6, [.int 1, .ref x_ro_rises, .ref x_ro_winds, .int 0, .ref x_ro_primeMetres, .int 0, .int 0])), (x_tape, .inr (8, [.int 0, .ref x_ta_bytes])), (x_stages, .inr (7, [.int 0, .int 20, .ref x_sg_totals, .ref x_sg_points, .ref x_sg_out]))] sz) := by
  refine Met.ofW (cc := cX9_count) (maxL := 2) (ret := (some .int)) (by decide) rfl ?_
  intro p e s m args below meth c s₁ B hml hv
  obtain ⟨rfl, hsz, hP, hK, hD0⟩ := hv
  have hx := B.exec
  have hb := B.bytes
  have hr := B.returns
  have hts := atoms_spec (ws := Cond.code yX9_count cX9_count 2 (some .int) :: lw_good) B.pre
  have hown : s.vm.findClass RX9 = some m.cls := findClass_of_methodNamed B.named
  have hlocks := B.notSynchronized
  have hiX5 : ∀ w ∈ wsX50, w ∈ (Cond.code yX9_count cX9_count 2 (some .int) :: lw_good) := fun w h => List.mem_cons_of_mem _ (zi_X5 w h)
  have hiX6 : ∀ w ∈ wsX60, w ∈ (Cond.code yX9_count cX9_count 2 (some .int) :: lw_good) := fun w h => List.mem_cons_of_mem _ (zi_X6 w h)
  have hiX7 : ∀ w ∈ wsX70, w ∈ (Cond.code yX9_count cX9_count 2 (some .int) :: lw_good) := fun w h => List.mem_cons_of_mem _ (zi_X7 w h)
  have hiX8 : ∀ w ∈ wsX80, w ∈ (Cond.code yX9_count cX9_count 2 (some .int) :: lw_good) := fun w h => List.mem_cons_of_mem _ (zi_X8 w h)
  have hiX9 : ∀ w ∈ wsX90, w ∈ (Cond.code yX9_count cX9_count 2 (some .int) :: lw_good) := fun w h => List.mem_cons_of_mem _ (zi_X9 w h)
  have hw0 := hts (.fieldLink RX9 12 "BunchRace" "riders" "LBunchRace$Riders;") (List.mem_cons_of_mem _ zw_334)
  have hw1 := hts (.fieldLink RX9 122 "BunchRace$Riders" "number" "I") (List.mem_cons_of_mem _ zw_77)
  have hw2 := hts (.fieldLink RX9 19 "BunchRace" "road" "LBunchRace$Road;") (List.mem_cons_of_mem _ zw_335)
  have hw3 := hts (.fieldLink RX9 217 "BunchRace$Road" "kilometres" "I") (List.mem_cons_of_mem _ zw_106)
  have hw4 := hts (.fieldLink RX9 220 "BunchRace$Road" "primes" "I") (List.mem_cons_of_mem _ zw_113)
  have hw5 := hts (.fieldLink RX9 64 "BunchRace" "stages" "LBunchRace$Stages;") (List.mem_cons_of_mem _ zw_342)
  have hw6 := hts (.fieldLink RX9 79 "BunchRace$Stages" "number" "I") (List.mem_cons_of_mem _ zw_314)
  have hw7 := hts (.fieldLink RX9 68 "BunchRace" "choices" "I") (List.mem_cons_of_mem _ zw_343)
  have hw8 := hts (.fieldLink RX9 26 "BunchRace" "tape" "LBunchRace$Tape;") (List.mem_cons_of_mem _ zw_336)
  have hw9 := hts (.fieldLink RX9 105 "BunchRace$Tape" "length" "I") (List.mem_cons_of_mem _ zw_143)
  have hw10 := hts (.initialized RX7) (List.mem_cons_of_mem _ zw_57)
  have hw11 := hts (.methodLink RX9 221 yX7_howManyOut) (List.mem_cons_of_mem _ zw_727)
  have hw12 := hts (.instanceMethod yX7_howManyOut) (List.mem_cons_of_mem _ zw_728)
  have hw13 := hts (.selects RX7 yX7_howManyOut yX7_howManyOut) (List.mem_cons_of_mem _ zw_729)
  have hw14 := hts (.fieldLink RX9 72 "BunchRace" "raced" "Z") (List.mem_cons_of_mem _ zw_344)
  subst hsz
  have hD := hD0.self (sz := s.heap.size)
  generalize hAe : va_A [(h0, .inr (9, [.ref x_riders, .ref x_road, .ref x_tape, .ref x_book, .ref x_reader, .ref x_latest, .ref x_log, .ref x_trial, .ref x_stages, .int 0, .int 0, .int 0])), (x_riders, .inr (5, [.int 0, .ref x_ri_teams, .ref x_ri_steady, .ref x_ri_full, .ref x_ri_climb])), (x_road, .inr (6, [.int 1, .ref x_ro_rises, .ref x_ro_winds, .int 0, .ref x_ro_primeMetres, .int 0, .int 0])), (x_tape, .inr (8, [.int 0, .ref x_ta_bytes])), (x_stages, .inr (7, [.int 0, .int 20, .ref x_sg_totals, .ref x_sg_points, .ref x_sg_out]))] s.heap.size = A at hD ⊢
  have hA : ∀ q : Nat, s.heap.size ≤ q → A q := fun q h => by rw [← hAe]; exact Or.inr h
  have hS : va_S A s.heap s.heap [] := va_S.rf
  have hP : va_P (dC, dI) vwCl [(h0, .inr (9, [.ref x_riders, .ref x_road, .ref x_tape, .ref x_book, .ref x_reader, .ref x_latest, .ref x_log, .ref x_trial, .ref x_stages, .int 0, .int 0, .int 0])), (x_riders, .inr (5, [.int 0, .ref x_ri_teams, .ref x_ri_steady, .ref x_ri_full, .ref x_ri_climb])), (x_road, .inr (6, [.int 1, .ref x_ro_rises, .ref x_ro_winds, .int 0, .ref x_ro_primeMetres, .int 0, .int 0])), (x_tape, .inr (8, [.int 0, .ref x_ta_bytes])), (x_stages, .inr (7, [.int 0, .int 20, .ref x_sg_totals, .ref x_sg_points, .ref x_sg_out]))] s.heap := hP
  have hl := lv_entry ([.ref h0, .int pW]) (n := 2) (Nat.le_of_ble_eq_true rfl)
  rw [lg_entry_eq]
  generalize (lg_sl ([.ref h0, .int pW]) ++ List.replicate (2 - (lg_sl ([.ref h0, .int pW])).length) Slot.unset).toArray = ls at hl ⊢
  have hl : lv_has ls 2 [(0, .ref h0), (1, .int pW)] := hl
  refine lv_iload_n hx hb dX9_count_0 rfl (lv_at hl 1 rfl) ?_
  have hs_1 : (pW : Int32).toInt = pW_i := pW_h
  rcases (show pW_i < 0 ∨ 7 < pW_i ∨ pW_i = 0 ∨ pW_i = 1 ∨ pW_i = 2 ∨ pW_i = 3 ∨ pW_i = 4 ∨ pW_i = 5 ∨ pW_i = 6 ∨ pW_i = 7 by omega) with q_2 | q_2 | q_2 | q_2 | q_2 | q_2 | q_2 | q_2 | q_2 | q_2
  ·
    refine lv_tableOut (tgt := 127) hx hb dX9_count_1 (by rw [hs_1]; omega) (by decide) ?_
    refine lv_iconst (v := (-1)) hx hb dX9_count_127 (by decide) ?_
    have hP9 := hP.sub (ws' := []) [] rfl
    have hD9 := hD.sub (ws' := []) [] (by decide) rfl
    refine W.widen (k := 0) (n := 0) (Nat.le_of_ble_eq_true rfl) (Nat.le_of_ble_eq_true rfl) ?_
    have hu9 : ((-1) : Int32).toInt = (-1:Int) := (by decide)
    have hf9_0 : ((pW_i < 0 ∨ 6 < pW_i) ∧ ((-1) : Int32).toInt = -1) ∨ (pW_i = 1 ∧ ((-1) : Int32).toInt = 1) ∨ (0 ≤ pW_i ∧ pW_i ≤ 6 ∧ pW_i ≠ 1 ∧ ((-1) : Int32).toInt = 0) := by omega
    exact W.iret (v := (-1)) hx hb hr (fun t ht hW => ⟨⟨(-1), (-1), rfl, rfl, hf9_0, by rw [ht]; exact hP9, va_K.moved hW.alike hK, hD9⟩, hS.F ht⟩) hS.2.2 dX9_count_128
  ·
    refine lv_tableOut (tgt := 127) hx hb dX9_count_1 (by rw [hs_1]; omega) (by decide) ?_
    refine lv_iconst (v := (-1)) hx hb dX9_count_127 (by decide) ?_
    have hP9 := hP.sub (ws' := []) [] rfl
    have hD9 := hD.sub (ws' := []) [] (by decide) rfl
    refine W.widen (k := 0) (n := 0) (Nat.le_of_ble_eq_true rfl) (Nat.le_of_ble_eq_true rfl) ?_
    have hu9 : ((-1) : Int32).toInt = (-1:Int) := (by decide)
    have hf9_0 : ((pW_i < 0 ∨ 6 < pW_i) ∧ ((-1) : Int32).toInt = -1) ∨ (pW_i = 1 ∧ ((-1) : Int32).toInt = 1) ∨ (0 ≤ pW_i ∧ pW_i ≤ 6 ∧ pW_i ≠ 1 ∧ ((-1) : Int32).toInt = 0) := by omega
    exact W.iret (v := (-1)) hx hb hr (fun t ht hW => ⟨⟨(-1), (-1), rfl, rfl, hf9_0, by rw [ht]; exact hP9, va_K.moved hW.alike hK, hD9⟩, hS.F ht⟩) hS.2.2 dX9_count_128
  ·
    refine lv_tableIn (tgt := 48) (off := 47) hx hb dX9_count_1 (by rw [hs_1]; omega) (by rw [hs_1]; omega) (by rw [hs_1, q_2]; rfl) (by decide) ?_
    refine lv_aload_n hx hb dX9_count_48 rfl (lv_at hl 0 rfl) ?_
    refine va_get (D := (dC, dI)) (ci := 9) (v := .ref x_riders) (C := RX9) (T := TX9) (N := 12) hx hb hts hiX9 hown hK hP 0 rfl rfl 0 (by decide) hw0 (fun _ h9 => h9) rfl dX9_count_49 ?_
    refine va_get (D := (dC, dI)) (ci := 5) (v := .int 0) (C := RX5) (T := TX5) (N := 5) hx hb hts hiX5 hown hK hP 1 rfl rfl 0 (by decide) hw1 (fun _ h9 => h9) rfl dX9_count_52 ?_
    have hP9 := hP.sub (ws' := []) [] rfl
    have hD9 := hD.sub (ws' := []) [] (by decide) rfl
    refine W.widen (k := 0) (n := 0) (Nat.le_of_ble_eq_true rfl) (Nat.le_of_ble_eq_true rfl) ?_
    have hu9 : (0 : Int32).toInt = (0:Int) := (by decide)
    have hf9_0 : ((pW_i < 0 ∨ 6 < pW_i) ∧ (0 : Int32).toInt = -1) ∨ (pW_i = 1 ∧ (0 : Int32).toInt = 1) ∨ (0 ≤ pW_i ∧ pW_i ≤ 6 ∧ pW_i ≠ 1 ∧ (0 : Int32).toInt = 0) := by omega
    exact W.iret (v := 0) hx hb hr (fun t ht hW => ⟨⟨0, 0, rfl, rfl, hf9_0, by rw [ht]; exact hP9, va_K.moved hW.alike hK, hD9⟩, hS.F ht⟩) hS.2.2 dX9_count_55
  ·
    refine lv_tableIn (tgt := 56) (off := 55) hx hb dX9_count_1 (by rw [hs_1]; omega) (by rw [hs_1]; omega) (by rw [hs_1, q_2]; rfl) (by decide) ?_
    refine lv_aload_n hx hb dX9_count_56 rfl (lv_at hl 0 rfl) ?_
    refine va_get (D := (dC, dI)) (ci := 9) (v := .ref x_road) (C := RX9) (T := TX9) (N := 12) hx hb hts hiX9 hown hK hP 0 rfl rfl 1 (by decide) hw2 (fun _ h9 => h9) rfl dX9_count_57 ?_
    refine va_get (D := (dC, dI)) (ci := 6) (v := .int 1) (C := RX6) (T := TX6) (N := 7) hx hb hts hiX6 hown hK hP 2 rfl rfl 0 (by decide) hw3 (fun _ h9 => h9) rfl dX9_count_60 ?_
    have hP9 := hP.sub (ws' := []) [] rfl
    have hD9 := hD.sub (ws' := []) [] (by decide) rfl
    refine W.widen (k := 0) (n := 0) (Nat.le_of_ble_eq_true rfl) (Nat.le_of_ble_eq_true rfl) ?_
    have hu9 : (1 : Int32).toInt = (1:Int) := (by decide)
    have hf9_0 : ((pW_i < 0 ∨ 6 < pW_i) ∧ (1 : Int32).toInt = -1) ∨ (pW_i = 1 ∧ (1 : Int32).toInt = 1) ∨ (0 ≤ pW_i ∧ pW_i ≤ 6 ∧ pW_i ≠ 1 ∧ (1 : Int32).toInt = 0) := by omega
    exact W.iret (v := 1) hx hb hr (fun t ht hW => ⟨⟨1, 1, rfl, rfl, hf9_0, by rw [ht]; exact hP9, va_K.moved hW.alike hK, hD9⟩, hS.F ht⟩) hS.2.2 dX9_count_63
  ·
    refine lv_tableIn (tgt := 64) (off := 63) hx hb dX9_count_1 (by rw [hs_1]; omega) (by rw [hs_1]; omega) (by rw [hs_1, q_2]; rfl) (by decide) ?_
    refine lv_aload_n hx hb dX9_count_64 rfl (lv_at hl 0 rfl) ?_
    refine va_get (D := (dC, dI)) (ci := 9) (v := .ref x_road) (C := RX9) (T := TX9) (N := 12) hx hb hts hiX9 hown hK hP 0 rfl rfl 1 (by decide) hw2 (fun _ h9 => h9) rfl dX9_count_65 ?_
    refine va_get (D := (dC, dI)) (ci := 6) (v := .int 0) (C := RX6) (T := TX6) (N := 7) hx hb hts hiX6 hown hK hP 2 rfl rfl 3 (by decide) hw4 (fun _ h9 => h9) rfl dX9_count_68 ?_
    have hP9 := hP.sub (ws' := []) [] rfl
    have hD9 := hD.sub (ws' := []) [] (by decide) rfl
    refine W.widen (k := 0) (n := 0) (Nat.le_of_ble_eq_true rfl) (Nat.le_of_ble_eq_true rfl) ?_
    have hu9 : (0 : Int32).toInt = (0:Int) := (by decide)
    have hf9_0 : ((pW_i < 0 ∨ 6 < pW_i) ∧ (0 : Int32).toInt = -1) ∨ (pW_i = 1 ∧ (0 : Int32).toInt = 1) ∨ (0 ≤ pW_i ∧ pW_i ≤ 6 ∧ pW_i ≠ 1 ∧ (0 : Int32).toInt = 0) := by omega
    exact W.iret (v := 0) hx hb hr (fun t ht hW => ⟨⟨0, 0, rfl, rfl, hf9_0, by rw [ht]; exact hP9, va_K.moved hW.alike hK, hD9⟩, hS.F ht⟩) hS.2.2 dX9_count_71
  ·
    refine lv_tableIn (tgt := 72) (off := 71) hx hb dX9_count_1 (by rw [hs_1]; omega) (by rw [hs_1]; omega) (by rw [hs_1, q_2]; rfl) (by decide) ?_
    refine lv_aload_n hx hb dX9_count_72 rfl (lv_at hl 0 rfl) ?_
    refine va_get (D := (dC, dI)) (ci := 9) (v := .ref x_stages) (C := RX9) (T := TX9) (N := 12) hx hb hts hiX9 hown hK hP 0 rfl rfl 8 (by decide) hw5 (fun _ h9 => h9) rfl dX9_count_73 ?_
    refine va_get (D := (dC, dI)) (ci := 7) (v := .int 0) (C := RX7) (T := TX7) (N := 5) hx hb hts hiX7 hown hK hP 4 rfl rfl 0 (by decide) hw6 (fun _ h9 => h9) rfl dX9_count_76 ?_
    have hP9 := hP.sub (ws' := []) [] rfl
    have hD9 := hD.sub (ws' := []) [] (by decide) rfl
    refine W.widen (k := 0) (n := 0) (Nat.le_of_ble_eq_true rfl) (Nat.le_of_ble_eq_true rfl) ?_
    have hu9 : (0 : Int32).toInt = (0:Int) := (by decide)
    have hf9_0 : ((pW_i < 0 ∨ 6 < pW_i) ∧ (0 : Int32).toInt = -1) ∨ (pW_i = 1 ∧ (0 : Int32).toInt = 1) ∨ (0 ≤ pW_i ∧ pW_i ≤ 6 ∧ pW_i ≠ 1 ∧ (0 : Int32).toInt = 0) := by omega
    exact W.iret (v := 0) hx hb hr (fun t ht hW => ⟨⟨0, 0, rfl, rfl, hf9_0, by rw [ht]; exact hP9, va_K.moved hW.alike hK, hD9⟩, hS.F ht⟩) hS.2.2 dX9_count_79
  ·
    refine lv_tableIn (tgt := 80) (off := 79) hx hb dX9_count_1 (by rw [hs_1]; omega) (by rw [hs_1]; omega) (by rw [hs_1, q_2]; rfl) (by decide) ?_
    refine lv_aload_n hx hb dX9_count_80 rfl (lv_at hl 0 rfl) ?_
    refine va_get (D := (dC, dI)) (ci := 9) (v := .int 0) (C := RX9) (T := TX9) (N := 12) hx hb hts hiX9 hown hK hP 0 rfl rfl 9 (by decide) hw7 (fun _ h9 => h9) rfl dX9_count_81 ?_
    have hP9 := hP.sub (ws' := []) [] rfl
    have hD9 := hD.sub (ws' := []) [] (by decide) rfl
    refine W.widen (k := 0) (n := 0) (Nat.le_of_ble_eq_true rfl) (Nat.le_of_ble_eq_true rfl) ?_
    have hu9 : (0 : Int32).toInt = (0:Int) := (by decide)
    have hf9_0 : ((pW_i < 0 ∨ 6 < pW_i) ∧ (0 : Int32).toInt = -1) ∨ (pW_i = 1 ∧ (0 : Int32).toInt = 1) ∨ (0 ≤ pW_i ∧ pW_i ≤ 6 ∧ pW_i ≠ 1 ∧ (0 : Int32).toInt = 0) := by omega
    exact W.iret (v := 0) hx hb hr (fun t ht hW => ⟨⟨0, 0, rfl, rfl, hf9_0, by rw [ht]; exact hP9, va_K.moved hW.alike hK, hD9⟩, hS.F ht⟩) hS.2.2 dX9_count_84
  ·
    refine lv_tableIn (tgt := 85) (off := 84) hx hb dX9_count_1 (by rw [hs_1]; omega) (by rw [hs_1]; omega) (by rw [hs_1, q_2]; rfl) (by decide) ?_
    refine lv_aload_n hx hb dX9_count_85 rfl (lv_at hl 0 rfl) ?_
    refine va_get (D := (dC, dI)) (ci := 9) (v := .ref x_tape) (C := RX9) (T := TX9) (N := 12) hx hb hts hiX9 hown hK hP 0 rfl rfl 2 (by decide) hw8 (fun _ h9 => h9) rfl dX9_count_86 ?_
    refine va_get (D := (dC, dI)) (ci := 8) (v := .int 0) (C := RX8) (T := TX8) (N := 2) hx hb hts hiX8 hown hK hP 3 rfl rfl 0 (by decide) hw9 (fun _ h9 => h9) rfl dX9_count_89 ?_
    have hP9 := hP.sub (ws' := []) [] rfl
    have hD9 := hD.sub (ws' := []) [] (by decide) rfl
    refine W.widen (k := 0) (n := 0) (Nat.le_of_ble_eq_true rfl) (Nat.le_of_ble_eq_true rfl) ?_
    have hu9 : (0 : Int32).toInt = (0:Int) := (by decide)
    have hf9_0 : ((pW_i < 0 ∨ 6 < pW_i) ∧ (0 : Int32).toInt = -1) ∨ (pW_i = 1 ∧ (0 : Int32).toInt = 1) ∨ (0 ≤ pW_i ∧ pW_i ≤ 6 ∧ pW_i ≠ 1 ∧ (0 : Int32).toInt = 0) := by omega
    exact W.iret (v := 0) hx hb hr (fun t ht hW => ⟨⟨0, 0, rfl, rfl, hf9_0, by rw [ht]; exact hP9, va_K.moved hW.alike hK, hD9⟩, hS.F ht⟩) hS.2.2 dX9_count_92
  ·
    refine lv_tableIn (tgt := 93) (off := 92) hx hb dX9_count_1 (by rw [hs_1]; omega) (by rw [hs_1]; omega) (by rw [hs_1, q_2]; rfl) (by decide) ?_
    refine lv_aload_n hx hb dX9_count_93 rfl (lv_at hl 0 rfl) ?_
    refine va_get (D := (dC, dI)) (ci := 9) (v := .ref x_stages) (C := RX9) (T := TX9) (N := 12) hx hb hts hiX9 hown hK hP 0 rfl rfl 8 (by decide) hw5 (fun _ h9 => h9) rfl dX9_count_94 ?_
    refine lv_aload_n hx hb dX9_count_97 rfl (lv_at hl 0 rfl) ?_
    refine va_get (D := (dC, dI)) (ci := 9) (v := .ref x_riders) (C := RX9) (T := TX9) (N := 12) hx hb hts hiX9 hown hK hP 0 rfl rfl 0 (by decide) hw0 (fun _ h9 => h9) rfl dX9_count_98 ?_
    refine va_get (D := (dC, dI)) (ci := 5) (v := .int 0) (C := RX5) (T := TX5) (N := 5) hx hb hts hiX5 hown hK hP 1 rfl rfl 0 (by decide) hw1 (fun _ h9 => h9) rfl dX9_count_101 ?_
    have hPc := hP.sub (ws' := [(x_stages, .inr (7, [.int 0, .int 20, .ref x_sg_totals, .ref x_sg_points, .ref x_sg_out]))]) [4] rfl
    have hDc := hD.sub (ws' := [(x_stages, .inr (7, [.int 0, .int 20, .ref x_sg_totals, .ref x_sg_points, .ref x_sg_out]))]) [4] (by decide) rfl
    have hFc := va_free (wc := [(x_stages, .inr (7, [.int 0, .int 20, .ref x_sg_totals, .ref x_sg_points, .ref x_sg_out]))]) hD hS hA [4] rfl
    refine va_calli (va_runV (As := [.int 0]) (rest := []) ⟨hx, hb, hml, hown, hts⟩ (c_X7_howManyOut l dC dI cI cZ (s.heap).size x_stages x_sg_totals x_sg_points x_sg_out 0 (0:Int) (by decide) (by omega)) ⟨callB_of 1 hts (zz_good zw_730) rfl rfl rfl hw10 hw11 (by decide +kernel) ⟨Nat.le_of_ble_eq_true rfl, Nat.le_of_ble_eq_true rfl⟩, hw12, hw13⟩ ⟨fun a U g mk q => by obtain ⟨q0, q1, qP, qK, qD⟩ := q; exact ⟨q0, q1, qP, va_K.moved (u := U) (U := U.calling g mk a) (Vm.Alike.refl U.vm) qK, qD⟩, va_recv hK hPc (ci := 7) (q0 := 0) rfl rfl, fun U hU hW => ⟨rfl, by rw [hU], by rw [hU]; exact hPc, va_K.moved hW.alike hK, hDc.weaken (fun _ _ _ _ => trivial)⟩⟩ rfl rfl hl.1 rfl (lv_room (Nat.le_of_ble_eq_true rfl)) dX9_count_104 ⟨Nat.le_of_ble_eq_true rfl, Nat.le_of_ble_eq_true rfl⟩) hS (fun q _ h => hFc q h) hFc (fun r_3 u t H1 locs ht hvm hpost hB hz1 hk1 hS => ?_)
    subst hpost
    obtain ⟨hf_4, hP1, hK1, hD1⟩ := hB
    rw [ht] at hP1
    obtain ⟨hP, hD⟩ := va_join (wr := [(h0, .inr (9, [.ref x_riders, .ref x_road, .ref x_tape, .ref x_book, .ref x_reader, .ref x_latest, .ref x_log, .ref x_trial, .ref x_stages, .int 0, .int 0, .int 0])), (x_riders, .inr (5, [.int 0, .ref x_ri_teams, .ref x_ri_steady, .ref x_ri_full, .ref x_ri_climb])), (x_road, .inr (6, [.int 1, .ref x_ro_rises, .ref x_ro_winds, .int 0, .ref x_ro_primeMetres, .int 0, .int 0])), (x_tape, .inr (8, [.int 0, .ref x_ta_bytes]))]) (w1 := []) hP hD [4] [0, 1, 2, 3] rfl rfl (by decide) (by decide) hk1 hFc hP1 hD1
    generalize H1 = H at hP hS ⊢
    have hP : va_P (dC, dI) vwCl [(h0, .inr (9, [.ref x_riders, .ref x_road, .ref x_tape, .ref x_book, .ref x_reader, .ref x_latest, .ref x_log, .ref x_trial, .ref x_stages, .int 0, .int 0, .int 0])), (x_riders, .inr (5, [.int 0, .ref x_ri_teams, .ref x_ri_steady, .ref x_ri_full, .ref x_ri_climb])), (x_road, .inr (6, [.int 1, .ref x_ro_rises, .ref x_ro_winds, .int 0, .ref x_ro_primeMetres, .int 0, .int 0])), (x_tape, .inr (8, [.int 0, .ref x_ta_bytes]))] H := hP
    have hD : va_D A [(h0, .inr (9, [.ref x_riders, .ref x_road, .ref x_tape, .ref x_book, .ref x_reader, .ref x_latest, .ref x_log, .ref x_trial, .ref x_stages, .int 0, .int 0, .int 0])), (x_riders, .inr (5, [.int 0, .ref x_ri_teams, .ref x_ri_steady, .ref x_ri_full, .ref x_ri_climb])), (x_road, .inr (6, [.int 1, .ref x_ro_rises, .ref x_ro_winds, .int 0, .ref x_ro_primeMetres, .int 0, .int 0])), (x_tape, .inr (8, [.int 0, .ref x_ta_bytes]))] := hD
    have hf_4 : r_3.toInt = 0 := hf_4
    obtain rfl : r_3 = 0 := Int32.toInt_inj.mp (hf_4.trans (by decide))
    have hP9 := hP.sub (ws' := []) [] rfl
    have hD9 := hD.sub (ws' := []) [] (by decide) rfl
    refine W.widen (k := 0) (n := 0) (Nat.le_of_ble_eq_true rfl) (Nat.le_of_ble_eq_true rfl) ?_
    have hu9 : (0 : Int32).toInt = (0:Int) := (by decide)
    have hf9_0 : ((pW_i < 0 ∨ 6 < pW_i) ∧ (0 : Int32).toInt = -1) ∨ (pW_i = 1 ∧ (0 : Int32).toInt = 1) ∨ (0 ≤ pW_i ∧ pW_i ≤ 6 ∧ pW_i ≠ 1 ∧ (0 : Int32).toInt = 0) := by omega
    exact W.iret (v := 0) hx hb hr (fun t ht hW => ⟨⟨0, 0, rfl, rfl, hf9_0, by rw [ht]; exact hP9, va_K.moved hW.alike hK, hD9⟩, hS.F ht⟩) hS.2.2 dX9_count_107
  ·
    refine lv_tableIn (tgt := 108) (off := 107) hx hb dX9_count_1 (by rw [hs_1]; omega) (by rw [hs_1]; omega) (by rw [hs_1, q_2]; rfl) (by decide) ?_
    refine lv_aload_n hx hb dX9_count_108 rfl (lv_at hl 0 rfl) ?_
    refine va_get (D := (dC, dI)) (ci := 9) (v := .int 0) (C := RX9) (T := TX9) (N := 12) hx hb hts hiX9 hown hK hP 0 rfl rfl 10 (by decide) hw14 (fun _ h9 => h9) rfl dX9_count_109 ?_
    refine lv_if_eq (tgt := 125) hx hb dX9_count_112 (by decide) (fun c_5 => ?_) (fun c_5 => ?_)
    ·
      refine lv_iconst (v := (-1)) hx hb dX9_count_125 (by decide) ?_
      have hP9 := hP.sub (ws' := []) [] rfl
      have hD9 := hD.sub (ws' := []) [] (by decide) rfl
      refine W.widen (k := 0) (n := 0) (Nat.le_of_ble_eq_true rfl) (Nat.le_of_ble_eq_true rfl) ?_
      have hu9 : ((-1) : Int32).toInt = (-1:Int) := (by decide)
      have hf9_0 : ((pW_i < 0 ∨ 6 < pW_i) ∧ ((-1) : Int32).toInt = -1) ∨ (pW_i = 1 ∧ ((-1) : Int32).toInt = 1) ∨ (0 ≤ pW_i ∧ pW_i ≤ 6 ∧ pW_i ≠ 1 ∧ ((-1) : Int32).toInt = 0) := by omega
      exact W.iret (v := (-1)) hx hb hr (fun t ht hW => ⟨⟨(-1), (-1), rfl, rfl, hf9_0, by rw [ht]; exact hP9, va_K.moved hW.alike hK, hD9⟩, hS.F ht⟩) hS.2.2 dX9_count_126
    ·
      exact absurd c_5 (by decide)
