set_option maxHeartbeats 8000000 in
set_option maxRecDepth 100000 in
theorem c_X0_clear (l : Launch) (dC : Nat → ClassId) (dI : Nat → Nat → Nat) (cI cZ : ClassId) (sz : Nat) (h0 : Nat) (v_x_onRoad : Int32) (v_x_onRoad_i : Int) (v_x_onRoad_h : v_x_onRoad.toInt = v_x_onRoad_i) (B_v_x_onRoad : 0 ≤ v_x_onRoad_i ∧ v_x_onRoad_i ≤ 20) (v_x_number : Int32) (v_x_number_i : Int) (v_x_number_h : v_x_number.toInt = v_x_number_i) (x_order : Nat) (x_places : Nat) (x_sizes : Nat) : Met l yX0_clear (Cond.code yX0_clear cX0_clear 1 none :: lw_good) ({ frames := 0, cells := 0, slots := 0, locals := 0 }) (va_Pc [.ref h0] (fun U => U.heap.size = sz ∧ va_P (dC, dI) vwCl [(h0, .inr (0, [.int v_x_onRoad, .int v_x_number, .ref x_order, .ref x_places, .ref x_sizes]))] U.heap ∧ va_K (dC, dI) vwCl [(cI, .int), (cZ, .boolean)] U ∧ va_D (fun _ => True) [(h0, .inr (0, [.int v_x_onRoad, .int v_x_number, .ref x_order, .ref x_places, .ref x_sizes]))])) (va_Qv (fun _ : Unit => True) (fun _ t => ∃ (w_h0_onRoad : Int32) (w_h0_number : Int32), (0 ≤ w_h0_onRoad.toInt ∧ w_h0_onRoad.toInt ≤ 20) ∧ va_P (dC, dI) vwCl [(h0, .inr (0, [.int w_h0_onRoad, .int w_h0_number, .ref x_order, .ref x_places, .ref x_sizes]))] t.heap ∧ va_K (dC, dI) vwCl [(cI, .int), (cZ, .boolean)] t ∧ va_D (va_A [(h0, .inr (0, [.int v_x_onRoad, .int v_x_number, .ref x_order, .ref x_places, .ref x_sizes]))] sz) [(h0, .inr (0, [.int w_h0_onRoad, .int w_h0_number, .ref x_order, .ref x_places, .ref x_sizes]))]) (va_A [(h0, .inr (0, [.int v_x_onRoad, .int v_x_number, .ref x_order, .ref x_places, .ref x_sizes]))] sz)) 0 0 (va_A [(h0, .inr (0, [.int v_x_onRoad, .int v_x_number, .ref x_order, .ref x_places, .ref x_sizes]))] sz) := by
  refine Met.ofW (cc := cX0_clear) (maxL := 1) (ret := none) (by decide) rfl ?_
  intro p e s m args below meth c s₁ B hml hv
  obtain ⟨rfl, hsz, hP, hK, hD0⟩ := hv
  have hx := B.exec
  have hb := B.bytes
  have hr := B.returns
  have hts := atoms_spec (ws := Cond.code yX0_clear cX0_clear 1 none :: lw_good) B.pre
  have hown : s.vm.findClass RX0 = some m.cls := findClass_of_methodNamed B.named
  have hlocks := B.notSynchronized
  have hiX0 : ∀ w ∈ wsX00, w ∈ (Cond.code yX0_clear cX0_clear 1 none :: lw_good) := fun w h => List.mem_cons_of_mem _ (zi_X0 w h)
  have hw0 := hts (.fieldLink RX0 9 "BunchRace$Bunches" "onRoad" "I") (List.mem_cons_of_mem _ zw_207)
  have hw1 := hts (.fieldLink RX0 15 "BunchRace$Bunches" "number" "I") (List.mem_cons_of_mem _ zw_209)
  subst hsz
  have hD := hD0.self (sz := s.heap.size)
  generalize hAe : va_A [(h0, .inr (0, [.int v_x_onRoad, .int v_x_number, .ref x_order, .ref x_places, .ref x_sizes]))] s.heap.size = A at hD ⊢
  have hA : ∀ q : Nat, s.heap.size ≤ q → A q := fun q h => by rw [← hAe]; exact Or.inr h
  have hS : va_S A s.heap s.heap [] := va_S.rf
  have hP : va_P (dC, dI) vwCl [(h0, .inr (0, [.int v_x_onRoad, .int v_x_number, .ref x_order, .ref x_places, .ref x_sizes]))] s.heap := hP
  have hl := lv_entry ([.ref h0]) (n := 1) (Nat.le_of_ble_eq_true rfl)
  rw [lg_entry_eq]
  generalize (lg_sl ([.ref h0]) ++ List.replicate (1 - (lg_sl ([.ref h0])).length) Slot.unset).toArray = ls at hl ⊢
  have hl : lv_has ls 1 [(0, .ref h0)] := hl
  refine lv_aload_n hx hb dX0_clear_0 rfl (lv_at hl 0 rfl) ?_
  refine lv_iconst (v := 0) hx hb dX0_clear_1 (by decide) ?_
  refine va_put (D := (dC, dI)) (ci := 0) (v := .int 0) (ty := .int) (C := RX0) (T := TX0) (N := 5) hx hb hts hiX0 tyX0 tyX0_ok nmX0 hown hK hP hD hS 0 rfl rfl 0 (by decide) hw0 (fun _ h9 => h9) rfl (by decide +kernel) rfl rfl (Nat.le_of_ble_eq_true rfl) dX0_clear_2 (fun H locs hP hD hS => ?_)
  have hP : va_P (dC, dI) vwCl [(h0, .inr (0, [.int 0, .int v_x_number, .ref x_order, .ref x_places, .ref x_sizes]))] H := hP
  have hD : va_D A [(h0, .inr (0, [.int 0, .int v_x_number, .ref x_order, .ref x_places, .ref x_sizes]))] := hD
  refine lv_aload_n hx hb dX0_clear_5 rfl (lv_at hl 0 rfl) ?_
  refine lv_iconst (v := 0) hx hb dX0_clear_6 (by decide) ?_
  refine va_put (D := (dC, dI)) (ci := 0) (v := .int 0) (ty := .int) (C := RX0) (T := TX0) (N := 5) hx hb hts hiX0 tyX0 tyX0_ok nmX0 hown hK hP hD hS 0 rfl rfl 1 (by decide) hw1 (fun _ h9 => h9) rfl (by decide +kernel) rfl rfl (Nat.le_of_ble_eq_true rfl) dX0_clear_7 (fun H locs hP hD hS => ?_)
  have hP : va_P (dC, dI) vwCl [(h0, .inr (0, [.int 0, .int 0, .ref x_order, .ref x_places, .ref x_sizes]))] H := hP
  have hD : va_D A [(h0, .inr (0, [.int 0, .int 0, .ref x_order, .ref x_places, .ref x_sizes]))] := hD
  have hx9_w_h0_onRoad : (0 : Int32).toInt = (0:Int) := (by decide)
  have hx9_w_h0_number : (0 : Int32).toInt = (0:Int) := (by decide)
  have hP9 := hP.sub (ws' := [(h0, .inr (0, [.int 0, .int 0, .ref x_order, .ref x_places, .ref x_sizes]))]) [0] rfl
  have hD9 := hD.sub (ws' := [(h0, .inr (0, [.int 0, .int 0, .ref x_order, .ref x_places, .ref x_sizes]))]) [0] (by decide) rfl
  have hf9_0 : 0 ≤ (0 : Int32).toInt ∧ (0 : Int32).toInt ≤ 20 := by omega
  exact W.vret hx hb hr (fun t ht hW => ⟨⟨(), rfl, trivial, (0 : Int32), (0 : Int32), hf9_0, by rw [ht]; exact hP9, va_K.moved hW.alike hK, hD9⟩, hS.F ht⟩) hS.2.2 dX0_clear_10

set_option maxHeartbeats 8000000 in
set_option maxRecDepth 100000 in
theorem c_X0_stand (l : Launch) (dC : Nat → ClassId) (dI : Nat → Nat → Nat) (cI cZ : ClassId) (sz : Nat) (h0 : Nat) (pR : Int32) (pR_i : Int) (pR_h : pR.toInt = pR_i) (B_pR : 0 ≤ pR_i ∧ pR_i ≤ 19) (pMe : Nat) (v_x_onRoad : Int32) (v_x_onRoad_i : Int) (v_x_onRoad_h : v_x_onRoad.toInt = v_x_onRoad_i) (B_v_x_onRoad : 0 ≤ v_x_onRoad_i ∧ v_x_onRoad_i ≤ 20) (v_x_number : Int32) (v_x_number_i : Int) (v_x_number_h : v_x_number.toInt = v_x_number_i) (x_order : Nat) (x_places : Nat) (x_sizes : Nat) (f_x_order : Nat → Int32) (R_x_order : zr f_x_order 20 (0) (19)) (f_pMe : Nat → Int32) (R_pMe : zr f_pMe 20 (0) (30000)) : Met l yX0_stand (Cond.code yX0_stand cX0_stand 4 none :: lw_good) ({ frames := 0, cells := 0, slots := 0, locals := 0 }) (va_Pc [.ref h0, .int pR, .ref pMe] (fun U => U.heap.size = sz ∧ va_P (dC, dI) vwCl [(h0, .inr (0, [.int v_x_onRoad, .int v_x_number, .ref x_order, .ref x_places, .ref x_sizes])), (x_order, .inl (cI, 20, .inl f_x_order)), (pMe, .inl (cI, 20, .inl f_pMe))] U.heap ∧ va_K (dC, dI) vwCl [(cI, .int), (cZ, .boolean)] U ∧ va_D (fun _ => True) [(h0, .inr (0, [.int v_x_onRoad, .int v_x_number, .ref x_order, .ref x_places, .ref x_sizes])), (x_order, .inl (cI, 20, .inl f_x_order)), (pMe, .inl (cI, 20, .inl f_pMe))])) (va_Qv (fun _ : Unit => True) (fun _ t => ∃ (w_h0_onRoad : Int32) (g_x_order : Nat → Int32), (0 ≤ w_h0_onRoad.toInt ∧ w_h0_onRoad.toInt ≤ 20) ∧ (zr g_x_order 20 (0) (19)) ∧ va_P (dC, dI) vwCl [(h0, .inr (0, [.int w_h0_onRoad, .int v_x_number, .ref x_order, .ref x_places, .ref x_sizes])), (x_order, .inl (cI, 20, .inl g_x_order)), (pMe, .inl (cI, 20, .inl f_pMe))] t.heap ∧ va_K (dC, dI) vwCl [(cI, .int), (cZ, .boolean)] t ∧ va_D (va_A [(h0, .inr (0, [.int v_x_onRoad, .int v_x_number, .ref x_order, .ref x_places, .ref x_sizes])), (x_order, .inl (cI, 20, .inl f_x_order)), (pMe, .inl (cI, 20, .inl f_pMe))] sz) [(h0, .inr (0, [.int w_h0_onRoad, .int v_x_number, .ref x_order, .ref x_places, .ref x_sizes])), (x_order, .inl (cI, 20, .inl g_x_order)), (pMe, .inl (cI, 20, .inl f_pMe))]) (va_A [(h0, .inr (0, [.int v_x_onRoad, .int v_x_number, .ref x_order, .ref x_places, .ref x_sizes])), (x_order, .inl (cI, 20, .inl f_x_order)), (pMe, .inl (cI, 20, .inl f_pMe))] sz)) 0 0 (va_A [(h0, .inr (0, [.int v_x_onRoad, .int v_x_number, .ref x_order, .ref x_places, .ref x_sizes])), (x_order, .inl (cI, 20, .inl f_x_order)), (pMe, .inl (cI, 20, .inl f_pMe))] sz) := by
  refine Met.ofW (cc := cX0_stand) (maxL := 4) (ret := none) (by decide) rfl ?_
  intro p e s m args below meth c s₁ B hml hv
  obtain ⟨rfl, hsz, hP, hK, hD0⟩ := hv
  have hx := B.exec
  have hb := B.bytes
  have hr := B.returns
  have hts := atoms_spec (ws := Cond.code yX0_stand cX0_stand 4 none :: lw_good) B.pre
  have hown : s.vm.findClass RX0 = some m.cls := findClass_of_methodNamed B.named
  have hlocks := B.notSynchronized
  have hiX0 : ∀ w ∈ wsX00, w ∈ (Cond.code yX0_stand cX0_stand 4 none :: lw_good) := fun w h => List.mem_cons_of_mem _ (zi_X0 w h)
  have hw0 := hts (.fieldLink RX0 9 "BunchRace$Bunches" "onRoad" "I") (List.mem_cons_of_mem _ zw_207)
  have hw1 := hts (.fieldLink RX0 18 "BunchRace$Bunches" "order" "[I") (List.mem_cons_of_mem _ zw_211)
  subst hsz
  have hD := hD0.self (sz := s.heap.size)
  generalize hAe : va_A [(h0, .inr (0, [.int v_x_onRoad, .int v_x_number, .ref x_order, .ref x_places, .ref x_sizes])), (x_order, .inl (cI, 20, .inl f_x_order)), (pMe, .inl (cI, 20, .inl f_pMe))] s.heap.size = A at hD ⊢
  have hA : ∀ q : Nat, s.heap.size ≤ q → A q := fun q h => by rw [← hAe]; exact Or.inr h
  have hS : va_S A s.heap s.heap [] := va_S.rf
  have hP : va_P (dC, dI) vwCl [(h0, .inr (0, [.int v_x_onRoad, .int v_x_number, .ref x_order, .ref x_places, .ref x_sizes])), (x_order, .inl (cI, 20, .inl f_x_order)), (pMe, .inl (cI, 20, .inl f_pMe))] s.heap := hP
  have hl := lv_entry ([.ref h0, .int pR, .ref pMe]) (n := 4) (Nat.le_of_ble_eq_true rfl)
  rw [lg_entry_eq]
  generalize (lg_sl ([.ref h0, .int pR, .ref pMe]) ++ List.replicate (4 - (lg_sl ([.ref h0, .int pR, .ref pMe])).length) Slot.unset).toArray = ls at hl ⊢
  have hl : lv_has ls 4 [(0, .ref h0), (1, .int pR), (2, .ref pMe)] := hl
  refine lv_aload_n hx hb dX0_stand_0 rfl (lv_at hl 0 rfl) ?_
  refine va_get (D := (dC, dI)) (ci := 0) (v := .int v_x_onRoad) (C := RX0) (T := TX0) (N := 5) hx hb hts hiX0 hown hK hP 0 rfl rfl 0 (by decide) hw0 (fun _ h9 => h9) rfl dX0_stand_1 ?_
  refine lv_bipush (v := 20) hx hb dX0_stand_4 (by decide) ?_
  refine lv_icmp_lt (tgt := 10) hx hb dX0_stand_6 (by decide) (fun c_1 => ?_) (fun c_1 => ?_)
  ·
    have c_1 : v_x_onRoad_i < (20:Int) := zz_lt v_x_onRoad_h (by decide) c_1
    refine lv_aload_n hx hb dX0_stand_10 rfl (lv_at hl 0 rfl) ?_
    refine va_get (D := (dC, dI)) (ci := 0) (v := .int v_x_onRoad) (C := RX0) (T := TX0) (N := 5) hx hb hts hiX0 hown hK hP 0 rfl rfl 0 (by decide) hw0 (fun _ h9 => h9) rfl dX0_stand_11 ?_
    refine lv_istore_n (lv' := [(3, .int v_x_onRoad), (0, .ref h0), (1, .int pR), (2, .ref pMe)]) hx hb dX0_stand_14 rfl hl (by decide) rfl (fun ls hl => ?_)
    have L_21 : ∀ (n : Nat) (i3_L_21 : Int32) (g_x_order_L_21 : Nat → Int32) (H : Heap) (locs : List Loc) (ls : Array Slot), (0 ≤ i3_L_21.toInt) → (i3_L_21.toInt ≤ 19) → (zr g_x_order_L_21 20 (0) (19)) → (i3_L_21.toInt) < (n : Int) → va_P (dC, dI) vwCl [(h0, .inr (0, [.int v_x_onRoad, .int v_x_number, .ref x_order, .ref x_places, .ref x_sizes])), (x_order, .inl (cI, 20, .inl g_x_order_L_21)), (pMe, .inl (cI, 20, .inl f_pMe))] H → va_D A [(h0, .inr (0, [.int v_x_onRoad, .int v_x_number, .ref x_order, .ref x_places, .ref x_sizes])), (x_order, .inl (cI, 20, .inl g_x_order_L_21)), (pMe, .inl (cI, 20, .inl f_pMe))] → va_S A s.heap H locs → lv_has ls 4 [(3, .int i3_L_21), (0, .ref h0), (1, .int pR), (2, .ref pMe)] → W p l e ((headSpec (Cond.code yX0_stand cX0_stand 4 none :: lw_good) ({ frames := 0, cells := 0, slots := 0, locals := 0 })).room) s m (([.ref h0, .int pR, .ref pMe] : List Value).toArray) below meth c H locs 0 0 (MQ below (va_Qv (fun _ : Unit => True) (fun _ t => ∃ (w_h0_onRoad : Int32) (g_x_order : Nat → Int32), (0 ≤ w_h0_onRoad.toInt ∧ w_h0_onRoad.toInt ≤ 20) ∧ (zr g_x_order 20 (0) (19)) ∧ va_P (dC, dI) vwCl [(h0, .inr (0, [.int w_h0_onRoad, .int v_x_number, .ref x_order, .ref x_places, .ref x_sizes])), (x_order, .inl (cI, 20, .inl g_x_order)), (pMe, .inl (cI, 20, .inl f_pMe))] t.heap ∧ va_K (dC, dI) vwCl [(cI, .int), (cZ, .boolean)] t ∧ va_D A [(h0, .inr (0, [.int w_h0_onRoad, .int v_x_number, .ref x_order, .ref x_places, .ref x_sizes])), (x_order, .inl (cI, 20, .inl g_x_order)), (pMe, .inl (cI, 20, .inl f_pMe))]) A) (([.ref h0, .int pR, .ref pMe] : List Value).toArray) s 0 0 A) (F0 m 15 ls []) := by
      intro n
      induction n with
      | zero =>
        intro i3_L_21 g_x_order_L_21 H locs ls hI0 hI1 hI2 hM
        exact absurd hM (by omega)
      | succ n ih =>
        intro i3_L_21 g_x_order_L_21 H locs ls hI0 hI1 hI2 hM hP hD hS hl
        have ih_22 := ih
        have hi_23 := hI0
        have hi_24 := hI1
        have hi_25 := hI2
        refine lv_iload_n hx hb dX0_stand_15 rfl (lv_at hl 0 rfl) ?_
        refine lv_if_le (tgt := 55) hx hb dX0_stand_16 (by decide) (fun c_26 => ?_) (fun c_26 => ?_)
        ·
          have c_26 : (i3_L_21).toInt ≤ (0:Int) := zz_le rfl (by decide) c_26
          refine lv_aload_n hx hb dX0_stand_55 rfl (lv_at hl 1 rfl) ?_
          refine va_get (D := (dC, dI)) (ci := 0) (v := .ref x_order) (C := RX0) (T := TX0) (N := 5) hx hb hts hiX0 hown hK hP 0 rfl rfl 2 (by decide) hw1 (fun _ h9 => h9) rfl dX0_stand_56 ?_
          refine lv_iload_n hx hb dX0_stand_59 rfl (lv_at hl 0 rfl) ?_
          refine lv_iload_n hx hb dX0_stand_60 rfl (lv_at hl 2 rfl) ?_
          refine va_iast hx hb hK hP hD hS 1 0 rfl rfl (zz_in (a := (i3_L_21).toInt) rfl (by omega) (by omega)) dX0_stand_61 (fun H locs hP hD hS => ?_)
          have hP : va_P (dC, dI) vwCl [(h0, .inr (0, [.int v_x_onRoad, .int v_x_number, .ref x_order, .ref x_places, .ref x_sizes])), (x_order, .inl (cI, 20, .inl (upd g_x_order_L_21 (Int32.toNatClampNeg i3_L_21) pR))), (pMe, .inl (cI, 20, .inl f_pMe))] H := hP
          have hD : va_D A [(h0, .inr (0, [.int v_x_onRoad, .int v_x_number, .ref x_order, .ref x_places, .ref x_sizes])), (x_order, .inl (cI, 20, .inl (upd g_x_order_L_21 (Int32.toNatClampNeg i3_L_21) pR))), (pMe, .inl (cI, 20, .inl f_pMe))] := hD
          have R_28 : zr (upd g_x_order_L_21 (Int32.toNatClampNeg i3_L_21) pR) 20 (0) (19) := zr_upd (b := pR_i) hi_25 _ pR_h (by omega) (by omega)
          generalize upd g_x_order_L_21 (Int32.toNatClampNeg i3_L_21) pR = f_27 at hP hD R_28
          refine lv_aload_n hx hb dX0_stand_62 rfl (lv_at hl 1 rfl) ?_
          refine lv_dup hx hb dX0_stand_63 rfl ?_
          refine va_get (D := (dC, dI)) (ci := 0) (v := .int v_x_onRoad) (C := RX0) (T := TX0) (N := 5) hx hb hts hiX0 hown hK hP 0 rfl rfl 0 (by decide) hw0 (fun _ h9 => h9) rfl dX0_stand_64 ?_
          refine lv_iconst (v := 1) hx hb dX0_stand_67 (by decide) ?_
          refine lv_iadd hx hb dX0_stand_68 ?_
          refine lv_topi (fun v_29 ev_29 => ?_)
          have hv_29 : v_29.toInt = (v_x_onRoad_i + (1:Int)) := by rw [ev_29]; exact zz_addI v_x_onRoad_h (by decide) (by omega) (by omega)
          refine va_put (D := (dC, dI)) (ci := 0) (v := .int v_29) (ty := .int) (C := RX0) (T := TX0) (N := 5) hx hb hts hiX0 tyX0 tyX0_ok nmX0 hown hK hP hD hS 0 rfl rfl 0 (by decide) hw0 (fun _ h9 => h9) rfl (by decide +kernel) rfl rfl (Nat.le_of_ble_eq_true rfl) dX0_stand_69 (fun H locs hP hD hS => ?_)
          have hP : va_P (dC, dI) vwCl [(h0, .inr (0, [.int v_29, .int v_x_number, .ref x_order, .ref x_places, .ref x_sizes])), (x_order, .inl (cI, 20, .inl f_27)), (pMe, .inl (cI, 20, .inl f_pMe))] H := hP
          have hD : va_D A [(h0, .inr (0, [.int v_29, .int v_x_number, .ref x_order, .ref x_places, .ref x_sizes])), (x_order, .inl (cI, 20, .inl f_27)), (pMe, .inl (cI, 20, .inl f_pMe))] := hD
          have hx9_w_h0_onRoad : (v_29 : Int32).toInt = (v_x_onRoad_i + (1:Int)) := hv_29
          have hP9 := hP.sub (ws' := [(h0, .inr (0, [.int v_29, .int v_x_number, .ref x_order, .ref x_places, .ref x_sizes])), (x_order, .inl (cI, 20, .inl f_27)), (pMe, .inl (cI, 20, .inl f_pMe))]) [0, 1, 2] rfl
          have hD9 := hD.sub (ws' := [(h0, .inr (0, [.int v_29, .int v_x_number, .ref x_order, .ref x_places, .ref x_sizes])), (x_order, .inl (cI, 20, .inl f_27)), (pMe, .inl (cI, 20, .inl f_pMe))]) [0, 1, 2] (by decide) rfl
          have hf9_0 : 0 ≤ v_29.toInt ∧ v_29.toInt ≤ 20 := by omega
          have hf9_1 : zr f_27 20 (0) (19) := R_28
          exact W.vret hx hb hr (fun t ht hW => ⟨⟨(), rfl, trivial, v_29, f_27, hf9_0, hf9_1, by rw [ht]; exact hP9, va_K.moved hW.alike hK, hD9⟩, hS.F ht⟩) hS.2.2 dX0_stand_72
        ·
          have c_26 : ¬ ((i3_L_21).toInt ≤ (0:Int)) := zz_len rfl (by decide) c_26
          refine lv_aload_n hx hb dX0_stand_19 rfl (lv_at hl 3 rfl) ?_
          refine lv_aload_n hx hb dX0_stand_20 rfl (lv_at hl 1 rfl) ?_
          refine va_get (D := (dC, dI)) (ci := 0) (v := .ref x_order) (C := RX0) (T := TX0) (N := 5) hx hb hts hiX0 hown hK hP 0 rfl rfl 2 (by decide) hw1 (fun _ h9 => h9) rfl dX0_stand_21 ?_
          refine lv_iload_n hx hb dX0_stand_24 rfl (lv_at hl 0 rfl) ?_
          refine lv_iconst (v := 1) hx hb dX0_stand_25 (by decide) ?_
          refine lv_isub hx hb dX0_stand_26 ?_
          refine lv_topi (fun v_30 ev_30 => ?_)
          have hv_30 : v_30.toInt = ((i3_L_21).toInt - (1:Int)) := by rw [ev_30]; exact zz_subI rfl (by decide) (by omega) (by omega)
          refine va_iald hx hb hK hP 1 0 rfl rfl (zz_in (a := ((i3_L_21).toInt - (1:Int))) hv_30 (by omega) (by omega)) dX0_stand_27 ?_
          refine lv_topi (fun v_31 ev_31 => ?_)
          have bv_31 : 0 ≤ v_31.toInt ∧ v_31.toInt ≤ 19 := by rw [ev_31]; exact zr_get (a := ((i3_L_21).toInt - (1:Int))) hi_25 hv_30 (by omega) (by omega)
          refine va_iald hx hb hK hP 2 0 rfl rfl (zz_in (a := (v_31).toInt) rfl (by omega) (by omega)) dX0_stand_28 ?_
          refine lv_topi (fun v_32 ev_32 => ?_)
          have bv_32 : 0 ≤ v_32.toInt ∧ v_32.toInt ≤ 30000 := by rw [ev_32]; exact zr_get (a := (v_31).toInt) R_pMe rfl (by omega) (by omega)
          refine lv_aload_n hx hb dX0_stand_29 rfl (lv_at hl 3 rfl) ?_
          refine lv_iload_n hx hb dX0_stand_30 rfl (lv_at hl 2 rfl) ?_
          refine va_iald hx hb hK hP 2 0 rfl rfl (zz_in (a := pR_i) pR_h (by omega) (by omega)) dX0_stand_31 ?_
          refine lv_topi (fun v_33 ev_33 => ?_)
          have bv_33 : 0 ≤ v_33.toInt ∧ v_33.toInt ≤ 30000 := by rw [ev_33]; exact zr_get (a := pR_i) R_pMe pR_h (by omega) (by omega)
          refine lv_icmp_ge (tgt := 55) hx hb dX0_stand_32 (by decide) (fun c_34 => ?_) (fun c_34 => ?_)
          ·
            have c_34 : (v_33).toInt ≤ (v_32).toInt := zz_le rfl rfl c_34
            refine lv_aload_n hx hb dX0_stand_55 rfl (lv_at hl 1 rfl) ?_
            refine va_get (D := (dC, dI)) (ci := 0) (v := .ref x_order) (C := RX0) (T := TX0) (N := 5) hx hb hts hiX0 hown hK hP 0 rfl rfl 2 (by decide) hw1 (fun _ h9 => h9) rfl dX0_stand_56 ?_
            refine lv_iload_n hx hb dX0_stand_59 rfl (lv_at hl 0 rfl) ?_
            refine lv_iload_n hx hb dX0_stand_60 rfl (lv_at hl 2 rfl) ?_
            refine va_iast hx hb hK hP hD hS 1 0 rfl rfl (zz_in (a := (i3_L_21).toInt) rfl (by omega) (by omega)) dX0_stand_61 (fun H locs hP hD hS => ?_)
            have hP : va_P (dC, dI) vwCl [(h0, .inr (0, [.int v_x_onRoad, .int v_x_number, .ref x_order, .ref x_places, .ref x_sizes])), (x_order, .inl (cI, 20, .inl (upd g_x_order_L_21 (Int32.toNatClampNeg i3_L_21) pR))), (pMe, .inl (cI, 20, .inl f_pMe))] H := hP
            have hD : va_D A [(h0, .inr (0, [.int v_x_onRoad, .int v_x_number, .ref x_order, .ref x_places, .ref x_sizes])), (x_order, .inl (cI, 20, .inl (upd g_x_order_L_21 (Int32.toNatClampNeg i3_L_21) pR))), (pMe, .inl (cI, 20, .inl f_pMe))] := hD
            have R_36 : zr (upd g_x_order_L_21 (Int32.toNatClampNeg i3_L_21) pR) 20 (0) (19) := zr_upd (b := pR_i) hi_25 _ pR_h (by omega) (by omega)
            generalize upd g_x_order_L_21 (Int32.toNatClampNeg i3_L_21) pR = f_35 at hP hD R_36
            refine lv_aload_n hx hb dX0_stand_62 rfl (lv_at hl 1 rfl) ?_
            refine lv_dup hx hb dX0_stand_63 rfl ?_
            refine va_get (D := (dC, dI)) (ci := 0) (v := .int v_x_onRoad) (C := RX0) (T := TX0) (N := 5) hx hb hts hiX0 hown hK hP 0 rfl rfl 0 (by decide) hw0 (fun _ h9 => h9) rfl dX0_stand_64 ?_
            refine lv_iconst (v := 1) hx hb dX0_stand_67 (by decide) ?_
            refine lv_iadd hx hb dX0_stand_68 ?_
            refine lv_topi (fun v_37 ev_37 => ?_)
            have hv_37 : v_37.toInt = (v_x_onRoad_i + (1:Int)) := by rw [ev_37]; exact zz_addI v_x_onRoad_h (by decide) (by omega) (by omega)
            refine va_put (D := (dC, dI)) (ci := 0) (v := .int v_37) (ty := .int) (C := RX0) (T := TX0) (N := 5) hx hb hts hiX0 tyX0 tyX0_ok nmX0 hown hK hP hD hS 0 rfl rfl 0 (by decide) hw0 (fun _ h9 => h9) rfl (by decide +kernel) rfl rfl (Nat.le_of_ble_eq_true rfl) dX0_stand_69 (fun H locs hP hD hS => ?_)
            have hP : va_P (dC, dI) vwCl [(h0, .inr (0, [.int v_37, .int v_x_number, .ref x_order, .ref x_places, .ref x_sizes])), (x_order, .inl (cI, 20, .inl f_35)), (pMe, .inl (cI, 20, .inl f_pMe))] H := hP
            have hD : va_D A [(h0, .inr (0, [.int v_37, .int v_x_number, .ref x_order, .ref x_places, .ref x_sizes])), (x_order, .inl (cI, 20, .inl f_35)), (pMe, .inl (cI, 20, .inl f_pMe))] := hD
            have hx9_w_h0_onRoad : (v_37 : Int32).toInt = (v_x_onRoad_i + (1:Int)) := hv_37
            have hP9 := hP.sub (ws' := [(h0, .inr (0, [.int v_37, .int v_x_number, .ref x_order, .ref x_places, .ref x_sizes])), (x_order, .inl (cI, 20, .inl f_35)), (pMe, .inl (cI, 20, .inl f_pMe))]) [0, 1, 2] rfl
            have hD9 := hD.sub (ws' := [(h0, .inr (0, [.int v_37, .int v_x_number, .ref x_order, .ref x_places, .ref x_sizes])), (x_order, .inl (cI, 20, .inl f_35)), (pMe, .inl (cI, 20, .inl f_pMe))]) [0, 1, 2] (by decide) rfl
            have hf9_0 : 0 ≤ v_37.toInt ∧ v_37.toInt ≤ 20 := by omega
            have hf9_1 : zr f_35 20 (0) (19) := R_36
            exact W.vret hx hb hr (fun t ht hW => ⟨⟨(), rfl, trivial, v_37, f_35, hf9_0, hf9_1, by rw [ht]; exact hP9, va_K.moved hW.alike hK, hD9⟩, hS.F ht⟩) hS.2.2 dX0_stand_72
          ·
            have c_34 : ¬ ((v_33).toInt ≤ (v_32).toInt) := zz_len rfl rfl c_34
            refine lv_aload_n hx hb dX0_stand_35 rfl (lv_at hl 1 rfl) ?_
            refine va_get (D := (dC, dI)) (ci := 0) (v := .ref x_order) (C := RX0) (T := TX0) (N := 5) hx hb hts hiX0 hown hK hP 0 rfl rfl 2 (by decide) hw1 (fun _ h9 => h9) rfl dX0_stand_36 ?_
            refine lv_iload_n hx hb dX0_stand_39 rfl (lv_at hl 0 rfl) ?_
            refine lv_aload_n hx hb dX0_stand_40 rfl (lv_at hl 1 rfl) ?_
            refine va_get (D := (dC, dI)) (ci := 0) (v := .ref x_order) (C := RX0) (T := TX0) (N := 5) hx hb hts hiX0 hown hK hP 0 rfl rfl 2 (by decide) hw1 (fun _ h9 => h9) rfl dX0_stand_41 ?_
            refine lv_iload_n hx hb dX0_stand_44 rfl (lv_at hl 0 rfl) ?_
            refine lv_iconst (v := 1) hx hb dX0_stand_45 (by decide) ?_
            refine lv_isub hx hb dX0_stand_46 ?_
            refine lv_topi (fun v_38 ev_38 => ?_)
            have hv_38 : v_38.toInt = ((i3_L_21).toInt - (1:Int)) := by rw [ev_38]; exact zz_subI rfl (by decide) (by omega) (by omega)
            refine va_iald hx hb hK hP 1 0 rfl rfl (zz_in (a := ((i3_L_21).toInt - (1:Int))) hv_38 (by omega) (by omega)) dX0_stand_47 ?_
            refine lv_topi (fun v_39 ev_39 => ?_)
            have bv_39 : 0 ≤ v_39.toInt ∧ v_39.toInt ≤ 19 := by rw [ev_39]; exact zr_get (a := ((i3_L_21).toInt - (1:Int))) hi_25 hv_38 (by omega) (by omega)
            refine va_iast hx hb hK hP hD hS 1 0 rfl rfl (zz_in (a := (i3_L_21).toInt) rfl (by omega) (by omega)) dX0_stand_48 (fun H locs hP hD hS => ?_)
            have hP : va_P (dC, dI) vwCl [(h0, .inr (0, [.int v_x_onRoad, .int v_x_number, .ref x_order, .ref x_places, .ref x_sizes])), (x_order, .inl (cI, 20, .inl (upd g_x_order_L_21 (Int32.toNatClampNeg i3_L_21) v_39))), (pMe, .inl (cI, 20, .inl f_pMe))] H := hP
            have hD : va_D A [(h0, .inr (0, [.int v_x_onRoad, .int v_x_number, .ref x_order, .ref x_places, .ref x_sizes])), (x_order, .inl (cI, 20, .inl (upd g_x_order_L_21 (Int32.toNatClampNeg i3_L_21) v_39))), (pMe, .inl (cI, 20, .inl f_pMe))] := hD
            have R_41 : zr (upd g_x_order_L_21 (Int32.toNatClampNeg i3_L_21) v_39) 20 (0) (19) := zr_upd (b := (v_39).toInt) hi_25 _ rfl (by omega) (by omega)
            generalize upd g_x_order_L_21 (Int32.toNatClampNeg i3_L_21) v_39 = f_40 at hP hD R_41
            obtain ⟨v_42, ev_42⟩ : ∃ y : Int32, y = i3_L_21 + (-1) := ⟨_, rfl⟩
            have hv_42 : v_42.toInt = ((i3_L_21).toInt + (-1:Int)) := by rw [ev_42]; exact zz_addI rfl (by decide) (by omega) (by omega)
            refine lv_iinc (v := v_42) (lv' := [(3, .int v_42), (0, .ref h0), (1, .int pR), (2, .ref pMe)]) hx hb dX0_stand_49 hl (k := 0) rfl (by rw [ev_42]; rfl) (by decide) rfl (fun ls hl => ?_)
            refine lv_goto (tgt := 15) hx hb dX0_stand_52 (by decide) ?_
            have hb_43_i3_L_21 : (v_42 : Int32).toInt = ((i3_L_21).toInt + (-1:Int)) := hv_42
            exact ih_22 v_42 f_40 H locs ls (by omega) (by omega) R_41 (by omega) (hP.sub [0, 1, 2] rfl) (hD.sub [0, 1, 2] (by decide) rfl) hS (lv_sub hl [0, 1, 2, 3] rfl)
    have hb_44_i3_L_21 : (v_x_onRoad : Int32).toInt = v_x_onRoad_i := v_x_onRoad_h
    exact L_21 1000 v_x_onRoad f_x_order s.heap [] ls (by omega) (by omega) R_x_order (by omega) (hP.sub [0, 1, 2] rfl) (hD.sub [0, 1, 2] (by decide) rfl) hS (lv_sub hl [0, 1, 2, 3] rfl)
  ·
    have c_1 : ¬ (v_x_onRoad_i < (20:Int)) := zz_ltn v_x_onRoad_h (by decide) c_1
    have hx9_w_h0_onRoad : (v_x_onRoad : Int32).toInt = v_x_onRoad_i := v_x_onRoad_h
    have hP9 := hP.sub (ws' := [(h0, .inr (0, [.int v_x_onRoad, .int v_x_number, .ref x_order, .ref x_places, .ref x_sizes])), (x_order, .inl (cI, 20, .inl f_x_order)), (pMe, .inl (cI, 20, .inl f_pMe))]) [0, 1, 2] rfl
    have hD9 := hD.sub (ws' := [(h0, .inr (0, [.int v_x_onRoad, .int v_x_number, .ref x_order, .ref x_places, .ref x_sizes])), (x_order, .inl (cI, 20, .inl f_x_order)), (pMe, .inl (cI, 20, .inl f_pMe))]) [0, 1, 2] (by decide) rfl
    have hf9_0 : 0 ≤ v_x_onRoad.toInt ∧ v_x_onRoad.toInt ≤ 20 := by omega
    have hf9_1 : zr f_x_order 20 (0) (19) := R_x_order
    exact W.vret hx hb hr (fun t ht hW => ⟨⟨(), rfl, trivial, v_x_onRoad, f_x_order, hf9_0, hf9_1, by rw [ht]; exact hP9, va_K.moved hW.alike hK, hD9⟩, hS.F ht⟩) hS.2.2 dX0_stand_9

set_option maxHeartbeats 8000000 in
set_option maxRecDepth 100000 in
theorem c_X0_close (l : Launch) (dC : Nat → ClassId) (dI : Nat → Nat → Nat) (cI cZ : ClassId) (sz : Nat) (h0 : Nat) (pF : Int32) (pF_i : Int) (pF_h : pF.toInt = pF_i) (B_pF : 0 ≤ pF_i ∧ pF_i ≤ 20) (pL : Int32) (pL_i : Int) (pL_h : pL.toInt = pL_i) (B_pL : 0 ≤ pL_i ∧ pL_i ≤ 19) (v_x_onRoad : Int32) (v_x_onRoad_i : Int) (v_x_onRoad_h : v_x_onRoad.toInt = v_x_onRoad_i) (B_v_x_onRoad : 0 ≤ v_x_onRoad_i ∧ v_x_onRoad_i ≤ 20) (v_x_number : Int32) (v_x_number_i : Int) (v_x_number_h : v_x_number.toInt = v_x_number_i) (x_order : Nat) (x_places : Nat) (x_sizes : Nat) (f_x_order : Nat → Int32) (R_x_order : zr f_x_order 20 (0) (19)) (f_x_sizes : Nat → Int32) : Met l yX0_close (Cond.code yX0_close cX0_close 4 none :: lw_good) ({ frames := 0, cells := 0, slots := 0, locals := 0 }) (va_Pc [.ref h0, .int pF, .int pL] (fun U => U.heap.size = sz ∧ va_P (dC, dI) vwCl [(h0, .inr (0, [.int v_x_onRoad, .int v_x_number, .ref x_order, .ref x_places, .ref x_sizes])), (x_order, .inl (cI, 20, .inl f_x_order)), (x_sizes, .inl (cI, 20, .inl f_x_sizes))] U.heap ∧ va_K (dC, dI) vwCl [(cI, .int), (cZ, .boolean)] U ∧ va_D (fun _ => True) [(h0, .inr (0, [.int v_x_onRoad, .int v_x_number, .ref x_order, .ref x_places, .ref x_sizes])), (x_order, .inl (cI, 20, .inl f_x_order)), (x_sizes, .inl (cI, 20, .inl f_x_sizes))])) (va_Qv (fun _ : Unit => True) (fun _ t => ∃ (w_h0_number : Int32) (g_x_sizes : Nat → Int32), va_P (dC, dI) vwCl [(h0, .inr (0, [.int v_x_onRoad, .int w_h0_number, .ref x_order, .ref x_places, .ref x_sizes])), (x_order, .inl (cI, 20, .inl f_x_order)), (x_sizes, .inl (cI, 20, .inl g_x_sizes))] t.heap ∧ va_K (dC, dI) vwCl [(cI, .int), (cZ, .boolean)] t ∧ va_D (va_A [(h0, .inr (0, [.int v_x_onRoad, .int v_x_number, .ref x_order, .ref x_places, .ref x_sizes])), (x_order, .inl (cI, 20, .inl f_x_order)), (x_sizes, .inl (cI, 20, .inl f_x_sizes))] sz) [(h0, .inr (0, [.int v_x_onRoad, .int w_h0_number, .ref x_order, .ref x_places, .ref x_sizes])), (x_order, .inl (cI, 20, .inl f_x_order)), (x_sizes, .inl (cI, 20, .inl g_x_sizes))]) (va_A [(h0, .inr (0, [.int v_x_onRoad, .int v_x_number, .ref x_order, .ref x_places, .ref x_sizes])), (x_order, .inl (cI, 20, .inl f_x_order)), (x_sizes, .inl (cI, 20, .inl f_x_sizes))] sz)) 0 0 (va_A [(h0, .inr (0, [.int v_x_onRoad, .int v_x_number, .ref x_order, .ref x_places, .ref x_sizes])), (x_order, .inl (cI, 20, .inl f_x_order)), (x_sizes, .inl (cI, 20, .inl f_x_sizes))] sz) := by
  refine Met.ofW (cc := cX0_close) (maxL := 4) (ret := none) (by decide) rfl ?_
  intro p e s m args below meth c s₁ B hml hv
  obtain ⟨rfl, hsz, hP, hK, hD0⟩ := hv
  have hx := B.exec
  have hb := B.bytes
  have hr := B.returns
  have hts := atoms_spec (ws := Cond.code yX0_close cX0_close 4 none :: lw_good) B.pre
  have hown : s.vm.findClass RX0 = some m.cls := findClass_of_methodNamed B.named
  have hlocks := B.notSynchronized
  have hiX0 : ∀ w ∈ wsX00, w ∈ (Cond.code yX0_close cX0_close 4 none :: lw_good) := fun w h => List.mem_cons_of_mem _ (zi_X0 w h)
  have hw0 := hts (.fieldLink RX0 15 "BunchRace$Bunches" "number" "I") (List.mem_cons_of_mem _ zw_209)
  have hw1 := hts (.fieldLink RX0 25 "BunchRace$Bunches" "sizes" "[I") (List.mem_cons_of_mem _ zw_215)
  have hw2 := hts (.fieldLink RX0 18 "BunchRace$Bunches" "order" "[I") (List.mem_cons_of_mem _ zw_211)
  subst hsz
  have hD := hD0.self (sz := s.heap.size)
  generalize hAe : va_A [(h0, .inr (0, [.int v_x_onRoad, .int v_x_number, .ref x_order, .ref x_places, .ref x_sizes])), (x_order, .inl (cI, 20, .inl f_x_order)), (x_sizes, .inl (cI, 20, .inl f_x_sizes))] s.heap.size = A at hD ⊢
  have hA : ∀ q : Nat, s.heap.size ≤ q → A q := fun q h => by rw [← hAe]; exact Or.inr h
  have hS : va_S A s.heap s.heap [] := va_S.rf
  have hP : va_P (dC, dI) vwCl [(h0, .inr (0, [.int v_x_onRoad, .int v_x_number, .ref x_order, .ref x_places, .ref x_sizes])), (x_order, .inl (cI, 20, .inl f_x_order)), (x_sizes, .inl (cI, 20, .inl f_x_sizes))] s.heap := hP
  have hl := lv_entry ([.ref h0, .int pF, .int pL]) (n := 4) (Nat.le_of_ble_eq_true rfl)
  rw [lg_entry_eq]
  generalize (lg_sl ([.ref h0, .int pF, .int pL]) ++ List.replicate (4 - (lg_sl ([.ref h0, .int pF, .int pL])).length) Slot.unset).toArray = ls at hl ⊢
  have hl : lv_has ls 4 [(0, .ref h0), (1, .int pF), (2, .int pL)] := hl
  refine lv_iload_n hx hb dX0_close_0 rfl (lv_at hl 1 rfl) ?_
  refine lv_istore_n (lv' := [(3, .int pF), (0, .ref h0), (1, .int pF), (2, .int pL)]) hx hb dX0_close_1 rfl hl (by decide) rfl (fun ls hl => ?_)
  have L_10 : ∀ (n : Nat) (i3_L_10 : Int32) (g_x_sizes_L_10 : Nat → Int32) (H : Heap) (locs : List Loc) (ls : Array Slot), (0 ≤ i3_L_10.toInt) → (i3_L_10.toInt ≤ 20) → (20 - i3_L_10.toInt) < (n : Int) → va_P (dC, dI) vwCl [(h0, .inr (0, [.int v_x_onRoad, .int v_x_number, .ref x_order, .ref x_places, .ref x_sizes])), (x_order, .inl (cI, 20, .inl f_x_order)), (x_sizes, .inl (cI, 20, .inl g_x_sizes_L_10))] H → va_D A [(h0, .inr (0, [.int v_x_onRoad, .int v_x_number, .ref x_order, .ref x_places, .ref x_sizes])), (x_order, .inl (cI, 20, .inl f_x_order)), (x_sizes, .inl (cI, 20, .inl g_x_sizes_L_10))] → va_S A s.heap H locs → lv_has ls 4 [(3, .int i3_L_10), (0, .ref h0), (1, .int pF), (2, .int pL)] → W p l e ((headSpec (Cond.code yX0_close cX0_close 4 none :: lw_good) ({ frames := 0, cells := 0, slots := 0, locals := 0 })).room) s m (([.ref h0, .int pF, .int pL] : List Value).toArray) below meth c H locs 0 0 (MQ below (va_Qv (fun _ : Unit => True) (fun _ t => ∃ (w_h0_number : Int32) (g_x_sizes : Nat → Int32), va_P (dC, dI) vwCl [(h0, .inr (0, [.int v_x_onRoad, .int w_h0_number, .ref x_order, .ref x_places, .ref x_sizes])), (x_order, .inl (cI, 20, .inl f_x_order)), (x_sizes, .inl (cI, 20, .inl g_x_sizes))] t.heap ∧ va_K (dC, dI) vwCl [(cI, .int), (cZ, .boolean)] t ∧ va_D A [(h0, .inr (0, [.int v_x_onRoad, .int w_h0_number, .ref x_order, .ref x_places, .ref x_sizes])), (x_order, .inl (cI, 20, .inl f_x_order)), (x_sizes, .inl (cI, 20, .inl g_x_sizes))]) A) (([.ref h0, .int pF, .int pL] : List Value).toArray) s 0 0 A) (F0 m 2 ls []) := by
    intro n
    induction n with
    | zero =>
      intro i3_L_10 g_x_sizes_L_10 H locs ls hI0 hI1 hM
      exact absurd hM (by omega)
    | succ n ih =>
      intro i3_L_10 g_x_sizes_L_10 H locs ls hI0 hI1 hM hP hD hS hl
      have ih_11 := ih
      have hi_12 := hI0
      have hi_13 := hI1
      refine lv_iload_n hx hb dX0_close_2 rfl (lv_at hl 0 rfl) ?_
      refine lv_iload_n hx hb dX0_close_3 rfl (lv_at hl 3 rfl) ?_
      refine lv_icmp_gt (tgt := 29) hx hb dX0_close_4 (by decide) (fun c_14 => ?_) (fun c_14 => ?_)
      ·
        have c_14 : pL_i < (i3_L_10).toInt := zz_lt pL_h rfl c_14
        refine lv_aload_n hx hb dX0_close_29 rfl (lv_at hl 1 rfl) ?_
        refine lv_dup hx hb dX0_close_30 rfl ?_
        refine va_get (D := (dC, dI)) (ci := 0) (v := .int v_x_number) (C := RX0) (T := TX0) (N := 5) hx hb hts hiX0 hown hK hP 0 rfl rfl 1 (by decide) hw0 (fun _ h9 => h9) rfl dX0_close_31 ?_
        refine lv_iconst (v := 1) hx hb dX0_close_34 (by decide) ?_
        refine lv_iadd hx hb dX0_close_35 ?_
        refine lv_topi (fun v_15 _ => ?_)
        refine va_put (D := (dC, dI)) (ci := 0) (v := .int v_15) (ty := .int) (C := RX0) (T := TX0) (N := 5) hx hb hts hiX0 tyX0 tyX0_ok nmX0 hown hK hP hD hS 0 rfl rfl 1 (by decide) hw0 (fun _ h9 => h9) rfl (by decide +kernel) rfl rfl (Nat.le_of_ble_eq_true rfl) dX0_close_36 (fun H locs hP hD hS => ?_)
        have hP : va_P (dC, dI) vwCl [(h0, .inr (0, [.int v_x_onRoad, .int v_15, .ref x_order, .ref x_places, .ref x_sizes])), (x_order, .inl (cI, 20, .inl f_x_order)), (x_sizes, .inl (cI, 20, .inl g_x_sizes_L_10))] H := hP
        have hD : va_D A [(h0, .inr (0, [.int v_x_onRoad, .int v_15, .ref x_order, .ref x_places, .ref x_sizes])), (x_order, .inl (cI, 20, .inl f_x_order)), (x_sizes, .inl (cI, 20, .inl g_x_sizes_L_10))] := hD
        have hx9_w_h0_number : (v_15 : Int32).toInt = (v_15).toInt := rfl
        have hP9 := hP.sub (ws' := [(h0, .inr (0, [.int v_x_onRoad, .int v_15, .ref x_order, .ref x_places, .ref x_sizes])), (x_order, .inl (cI, 20, .inl f_x_order)), (x_sizes, .inl (cI, 20, .inl g_x_sizes_L_10))]) [0, 1, 2] rfl
        have hD9 := hD.sub (ws' := [(h0, .inr (0, [.int v_x_onRoad, .int v_15, .ref x_order, .ref x_places, .ref x_sizes])), (x_order, .inl (cI, 20, .inl f_x_order)), (x_sizes, .inl (cI, 20, .inl g_x_sizes_L_10))]) [0, 1, 2] (by decide) rfl
        exact W.vret hx hb hr (fun t ht hW => ⟨⟨(), rfl, trivial, v_15, g_x_sizes_L_10, by rw [ht]; exact hP9, va_K.moved hW.alike hK, hD9⟩, hS.F ht⟩) hS.2.2 dX0_close_39
      ·
        have c_14 : ¬ (pL_i < (i3_L_10).toInt) := zz_ltn pL_h rfl c_14
        refine lv_aload_n hx hb dX0_close_7 rfl (lv_at hl 1 rfl) ?_
        refine va_get (D := (dC, dI)) (ci := 0) (v := .ref x_sizes) (C := RX0) (T := TX0) (N := 5) hx hb hts hiX0 hown hK hP 0 rfl rfl 4 (by decide) hw1 (fun _ h9 => h9) rfl dX0_close_8 ?_
        refine lv_aload_n hx hb dX0_close_11 rfl (lv_at hl 1 rfl) ?_
        refine va_get (D := (dC, dI)) (ci := 0) (v := .ref x_order) (C := RX0) (T := TX0) (N := 5) hx hb hts hiX0 hown hK hP 0 rfl rfl 2 (by decide) hw2 (fun _ h9 => h9) rfl dX0_close_12 ?_
        refine lv_iload_n hx hb dX0_close_15 rfl (lv_at hl 0 rfl) ?_
        refine va_iald hx hb hK hP 1 0 rfl rfl (zz_in (a := (i3_L_10).toInt) rfl (by omega) (by omega)) dX0_close_16 ?_
        refine lv_topi (fun v_16 ev_16 => ?_)
        have bv_16 : 0 ≤ v_16.toInt ∧ v_16.toInt ≤ 19 := by rw [ev_16]; exact zr_get (a := (i3_L_10).toInt) R_x_order rfl (by omega) (by omega)
        refine lv_iload_n hx hb dX0_close_17 rfl (lv_at hl 3 rfl) ?_
        refine lv_iload_n hx hb dX0_close_18 rfl (lv_at hl 2 rfl) ?_
        refine lv_isub hx hb dX0_close_19 ?_
        refine lv_topi (fun v_17 ev_17 => ?_)
        have hv_17 : v_17.toInt = (pL_i - pF_i) := by rw [ev_17]; exact zz_subI pL_h pF_h (by omega) (by omega)
        refine lv_iconst (v := 1) hx hb dX0_close_20 (by decide) ?_
        refine lv_iadd hx hb dX0_close_21 ?_
        refine lv_topi (fun v_18 ev_18 => ?_)
        have hv_18 : v_18.toInt = ((pL_i - pF_i) + (1:Int)) := by rw [ev_18]; exact zz_addI hv_17 (by decide) (by omega) (by omega)
        refine va_iast hx hb hK hP hD hS 2 0 rfl rfl (zz_in (a := (v_16).toInt) rfl (by omega) (by omega)) dX0_close_22 (fun H locs hP hD hS => ?_)
        have hP : va_P (dC, dI) vwCl [(h0, .inr (0, [.int v_x_onRoad, .int v_x_number, .ref x_order, .ref x_places, .ref x_sizes])), (x_order, .inl (cI, 20, .inl f_x_order)), (x_sizes, .inl (cI, 20, .inl (upd g_x_sizes_L_10 (Int32.toNatClampNeg v_16) v_18)))] H := hP
        have hD : va_D A [(h0, .inr (0, [.int v_x_onRoad, .int v_x_number, .ref x_order, .ref x_places, .ref x_sizes])), (x_order, .inl (cI, 20, .inl f_x_order)), (x_sizes, .inl (cI, 20, .inl (upd g_x_sizes_L_10 (Int32.toNatClampNeg v_16) v_18)))] := hD
        generalize upd g_x_sizes_L_10 (Int32.toNatClampNeg v_16) v_18 = f_19 at hP hD
        obtain ⟨v_20, ev_20⟩ : ∃ y : Int32, y = i3_L_10 + 1 := ⟨_, rfl⟩
        have hv_20 : v_20.toInt = ((i3_L_10).toInt + (1:Int)) := by rw [ev_20]; exact zz_addI rfl (by decide) (by omega) (by omega)
        refine lv_iinc (v := v_20) (lv' := [(3, .int v_20), (0, .ref h0), (1, .int pF), (2, .int pL)]) hx hb dX0_close_23 hl (k := 0) rfl (by rw [ev_20]; rfl) (by decide) rfl (fun ls hl => ?_)
        refine lv_goto (tgt := 2) hx hb dX0_close_26 (by decide) ?_
        have hb_21_i3_L_10 : (v_20 : Int32).toInt = ((i3_L_10).toInt + (1:Int)) := hv_20
        exact ih_11 v_20 f_19 H locs ls (by omega) (by omega) (by omega) (hP.sub [0, 1, 2] rfl) (hD.sub [0, 1, 2] (by decide) rfl) hS (lv_sub hl [0, 1, 2, 3] rfl)
  have hb_22_i3_L_10 : (pF : Int32).toInt = pF_i := pF_h
  exact L_10 1000 pF f_x_sizes s.heap [] ls (by omega) (by omega) (by omega) (hP.sub [0, 1, 2] rfl) (hD.sub [0, 1, 2] (by decide) rfl) hS (lv_sub hl [0, 1, 2, 3] rfl)

set_option maxHeartbeats 8000000 in
set_option maxRecDepth 100000 in
theorem c_X0_part (l : Launch) (dC : Nat → ClassId) (dI : Nat → Nat → Nat) (cI cZ : ClassId) (sz : Nat) (h0 : Nat) (pMe : Nat) (v_x_onRoad : Int32) (v_x_onRoad_i : Int) (v_x_onRoad_h : v_x_onRoad.toInt = v_x_onRoad_i) (B_v_x_onRoad : 0 ≤ v_x_onRoad_i ∧ v_x_onRoad_i ≤ 20) (v_x_number : Int32) (v_x_number_i : Int) (v_x_number_h : v_x_number.toInt = v_x_number_i) (x_order : Nat) (x_places : Nat) (x_sizes : Nat) (f_x_order : Nat → Int32) (R_x_order : zr f_x_order 20 (0) (19)) (f_x_places : Nat → Int32) (f_x_sizes : Nat → Int32) (f_pMe : Nat → Int32) (R_pMe : zr f_pMe 20 (0) (30000)) : Met l yX0_part (Cond.code yX0_part cX0_part 5 none :: lw_good) ({ frames := 1, cells := 0, slots := 0, locals := 23 }) (va_Pc [.ref h0, .ref pMe] (fun U => U.heap.size = sz ∧ va_P (dC, dI) vwCl [(h0, .inr (0, [.int v_x_onRoad, .int v_x_number, .ref x_order, .ref x_places, .ref x_sizes])), (x_order, .inl (cI, 20, .inl f_x_order)), (x_places, .inl (cI, 20, .inl f_x_places)), (x_sizes, .inl (cI, 20, .inl f_x_sizes)), (pMe, .inl (cI, 20, .inl f_pMe))] U.heap ∧ va_K (dC, dI) vwCl [(cI, .int), (cZ, .boolean)] U ∧ va_D (fun _ => True) [(h0, .inr (0, [.int v_x_onRoad, .int v_x_number, .ref x_order, .ref x_places, .ref x_sizes])), (x_order, .inl (cI, 20, .inl f_x_order)), (x_places, .inl (cI, 20, .inl f_x_places)), (x_sizes, .inl (cI, 20, .inl f_x_sizes)), (pMe, .inl (cI, 20, .inl f_pMe))])) (va_Qv (fun _ : Unit => True) (fun _ t => ∃ (w_h0_number : Int32) (g_x_places : Nat → Int32) (g_x_sizes : Nat → Int32), va_P (dC, dI) vwCl [(h0, .inr (0, [.int v_x_onRoad, .int w_h0_number, .ref x_order, .ref x_places, .ref x_sizes])), (x_order, .inl (cI, 20, .inl f_x_order)), (x_places, .inl (cI, 20, .inl g_x_places)), (x_sizes, .inl (cI, 20, .inl g_x_sizes)), (pMe, .inl (cI, 20, .inl f_pMe))] t.heap ∧ va_K (dC, dI) vwCl [(cI, .int), (cZ, .boolean)] t ∧ va_D (va_A [(h0, .inr (0, [.int v_x_onRoad, .int v_x_number, .ref x_order, .ref x_places, .ref x_sizes])), (x_order, .inl (cI, 20, .inl f_x_order)), (x_places, .inl (cI, 20, .inl f_x_places)), (x_sizes, .inl (cI, 20, .inl f_x_sizes)), (pMe, .inl (cI, 20, .inl f_pMe))] sz) [(h0, .inr (0, [.int v_x_onRoad, .int w_h0_number, .ref x_order, .ref x_places, .ref x_sizes])), (x_order, .inl (cI, 20, .inl f_x_order)), (x_places, .inl (cI, 20, .inl g_x_places)), (x_sizes, .inl (cI, 20, .inl g_x_sizes)), (pMe, .inl (cI, 20, .inl f_pMe))]) (va_A [(h0, .inr (0, [.int v_x_onRoad, .int v_x_number, .ref x_order, .ref x_places, .ref x_sizes])), (x_order, .inl (cI, 20, .inl f_x_order)), (x_places, .inl (cI, 20, .inl f_x_places)), (x_sizes, .inl (cI, 20, .inl f_x_sizes)), (pMe, .inl (cI, 20, .inl f_pMe))] sz)) 0 0 (va_A [(h0, .inr (0, [.int v_x_onRoad, .int v_x_number, .ref x_order, .ref x_places, .ref x_sizes])), (x_order, .inl (cI, 20, .inl f_x_order)), (x_places, .inl (cI, 20, .inl f_x_places)), (x_sizes, .inl (cI, 20, .inl f_x_sizes)), (pMe, .inl (cI, 20, .inl f_pMe))] sz) := by
  refine Met.ofW (cc := cX0_part) (maxL := 5) (ret := none) (by decide) rfl ?_
  intro p e s m args below meth c s₁ B hml hv
  obtain ⟨rfl, hsz, hP, hK, hD0⟩ := hv
  have hx := B.exec
  have hb := B.bytes
  have hr := B.returns
  have hts := atoms_spec (ws := Cond.code yX0_part cX0_part 5 none :: lw_good) B.pre
  have hown : s.vm.findClass RX0 = some m.cls := findClass_of_methodNamed B.named
  have hlocks := B.notSynchronized
  have hiX0 : ∀ w ∈ wsX00, w ∈ (Cond.code yX0_part cX0_part 5 none :: lw_good) := fun w h => List.mem_cons_of_mem _ (zi_X0 w h)
  have hw0 := hts (.fieldLink RX0 9 "BunchRace$Bunches" "onRoad" "I") (List.mem_cons_of_mem _ zw_207)
  have hw1 := hts (.fieldLink RX0 22 "BunchRace$Bunches" "places" "[I") (List.mem_cons_of_mem _ zw_213)
  have hw2 := hts (.fieldLink RX0 18 "BunchRace$Bunches" "order" "[I") (List.mem_cons_of_mem _ zw_211)
  have hw3 := hts (.initialized RX0) (List.mem_cons_of_mem _ zw_55)
  have hw4 := hts (.methodLink RX0 28 yX0_close) (List.mem_cons_of_mem _ zw_532)
  have hw5 := hts (.instanceMethod yX0_close) (List.mem_cons_of_mem _ zw_534)
  have hw6 := hts (.selects RX0 yX0_close yX0_close) (List.mem_cons_of_mem _ zw_8)
  subst hsz
  have hD := hD0.self (sz := s.heap.size)
  generalize hAe : va_A [(h0, .inr (0, [.int v_x_onRoad, .int v_x_number, .ref x_order, .ref x_places, .ref x_sizes])), (x_order, .inl (cI, 20, .inl f_x_order)), (x_places, .inl (cI, 20, .inl f_x_places)), (x_sizes, .inl (cI, 20, .inl f_x_sizes)), (pMe, .inl (cI, 20, .inl f_pMe))] s.heap.size = A at hD ⊢
  have hA : ∀ q : Nat, s.heap.size ≤ q → A q := fun q h => by rw [← hAe]; exact Or.inr h
  have hS : va_S A s.heap s.heap [] := va_S.rf
  have hP : va_P (dC, dI) vwCl [(h0, .inr (0, [.int v_x_onRoad, .int v_x_number, .ref x_order, .ref x_places, .ref x_sizes])), (x_order, .inl (cI, 20, .inl f_x_order)), (x_places, .inl (cI, 20, .inl f_x_places)), (x_sizes, .inl (cI, 20, .inl f_x_sizes)), (pMe, .inl (cI, 20, .inl f_pMe))] s.heap := hP
  have hl := lv_entry ([.ref h0, .ref pMe]) (n := 5) (Nat.le_of_ble_eq_true rfl)
  rw [lg_entry_eq]
  generalize (lg_sl ([.ref h0, .ref pMe]) ++ List.replicate (5 - (lg_sl ([.ref h0, .ref pMe])).length) Slot.unset).toArray = ls at hl ⊢
  have hl : lv_has ls 5 [(0, .ref h0), (1, .ref pMe)] := hl
  refine lv_iconst (v := 0) hx hb dX0_part_0 (by decide) ?_
  refine lv_istore_n (lv' := [(2, .int 0), (0, .ref h0), (1, .ref pMe)]) hx hb dX0_part_1 rfl hl (by decide) rfl (fun ls hl => ?_)
  refine lv_iconst (v := 0) hx hb dX0_part_2 (by decide) ?_
  refine lv_istore_n (lv' := [(3, .int 0), (2, .int 0), (0, .ref h0), (1, .ref pMe)]) hx hb dX0_part_3 rfl hl (by decide) rfl (fun ls hl => ?_)
  have L_32 : ∀ (n : Nat) (i3_L_32 : Int32) (i2_L_32 : Int32) (g_x_places_L_32 : Nat → Int32) (g_x_sizes_L_32 : Nat → Int32) (w_h0_number_L_32 : Int32) (H : Heap) (locs : List Loc) (ls : Array Slot), (0 ≤ i3_L_32.toInt) → (i3_L_32.toInt ≤ 20) → (0 ≤ i2_L_32.toInt) → (i2_L_32.toInt ≤ 20) → (20 - i3_L_32.toInt) < (n : Int) → va_P (dC, dI) vwCl [(h0, .inr (0, [.int v_x_onRoad, .int w_h0_number_L_32, .ref x_order, .ref x_places, .ref x_sizes])), (x_order, .inl (cI, 20, .inl f_x_order)), (x_places, .inl (cI, 20, .inl g_x_places_L_32)), (x_sizes, .inl (cI, 20, .inl g_x_sizes_L_32)), (pMe, .inl (cI, 20, .inl f_pMe))] H → va_D A [(h0, .inr (0, [.int v_x_onRoad, .int w_h0_number_L_32, .ref x_order, .ref x_places, .ref x_sizes])), (x_order, .inl (cI, 20, .inl f_x_order)), (x_places, .inl (cI, 20, .inl g_x_places_L_32)), (x_sizes, .inl (cI, 20, .inl g_x_sizes_L_32)), (pMe, .inl (cI, 20, .inl f_pMe))] → va_S A s.heap H locs → lv_has ls 5 [(3, .int i3_L_32), (2, .int i2_L_32), (0, .ref h0), (1, .ref pMe)] → W p l e ((headSpec (Cond.code yX0_part cX0_part 5 none :: lw_good) ({ frames := 1, cells := 0, slots := 0, locals := 23 })).room) s m (([.ref h0, .ref pMe] : List Value).toArray) below meth c H locs 0 0 (MQ below (va_Qv (fun _ : Unit => True) (fun _ t => ∃ (w_h0_number : Int32) (g_x_places : Nat → Int32) (g_x_sizes : Nat → Int32), va_P (dC, dI) vwCl [(h0, .inr (0, [.int v_x_onRoad, .int w_h0_number, .ref x_order, .ref x_places, .ref x_sizes])), (x_order, .inl (cI, 20, .inl f_x_order)), (x_places, .inl (cI, 20, .inl g_x_places)), (x_sizes, .inl (cI, 20, .inl g_x_sizes)), (pMe, .inl (cI, 20, .inl f_pMe))] t.heap ∧ va_K (dC, dI) vwCl [(cI, .int), (cZ, .boolean)] t ∧ va_D A [(h0, .inr (0, [.int v_x_onRoad, .int w_h0_number, .ref x_order, .ref x_places, .ref x_sizes])), (x_order, .inl (cI, 20, .inl f_x_order)), (x_places, .inl (cI, 20, .inl g_x_places)), (x_sizes, .inl (cI, 20, .inl g_x_sizes)), (pMe, .inl (cI, 20, .inl f_pMe))]) A) (([.ref h0, .ref pMe] : List Value).toArray) s 0 0 A) (F0 m 4 ls []) := by
    intro n
    induction n with
    | zero =>
      intro i3_L_32 i2_L_32 g_x_places_L_32 g_x_sizes_L_32 w_h0_number_L_32 H locs ls hI0 hI1 hI2 hI3 hM
      exact absurd hM (by omega)
    | succ n ih =>
      intro i3_L_32 i2_L_32 g_x_places_L_32 g_x_sizes_L_32 w_h0_number_L_32 H locs ls hI0 hI1 hI2 hI3 hM hP hD hS hl
      have ih_33 := ih
      have hi_34 := hI0
      have hi_35 := hI1
      have hi_36 := hI2
      have hi_37 := hI3
      refine lv_iload_n hx hb dX0_part_4 rfl (lv_at hl 0 rfl) ?_
      refine lv_aload_n hx hb dX0_part_5 rfl (lv_at hl 2 rfl) ?_
      refine va_get (D := (dC, dI)) (ci := 0) (v := .int v_x_onRoad) (C := RX0) (T := TX0) (N := 5) hx hb hts hiX0 hown hK hP 0 rfl rfl 0 (by decide) hw0 (fun _ h9 => h9) rfl dX0_part_6 ?_
      refine lv_icmp_ge (tgt := 90) hx hb dX0_part_9 (by decide) (fun c_38 => ?_) (fun c_38 => ?_)
      ·
        have c_38 : v_x_onRoad_i ≤ (i3_L_32).toInt := zz_le v_x_onRoad_h rfl c_38
        have hx9_w_h0_number : (w_h0_number_L_32 : Int32).toInt = (w_h0_number_L_32).toInt := rfl
        have hP9 := hP.sub (ws' := [(h0, .inr (0, [.int v_x_onRoad, .int w_h0_number_L_32, .ref x_order, .ref x_places, .ref x_sizes])), (x_order, .inl (cI, 20, .inl f_x_order)), (x_places, .inl (cI, 20, .inl g_x_places_L_32)), (x_sizes, .inl (cI, 20, .inl g_x_sizes_L_32)), (pMe, .inl (cI, 20, .inl f_pMe))]) [0, 1, 2, 3, 4] rfl
        have hD9 := hD.sub (ws' := [(h0, .inr (0, [.int v_x_onRoad, .int w_h0_number_L_32, .ref x_order, .ref x_places, .ref x_sizes])), (x_order, .inl (cI, 20, .inl f_x_order)), (x_places, .inl (cI, 20, .inl g_x_places_L_32)), (x_sizes, .inl (cI, 20, .inl g_x_sizes_L_32)), (pMe, .inl (cI, 20, .inl f_pMe))]) [0, 1, 2, 3, 4] (by decide) rfl
        exact W.vret hx hb hr (fun t ht hW => ⟨⟨(), rfl, trivial, w_h0_number_L_32, g_x_places_L_32, g_x_sizes_L_32, by rw [ht]; exact hP9, va_K.moved hW.alike hK, hD9⟩, hS.F ht⟩) hS.2.2 dX0_part_90
      ·
        have c_38 : ¬ (v_x_onRoad_i ≤ (i3_L_32).toInt) := zz_len v_x_onRoad_h rfl c_38
        refine lv_aload_n hx hb dX0_part_12 rfl (lv_at hl 2 rfl) ?_
        refine va_get (D := (dC, dI)) (ci := 0) (v := .ref x_places) (C := RX0) (T := TX0) (N := 5) hx hb hts hiX0 hown hK hP 0 rfl rfl 3 (by decide) hw1 (fun _ h9 => h9) rfl dX0_part_13 ?_
        refine lv_aload_n hx hb dX0_part_16 rfl (lv_at hl 2 rfl) ?_
        refine va_get (D := (dC, dI)) (ci := 0) (v := .ref x_order) (C := RX0) (T := TX0) (N := 5) hx hb hts hiX0 hown hK hP 0 rfl rfl 2 (by decide) hw2 (fun _ h9 => h9) rfl dX0_part_17 ?_
        refine lv_iload_n hx hb dX0_part_20 rfl (lv_at hl 0 rfl) ?_
        refine va_iald hx hb hK hP 1 0 rfl rfl (zz_in (a := (i3_L_32).toInt) rfl (by omega) (by omega)) dX0_part_21 ?_
        refine lv_topi (fun v_39 ev_39 => ?_)
        have bv_39 : 0 ≤ v_39.toInt ∧ v_39.toInt ≤ 19 := by rw [ev_39]; exact zr_get (a := (i3_L_32).toInt) R_x_order rfl (by omega) (by omega)
        refine lv_iload_n hx hb dX0_part_22 rfl (lv_at hl 0 rfl) ?_
        refine lv_iload_n hx hb dX0_part_23 rfl (lv_at hl 1 rfl) ?_
        refine lv_isub hx hb dX0_part_24 ?_
        refine lv_topi (fun v_40 ev_40 => ?_)
        have hv_40 : v_40.toInt = ((i3_L_32).toInt - (i2_L_32).toInt) := by rw [ev_40]; exact zz_subI rfl rfl (by omega) (by omega)
        refine lv_iconst (v := 1) hx hb dX0_part_25 (by decide) ?_
        refine lv_iadd hx hb dX0_part_26 ?_
        refine lv_topi (fun v_41 ev_41 => ?_)
        have hv_41 : v_41.toInt = (((i3_L_32).toInt - (i2_L_32).toInt) + (1:Int)) := by rw [ev_41]; exact zz_addI hv_40 (by decide) (by omega) (by omega)
        refine va_iast hx hb hK hP hD hS 2 0 rfl rfl (zz_in (a := (v_39).toInt) rfl (by omega) (by omega)) dX0_part_27 (fun H locs hP hD hS => ?_)
        have hP : va_P (dC, dI) vwCl [(h0, .inr (0, [.int v_x_onRoad, .int w_h0_number_L_32, .ref x_order, .ref x_places, .ref x_sizes])), (x_order, .inl (cI, 20, .inl f_x_order)), (x_places, .inl (cI, 20, .inl (upd g_x_places_L_32 (Int32.toNatClampNeg v_39) v_41))), (x_sizes, .inl (cI, 20, .inl g_x_sizes_L_32)), (pMe, .inl (cI, 20, .inl f_pMe))] H := hP
        have hD : va_D A [(h0, .inr (0, [.int v_x_onRoad, .int w_h0_number_L_32, .ref x_order, .ref x_places, .ref x_sizes])), (x_order, .inl (cI, 20, .inl f_x_order)), (x_places, .inl (cI, 20, .inl (upd g_x_places_L_32 (Int32.toNatClampNeg v_39) v_41))), (x_sizes, .inl (cI, 20, .inl g_x_sizes_L_32)), (pMe, .inl (cI, 20, .inl f_pMe))] := hD
        generalize upd g_x_places_L_32 (Int32.toNatClampNeg v_39) v_41 = f_42 at hP hD
        refine lv_iload_n hx hb dX0_part_28 rfl (lv_at hl 0 rfl) ?_
        refine lv_iconst (v := 1) hx hb dX0_part_29 (by decide) ?_
        refine lv_iadd hx hb dX0_part_30 ?_
        refine lv_topi (fun v_43 ev_43 => ?_)
        have hv_43 : v_43.toInt = ((i3_L_32).toInt + (1:Int)) := by rw [ev_43]; exact zz_addI rfl (by decide) (by omega) (by omega)
        refine lv_aload_n hx hb dX0_part_31 rfl (lv_at hl 2 rfl) ?_
        refine va_get (D := (dC, dI)) (ci := 0) (v := .int v_x_onRoad) (C := RX0) (T := TX0) (N := 5) hx hb hts hiX0 hown hK hP 0 rfl rfl 0 (by decide) hw0 (fun _ h9 => h9) rfl dX0_part_32 ?_
        refine lv_icmp_ge (tgt := 62) hx hb dX0_part_35 (by decide) (fun c_44 => ?_) (fun c_44 => ?_)
        ·
          have c_44 : v_x_onRoad_i ≤ ((i3_L_32).toInt + (1:Int)) := zz_le v_x_onRoad_h hv_43 c_44
          refine lv_iconst (v := 1) hx hb dX0_part_62 (by decide) ?_
          refine lv_goto (tgt := 67) hx hb dX0_part_63 (by decide) ?_
          refine lv_istore (lv' := [(4, .int 1), (3, .int i3_L_32), (2, .int i2_L_32), (0, .ref h0), (1, .ref pMe)]) hx hb dX0_part_67 hl (by decide) rfl (fun ls hl => ?_)
          refine lv_iload hx hb dX0_part_69 (lv_at hl 0 rfl) ?_
          refine lv_if_eq (tgt := 84) hx hb dX0_part_71 (by decide) (fun c_45 => ?_) (fun c_45 => ?_)
          ·
            exact absurd c_45 (by decide)
          ·
            refine lv_aload_n hx hb dX0_part_74 rfl (lv_at hl 3 rfl) ?_
            refine lv_iload_n hx hb dX0_part_75 rfl (lv_at hl 2 rfl) ?_
            refine lv_iload_n hx hb dX0_part_76 rfl (lv_at hl 1 rfl) ?_
            have hPc := hP.sub (ws' := [(h0, .inr (0, [.int v_x_onRoad, .int w_h0_number_L_32, .ref x_order, .ref x_places, .ref x_sizes])), (x_order, .inl (cI, 20, .inl f_x_order)), (x_sizes, .inl (cI, 20, .inl g_x_sizes_L_32))]) [0, 1, 3] rfl
            have hDc := hD.sub (ws' := [(h0, .inr (0, [.int v_x_onRoad, .int w_h0_number_L_32, .ref x_order, .ref x_places, .ref x_sizes])), (x_order, .inl (cI, 20, .inl f_x_order)), (x_sizes, .inl (cI, 20, .inl g_x_sizes_L_32))]) [0, 1, 3] (by decide) rfl
            have hFc := va_free (wc := [(h0, .inr (0, [.int v_x_onRoad, .int w_h0_number_L_32, .ref x_order, .ref x_places, .ref x_sizes])), (x_order, .inl (cI, 20, .inl f_x_order)), (x_sizes, .inl (cI, 20, .inl g_x_sizes_L_32))]) hD hS hA [0, 1, 3] rfl
            refine va_callv (va_runV (As := [.int i2_L_32, .int i3_L_32]) (rest := []) ⟨hx, hb, hml, hown, hts⟩ (c_X0_close l dC dI cI cZ (H).size h0 i2_L_32 ((i2_L_32).toInt) rfl (by omega) i3_L_32 ((i3_L_32).toInt) rfl (by omega) v_x_onRoad v_x_onRoad_i v_x_onRoad_h (by omega) w_h0_number_L_32 ((w_h0_number_L_32).toInt) rfl x_order x_places x_sizes f_x_order R_x_order g_x_sizes_L_32) ⟨callB_of 2 hts (zz_good zw_535) rfl rfl rfl hw3 hw4 (by decide +kernel) ⟨Nat.le_of_ble_eq_true rfl, Nat.le_of_ble_eq_true rfl⟩, hw5, hw6⟩ ⟨fun a U g mk q => by obtain ⟨q0, q1, qP, qK, qD⟩ := q; exact ⟨q0, q1, qP, va_K.moved (u := U) (U := U.calling g mk a) (Vm.Alike.refl U.vm) qK, qD⟩, va_recv hK hPc (ci := 0) (q0 := 0) rfl rfl, fun U hU hW => ⟨rfl, by rw [hU], by rw [hU]; exact hPc, va_K.moved hW.alike hK, hDc.weaken (fun _ _ _ _ => trivial)⟩⟩ rfl rfl hl.1 rfl (lv_room (Nat.le_of_ble_eq_true rfl)) dX0_part_77 ⟨Nat.le_of_ble_eq_true rfl, Nat.le_of_ble_eq_true rfl⟩) hS (fun q _ h => hFc q h) hFc (fun u t H1 locs ht hvm hpost hB hz1 hk1 hS => ?_)
            obtain ⟨w_h0_number_46, g_x_sizes_47, hP1, hK1, hD1⟩ := hB
            rw [ht] at hP1
            obtain ⟨hP, hD⟩ := va_join (wr := [(x_places, .inl (cI, 20, .inl f_42)), (pMe, .inl (cI, 20, .inl f_pMe))]) (w1 := [(h0, .inr (0, [.int v_x_onRoad, .int w_h0_number_46, .ref x_order, .ref x_places, .ref x_sizes])), (x_order, .inl (cI, 20, .inl f_x_order)), (x_sizes, .inl (cI, 20, .inl g_x_sizes_47))]) hP hD [0, 1, 3] [2, 4] rfl rfl (by decide) (by decide) hk1 hFc hP1 hD1
            generalize H1 = H at hP hS ⊢
            have hP : va_P (dC, dI) vwCl [(x_places, .inl (cI, 20, .inl f_42)), (pMe, .inl (cI, 20, .inl f_pMe)), (h0, .inr (0, [.int v_x_onRoad, .int w_h0_number_46, .ref x_order, .ref x_places, .ref x_sizes])), (x_order, .inl (cI, 20, .inl f_x_order)), (x_sizes, .inl (cI, 20, .inl g_x_sizes_47))] H := hP
            have hD : va_D A [(x_places, .inl (cI, 20, .inl f_42)), (pMe, .inl (cI, 20, .inl f_pMe)), (h0, .inr (0, [.int v_x_onRoad, .int w_h0_number_46, .ref x_order, .ref x_places, .ref x_sizes])), (x_order, .inl (cI, 20, .inl f_x_order)), (x_sizes, .inl (cI, 20, .inl g_x_sizes_47))] := hD
            refine lv_iload_n hx hb dX0_part_80 rfl (lv_at hl 1 rfl) ?_
            refine lv_iconst (v := 1) hx hb dX0_part_81 (by decide) ?_
            refine lv_iadd hx hb dX0_part_82 ?_
            refine lv_topi (fun v_48 ev_48 => ?_)
            have hv_48 : v_48.toInt = ((i3_L_32).toInt + (1:Int)) := by rw [ev_48]; exact zz_addI rfl (by decide) (by omega) (by omega)
            refine lv_istore_n (lv' := [(2, .int v_48), (4, .int 1), (3, .int i3_L_32), (0, .ref h0), (1, .ref pMe)]) hx hb dX0_part_83 rfl hl (by decide) rfl (fun ls hl => ?_)
            obtain ⟨v_49, ev_49⟩ : ∃ y : Int32, y = i3_L_32 + 1 := ⟨_, rfl⟩
            have hv_49 : v_49.toInt = ((i3_L_32).toInt + (1:Int)) := by rw [ev_49]; exact zz_addI rfl (by decide) (by omega) (by omega)
            refine lv_iinc (v := v_49) (lv' := [(3, .int v_49), (2, .int v_48), (4, .int 1), (0, .ref h0), (1, .ref pMe)]) hx hb dX0_part_84 hl (k := 2) rfl (by rw [ev_49]; rfl) (by decide) rfl (fun ls hl => ?_)
            refine lv_goto (tgt := 4) hx hb dX0_part_87 (by decide) ?_
            have hb_50_i3_L_32 : (v_49 : Int32).toInt = ((i3_L_32).toInt + (1:Int)) := hv_49
            have hb_50_i2_L_32 : (v_48 : Int32).toInt = ((i3_L_32).toInt + (1:Int)) := hv_48
            have hb_50_w_h0_number_L_32 : (w_h0_number_46 : Int32).toInt = (w_h0_number_46).toInt := rfl
            exact ih_33 v_49 v_48 f_42 g_x_sizes_47 w_h0_number_46 H locs ls (by omega) (by omega) (by omega) (by omega) (by omega) (hP.sub [2, 3, 0, 4, 1] rfl) (hD.sub [2, 3, 0, 4, 1] (by decide) rfl) hS (lv_sub hl [0, 1, 3, 4] rfl)
        ·
          have c_44 : ¬ (v_x_onRoad_i ≤ ((i3_L_32).toInt + (1:Int))) := zz_len v_x_onRoad_h hv_43 c_44
          refine lv_aload_n hx hb dX0_part_38 rfl (lv_at hl 3 rfl) ?_
          refine lv_aload_n hx hb dX0_part_39 rfl (lv_at hl 2 rfl) ?_
          refine va_get (D := (dC, dI)) (ci := 0) (v := .ref x_order) (C := RX0) (T := TX0) (N := 5) hx hb hts hiX0 hown hK hP 0 rfl rfl 2 (by decide) hw2 (fun _ h9 => h9) rfl dX0_part_40 ?_
          refine lv_iload_n hx hb dX0_part_43 rfl (lv_at hl 0 rfl) ?_
          refine va_iald hx hb hK hP 1 0 rfl rfl (zz_in (a := (i3_L_32).toInt) rfl (by omega) (by omega)) dX0_part_44 ?_
          refine lv_topi (fun v_51 ev_51 => ?_)
          obtain rfl : v_39 = v_51 := ev_39.trans ev_51.symm
          refine va_iald hx hb hK hP 4 0 rfl rfl (zz_in (a := (v_39).toInt) rfl (by omega) (by omega)) dX0_part_45 ?_
          refine lv_topi (fun v_52 ev_52 => ?_)
          have bv_52 : 0 ≤ v_52.toInt ∧ v_52.toInt ≤ 30000 := by rw [ev_52]; exact zr_get (a := (v_39).toInt) R_pMe rfl (by omega) (by omega)
          refine lv_aload_n hx hb dX0_part_46 rfl (lv_at hl 3 rfl) ?_
          refine lv_aload_n hx hb dX0_part_47 rfl (lv_at hl 2 rfl) ?_
          refine va_get (D := (dC, dI)) (ci := 0) (v := .ref x_order) (C := RX0) (T := TX0) (N := 5) hx hb hts hiX0 hown hK hP 0 rfl rfl 2 (by decide) hw2 (fun _ h9 => h9) rfl dX0_part_48 ?_
          refine lv_iload_n hx hb dX0_part_51 rfl (lv_at hl 0 rfl) ?_
          refine lv_iconst (v := 1) hx hb dX0_part_52 (by decide) ?_
          refine lv_iadd hx hb dX0_part_53 ?_
          refine lv_topi (fun v_53 ev_53 => ?_)
          have hv_53 : v_53.toInt = ((i3_L_32).toInt + (1:Int)) := by rw [ev_53]; exact zz_addI rfl (by decide) (by omega) (by omega)
          refine va_iald hx hb hK hP 1 0 rfl rfl (zz_in (a := ((i3_L_32).toInt + (1:Int))) hv_53 (by omega) (by omega)) dX0_part_54 ?_
          refine lv_topi (fun v_54 ev_54 => ?_)
          have bv_54 : 0 ≤ v_54.toInt ∧ v_54.toInt ≤ 19 := by rw [ev_54]; exact zr_get (a := ((i3_L_32).toInt + (1:Int))) R_x_order hv_53 (by omega) (by omega)
          refine va_iald hx hb hK hP 4 0 rfl rfl (zz_in (a := (v_54).toInt) rfl (by omega) (by omega)) dX0_part_55 ?_
          refine lv_topi (fun v_55 ev_55 => ?_)
          have bv_55 : 0 ≤ v_55.toInt ∧ v_55.toInt ≤ 30000 := by rw [ev_55]; exact zr_get (a := (v_54).toInt) R_pMe rfl (by omega) (by omega)
          refine lv_isub hx hb dX0_part_56 ?_
          refine lv_topi (fun v_56 ev_56 => ?_)
          have hv_56 : v_56.toInt = ((v_52).toInt - (v_55).toInt) := by rw [ev_56]; exact zz_subI rfl rfl (by omega) (by omega)
          refine lv_bipush (v := 20) hx hb dX0_part_57 (by decide) ?_
          refine lv_icmp_le (tgt := 66) hx hb dX0_part_59 (by decide) (fun c_57 => ?_) (fun c_57 => ?_)
          ·
            have c_57 : ((v_52).toInt - (v_55).toInt) ≤ (20:Int) := zz_le hv_56 (by decide) c_57
            refine lv_iconst (v := 0) hx hb dX0_part_66 (by decide) ?_
            refine lv_istore (lv' := [(4, .int 0), (3, .int i3_L_32), (2, .int i2_L_32), (0, .ref h0), (1, .ref pMe)]) hx hb dX0_part_67 hl (by decide) rfl (fun ls hl => ?_)
            refine lv_iload hx hb dX0_part_69 (lv_at hl 0 rfl) ?_
            refine lv_if_eq (tgt := 84) hx hb dX0_part_71 (by decide) (fun c_58 => ?_) (fun c_58 => ?_)
            ·
              obtain ⟨v_59, ev_59⟩ : ∃ y : Int32, y = i3_L_32 + 1 := ⟨_, rfl⟩
              have hv_59 : v_59.toInt = ((i3_L_32).toInt + (1:Int)) := by rw [ev_59]; exact zz_addI rfl (by decide) (by omega) (by omega)
              refine lv_iinc (v := v_59) (lv' := [(3, .int v_59), (4, .int 0), (2, .int i2_L_32), (0, .ref h0), (1, .ref pMe)]) hx hb dX0_part_84 hl (k := 1) rfl (by rw [ev_59]; rfl) (by decide) rfl (fun ls hl => ?_)
              refine lv_goto (tgt := 4) hx hb dX0_part_87 (by decide) ?_
              have hb_60_i3_L_32 : (v_59 : Int32).toInt = ((i3_L_32).toInt + (1:Int)) := hv_59
              have hb_60_i2_L_32 : (i2_L_32 : Int32).toInt = (i2_L_32).toInt := rfl
              have hb_60_w_h0_number_L_32 : (w_h0_number_L_32 : Int32).toInt = (w_h0_number_L_32).toInt := rfl
              exact ih_33 v_59 i2_L_32 f_42 g_x_sizes_L_32 w_h0_number_L_32 H locs ls (by omega) (by omega) (by omega) (by omega) (by omega) (hP.sub [0, 1, 2, 3, 4] rfl) (hD.sub [0, 1, 2, 3, 4] (by decide) rfl) hS (lv_sub hl [0, 2, 3, 4] rfl)
            ·
              exact absurd c_58 (by decide)
          ·
            have c_57 : ¬ (((v_52).toInt - (v_55).toInt) ≤ (20:Int)) := zz_len hv_56 (by decide) c_57
            refine lv_iconst (v := 1) hx hb dX0_part_62 (by decide) ?_
            refine lv_goto (tgt := 67) hx hb dX0_part_63 (by decide) ?_
            refine lv_istore (lv' := [(4, .int 1), (3, .int i3_L_32), (2, .int i2_L_32), (0, .ref h0), (1, .ref pMe)]) hx hb dX0_part_67 hl (by decide) rfl (fun ls hl => ?_)
            refine lv_iload hx hb dX0_part_69 (lv_at hl 0 rfl) ?_
            refine lv_if_eq (tgt := 84) hx hb dX0_part_71 (by decide) (fun c_61 => ?_) (fun c_61 => ?_)
            ·
              exact absurd c_61 (by decide)
            ·
              refine lv_aload_n hx hb dX0_part_74 rfl (lv_at hl 3 rfl) ?_
              refine lv_iload_n hx hb dX0_part_75 rfl (lv_at hl 2 rfl) ?_
              refine lv_iload_n hx hb dX0_part_76 rfl (lv_at hl 1 rfl) ?_
              have hPc := hP.sub (ws' := [(h0, .inr (0, [.int v_x_onRoad, .int w_h0_number_L_32, .ref x_order, .ref x_places, .ref x_sizes])), (x_order, .inl (cI, 20, .inl f_x_order)), (x_sizes, .inl (cI, 20, .inl g_x_sizes_L_32))]) [0, 1, 3] rfl
              have hDc := hD.sub (ws' := [(h0, .inr (0, [.int v_x_onRoad, .int w_h0_number_L_32, .ref x_order, .ref x_places, .ref x_sizes])), (x_order, .inl (cI, 20, .inl f_x_order)), (x_sizes, .inl (cI, 20, .inl g_x_sizes_L_32))]) [0, 1, 3] (by decide) rfl
              have hFc := va_free (wc := [(h0, .inr (0, [.int v_x_onRoad, .int w_h0_number_L_32, .ref x_order, .ref x_places, .ref x_sizes])), (x_order, .inl (cI, 20, .inl f_x_order)), (x_sizes, .inl (cI, 20, .inl g_x_sizes_L_32))]) hD hS hA [0, 1, 3] rfl
              refine va_callv (va_runV (As := [.int i2_L_32, .int i3_L_32]) (rest := []) ⟨hx, hb, hml, hown, hts⟩ (c_X0_close l dC dI cI cZ (H).size h0 i2_L_32 ((i2_L_32).toInt) rfl (by omega) i3_L_32 ((i3_L_32).toInt) rfl (by omega) v_x_onRoad v_x_onRoad_i v_x_onRoad_h (by omega) w_h0_number_L_32 ((w_h0_number_L_32).toInt) rfl x_order x_places x_sizes f_x_order R_x_order g_x_sizes_L_32) ⟨callB_of 2 hts (zz_good zw_535) rfl rfl rfl hw3 hw4 (by decide +kernel) ⟨Nat.le_of_ble_eq_true rfl, Nat.le_of_ble_eq_true rfl⟩, hw5, hw6⟩ ⟨fun a U g mk q => by obtain ⟨q0, q1, qP, qK, qD⟩ := q; exact ⟨q0, q1, qP, va_K.moved (u := U) (U := U.calling g mk a) (Vm.Alike.refl U.vm) qK, qD⟩, va_recv hK hPc (ci := 0) (q0 := 0) rfl rfl, fun U hU hW => ⟨rfl, by rw [hU], by rw [hU]; exact hPc, va_K.moved hW.alike hK, hDc.weaken (fun _ _ _ _ => trivial)⟩⟩ rfl rfl hl.1 rfl (lv_room (Nat.le_of_ble_eq_true rfl)) dX0_part_77 ⟨Nat.le_of_ble_eq_true rfl, Nat.le_of_ble_eq_true rfl⟩) hS (fun q _ h => hFc q h) hFc (fun u t H1 locs ht hvm hpost hB hz1 hk1 hS => ?_)
              obtain ⟨w_h0_number_62, g_x_sizes_63, hP1, hK1, hD1⟩ := hB
              rw [ht] at hP1
              obtain ⟨hP, hD⟩ := va_join (wr := [(x_places, .inl (cI, 20, .inl f_42)), (pMe, .inl (cI, 20, .inl f_pMe))]) (w1 := [(h0, .inr (0, [.int v_x_onRoad, .int w_h0_number_62, .ref x_order, .ref x_places, .ref x_sizes])), (x_order, .inl (cI, 20, .inl f_x_order)), (x_sizes, .inl (cI, 20, .inl g_x_sizes_63))]) hP hD [0, 1, 3] [2, 4] rfl rfl (by decide) (by decide) hk1 hFc hP1 hD1
              generalize H1 = H at hP hS ⊢
              have hP : va_P (dC, dI) vwCl [(x_places, .inl (cI, 20, .inl f_42)), (pMe, .inl (cI, 20, .inl f_pMe)), (h0, .inr (0, [.int v_x_onRoad, .int w_h0_number_62, .ref x_order, .ref x_places, .ref x_sizes])), (x_order, .inl (cI, 20, .inl f_x_order)), (x_sizes, .inl (cI, 20, .inl g_x_sizes_63))] H := hP
              have hD : va_D A [(x_places, .inl (cI, 20, .inl f_42)), (pMe, .inl (cI, 20, .inl f_pMe)), (h0, .inr (0, [.int v_x_onRoad, .int w_h0_number_62, .ref x_order, .ref x_places, .ref x_sizes])), (x_order, .inl (cI, 20, .inl f_x_order)), (x_sizes, .inl (cI, 20, .inl g_x_sizes_63))] := hD
              refine lv_iload_n hx hb dX0_part_80 rfl (lv_at hl 1 rfl) ?_
              refine lv_iconst (v := 1) hx hb dX0_part_81 (by decide) ?_
              refine lv_iadd hx hb dX0_part_82 ?_
              refine lv_topi (fun v_64 ev_64 => ?_)
              have hv_64 : v_64.toInt = ((i3_L_32).toInt + (1:Int)) := by rw [ev_64]; exact zz_addI rfl (by decide) (by omega) (by omega)
              refine lv_istore_n (lv' := [(2, .int v_64), (4, .int 1), (3, .int i3_L_32), (0, .ref h0), (1, .ref pMe)]) hx hb dX0_part_83 rfl hl (by decide) rfl (fun ls hl => ?_)
              obtain ⟨v_65, ev_65⟩ : ∃ y : Int32, y = i3_L_32 + 1 := ⟨_, rfl⟩
              have hv_65 : v_65.toInt = ((i3_L_32).toInt + (1:Int)) := by rw [ev_65]; exact zz_addI rfl (by decide) (by omega) (by omega)
              refine lv_iinc (v := v_65) (lv' := [(3, .int v_65), (2, .int v_64), (4, .int 1), (0, .ref h0), (1, .ref pMe)]) hx hb dX0_part_84 hl (k := 2) rfl (by rw [ev_65]; rfl) (by decide) rfl (fun ls hl => ?_)
              refine lv_goto (tgt := 4) hx hb dX0_part_87 (by decide) ?_
              have hb_66_i3_L_32 : (v_65 : Int32).toInt = ((i3_L_32).toInt + (1:Int)) := hv_65
              have hb_66_i2_L_32 : (v_64 : Int32).toInt = ((i3_L_32).toInt + (1:Int)) := hv_64
              have hb_66_w_h0_number_L_32 : (w_h0_number_62 : Int32).toInt = (w_h0_number_62).toInt := rfl
              exact ih_33 v_65 v_64 f_42 g_x_sizes_63 w_h0_number_62 H locs ls (by omega) (by omega) (by omega) (by omega) (by omega) (hP.sub [2, 3, 0, 4, 1] rfl) (hD.sub [2, 3, 0, 4, 1] (by decide) rfl) hS (lv_sub hl [0, 1, 3, 4] rfl)
  have hb_67_i3_L_32 : (0 : Int32).toInt = (0:Int) := (by decide)
  have hb_67_i2_L_32 : (0 : Int32).toInt = (0:Int) := (by decide)
  have hb_67_w_h0_number_L_32 : (v_x_number : Int32).toInt = v_x_number_i := v_x_number_h
  exact L_32 1000 0 0 f_x_places f_x_sizes v_x_number s.heap [] ls (by omega) (by omega) (by omega) (by omega) (by omega) (hP.sub [0, 1, 2, 3, 4] rfl) (hD.sub [0, 1, 2, 3, 4] (by decide) rfl) hS (lv_sub hl [0, 1, 2, 3] rfl)
