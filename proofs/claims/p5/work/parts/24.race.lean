set_option maxHeartbeats 8000000 in
set_option maxRecDepth 100000 in
theorem c_X3_slopePower (l : Launch) (dC : Nat → ClassId) (dI : Nat → Nat → Nat) (cI cZ : ClassId) (sz : Nat) (pR : Int32) (pR_i : Int) (pR_h : pR.toInt = pR_i) (pC : Int32) (pC_i : Int) (pC_h : pC.toInt = pC_i) : Met l yX3_slopePower (Cond.code yX3_slopePower cX3_slopePower 3 (some .int) :: lw_good) ({ frames := 0, cells := 0, slots := 0, locals := 0 }) (va_Pc [.int pR, .int pC] (fun U => U.heap.size = sz ∧ va_P (dC, dI) vwCl [] U.heap ∧ va_K (dC, dI) vwCl [(cI, .int), (cZ, .boolean)] U ∧ va_D (fun _ => True) [])) (va_Qi (fun (r u : Int32) => r = u) (fun u t => va_P (dC, dI) vwCl [] t.heap ∧ va_K (dC, dI) vwCl [(cI, .int), (cZ, .boolean)] t ∧ va_D (va_A [] sz) []) (va_A [] sz)) 0 0 (va_A [] sz) := by
  refine Met.ofW (cc := cX3_slopePower) (maxL := 3) (ret := (some .int)) (by decide) rfl ?_
  intro p e s m args below meth c s₁ B hml hv
  obtain ⟨rfl, hsz, hP, hK, hD0⟩ := hv
  have hx := B.exec
  have hb := B.bytes
  have hr := B.returns
  have hts := atoms_spec (ws := Cond.code yX3_slopePower cX3_slopePower 3 (some .int) :: lw_good) B.pre
  have hown : s.vm.findClass RX3 = some m.cls := findClass_of_methodNamed B.named
  have hlocks := B.notSynchronized
  subst hsz
  have hD := hD0.self (sz := s.heap.size)
  generalize hAe : va_A [] s.heap.size = A at hD ⊢
  have hA : ∀ q : Nat, s.heap.size ≤ q → A q := fun q h => by rw [← hAe]; exact Or.inr h
  have hS : va_S A s.heap s.heap [] := va_S.rf
  have hP : va_P (dC, dI) vwCl [] s.heap := hP
  have hl := lv_entry ([.int pR, .int pC]) (n := 3) (Nat.le_of_ble_eq_true rfl)
  rw [lg_entry_eq]
  generalize (lg_sl ([.int pR, .int pC]) ++ List.replicate (3 - (lg_sl ([.int pR, .int pC])).length) Slot.unset).toArray = ls at hl ⊢
  have hl : lv_has ls 3 [(0, .int pR), (1, .int pC)] := hl
  refine lv_iconst (v := 3) hx hb dX3_slopePower_0 (by decide) ?_
  refine lv_iload_n hx hb dX3_slopePower_1 rfl (lv_at hl 0 rfl) ?_
  refine lv_imul hx hb dX3_slopePower_2 ?_
  refine lv_topi (fun v_1 _ => ?_)
  refine lv_istore_n (lv' := [(2, .int v_1), (0, .int pR), (1, .int pC)]) hx hb dX3_slopePower_3 rfl hl (by decide) rfl (fun ls hl => ?_)
  refine lv_iload_n hx hb dX3_slopePower_4 rfl (lv_at hl 1 rfl) ?_
  refine lv_if_le (tgt := 19) hx hb dX3_slopePower_5 (by decide) (fun c_2 => ?_) (fun c_2 => ?_)
  ·
    have c_2 : pR_i ≤ (0:Int) := zz_le pR_h (by decide) c_2
    refine lv_iload_n hx hb dX3_slopePower_19 rfl (lv_at hl 0 rfl) ?_
    have hu9 : (v_1 : Int32).toInt = (v_1).toInt := rfl
    have hP9 := hP.sub (ws' := []) [] rfl
    have hD9 := hD.sub (ws' := []) [] (by decide) rfl
    exact W.iret (v := v_1) hx hb hr (fun t ht hW => ⟨⟨v_1, v_1, rfl, rfl, by rw [ht]; exact hP9, va_K.moved hW.alike hK, hD9⟩, hS.F ht⟩) hS.2.2 dX3_slopePower_20
  ·
    have c_2 : ¬ (pR_i ≤ (0:Int)) := zz_len pR_h (by decide) c_2
    refine lv_iload_n hx hb dX3_slopePower_8 rfl (lv_at hl 0 rfl) ?_
    refine lv_iload_n hx hb dX3_slopePower_9 rfl (lv_at hl 0 rfl) ?_
    refine lv_iload_n hx hb dX3_slopePower_10 rfl (lv_at hl 2 rfl) ?_
    refine lv_imul hx hb dX3_slopePower_11 ?_
    refine lv_topi (fun v_3 _ => ?_)
    refine lv_bipush (v := 100) hx hb dX3_slopePower_12 (by decide) ?_
    refine lv_idiv hx hb dX3_slopePower_14 (by decide) ?_
    refine lv_topi (fun v_4 _ => ?_)
    refine lv_isub hx hb dX3_slopePower_15 ?_
    refine lv_topi (fun v_5 _ => ?_)
    refine lv_goto (tgt := 20) hx hb dX3_slopePower_16 (by decide) ?_
    have hu9 : (v_5 : Int32).toInt = (v_5).toInt := rfl
    have hP9 := hP.sub (ws' := []) [] rfl
    have hD9 := hD.sub (ws' := []) [] (by decide) rfl
    exact W.iret (v := v_5) hx hb hr (fun t ht hW => ⟨⟨v_5, v_5, rfl, rfl, by rw [ht]; exact hP9, va_K.moved hW.alike hK, hD9⟩, hS.F ht⟩) hS.2.2 dX3_slopePower_20

set_option maxHeartbeats 8000000 in
set_option maxRecDepth 100000 in
theorem c_X3_shareOf (l : Launch) (dC : Nat → ClassId) (dI : Nat → Nat → Nat) (cI cZ : ClassId) (sz : Nat) (pP : Int32) (pP_i : Int) (pP_h : pP.toInt = pP_i) (pW : Int32) (pW_i : Int) (pW_h : pW.toInt = pW_i) : Met l yX3_shareOf (Cond.code yX3_shareOf cX3_shareOf 2 (some .int) :: lw_good) ({ frames := 0, cells := 0, slots := 0, locals := 0 }) (va_Pc [.int pP, .int pW] (fun U => U.heap.size = sz ∧ va_P (dC, dI) vwCl [] U.heap ∧ va_K (dC, dI) vwCl [(cI, .int), (cZ, .boolean)] U ∧ va_D (fun _ => True) [])) (va_Qi (fun (r u : Int32) => r = u) (fun u t => va_P (dC, dI) vwCl [] t.heap ∧ va_K (dC, dI) vwCl [(cI, .int), (cZ, .boolean)] t ∧ va_D (va_A [] sz) []) (va_A [] sz)) 0 0 (va_A [] sz) := by
  refine Met.ofW (cc := cX3_shareOf) (maxL := 2) (ret := (some .int)) (by decide) rfl ?_
  intro p e s m args below meth c s₁ B hml hv
  obtain ⟨rfl, hsz, hP, hK, hD0⟩ := hv
  have hx := B.exec
  have hb := B.bytes
  have hr := B.returns
  have hts := atoms_spec (ws := Cond.code yX3_shareOf cX3_shareOf 2 (some .int) :: lw_good) B.pre
  have hown : s.vm.findClass RX3 = some m.cls := findClass_of_methodNamed B.named
  have hlocks := B.notSynchronized
  subst hsz
  have hD := hD0.self (sz := s.heap.size)
  generalize hAe : va_A [] s.heap.size = A at hD ⊢
  have hA : ∀ q : Nat, s.heap.size ≤ q → A q := fun q h => by rw [← hAe]; exact Or.inr h
  have hS : va_S A s.heap s.heap [] := va_S.rf
  have hP : va_P (dC, dI) vwCl [] s.heap := hP
  have hl := lv_entry ([.int pP, .int pW]) (n := 2) (Nat.le_of_ble_eq_true rfl)
  rw [lg_entry_eq]
  generalize (lg_sl ([.int pP, .int pW]) ++ List.replicate (2 - (lg_sl ([.int pP, .int pW])).length) Slot.unset).toArray = ls at hl ⊢
  have hl : lv_has ls 2 [(0, .int pP), (1, .int pW)] := hl
  refine lv_iload_n hx hb dX3_shareOf_0 rfl (lv_at hl 0 rfl) ?_
  refine lv_iconst (v := 2) hx hb dX3_shareOf_1 (by decide) ?_
  refine lv_icmp_ge (tgt := 12) hx hb dX3_shareOf_2 (by decide) (fun c_1 => ?_) (fun c_1 => ?_)
  ·
    have c_1 : (2:Int) ≤ pP_i := zz_le (by decide) pP_h c_1
    refine lv_bipush (v := 60) hx hb dX3_shareOf_12 (by decide) ?_
    refine lv_iconst (v := 2) hx hb dX3_shareOf_14 (by decide) ?_
    refine lv_iload_n hx hb dX3_shareOf_15 rfl (lv_at hl 1 rfl) ?_
    refine lv_imul hx hb dX3_shareOf_16 ?_
    refine lv_topi (fun v_2 _ => ?_)
    refine lv_iadd hx hb dX3_shareOf_17 ?_
    refine lv_topi (fun v_3 _ => ?_)
    refine lv_bipush (v := 20) hx hb dX3_shareOf_18 (by decide) ?_
    refine lv_iload_n hx hb dX3_shareOf_20 rfl (lv_at hl 0 rfl) ?_
    refine lv_iconst (v := 1) hx hb dX3_shareOf_21 (by decide) ?_
    refine lv_isub hx hb dX3_shareOf_22 ?_
    have hr_4 := zz_rngF (a := pP_i) pP_h
    refine lv_topi (fun v_5 ev_5 => ?_)
    have hv_5 : v_5.toInt = (pP_i - (1:Int)) := by rw [ev_5]; exact zz_subI pP_h (by decide) (by omega) (by omega)
    refine lv_idiv hx hb dX3_shareOf_23 (zz_ne0 hv_5 (by omega)) ?_
    refine lv_topi (fun v_6 ev_6 => ?_)
    have bv_6 := zz_divC (x := 20) (y := v_5) (a := (20:Int)) (d := (pP_i - (1:Int))) (by decide) hv_5 (by omega)
    rw [← ev_6] at bv_6
    refine lv_iadd hx hb dX3_shareOf_24 ?_
    refine lv_topi (fun v_7 _ => ?_)
    have hu9 : (v_7 : Int32).toInt = (v_7).toInt := rfl
    have hP9 := hP.sub (ws' := []) [] rfl
    have hD9 := hD.sub (ws' := []) [] (by decide) rfl
    exact W.iret (v := v_7) hx hb hr (fun t ht hW => ⟨⟨v_7, v_7, rfl, rfl, by rw [ht]; exact hP9, va_K.moved hW.alike hK, hD9⟩, hS.F ht⟩) hS.2.2 dX3_shareOf_25
  ·
    have c_1 : ¬ ((2:Int) ≤ pP_i) := zz_len (by decide) pP_h c_1
    refine lv_bipush (v := 100) hx hb dX3_shareOf_5 (by decide) ?_
    refine lv_iconst (v := 4) hx hb dX3_shareOf_7 (by decide) ?_
    refine lv_iload_n hx hb dX3_shareOf_8 rfl (lv_at hl 1 rfl) ?_
    refine lv_imul hx hb dX3_shareOf_9 ?_
    refine lv_topi (fun v_8 _ => ?_)
    refine lv_iadd hx hb dX3_shareOf_10 ?_
    refine lv_topi (fun v_9 _ => ?_)
    have hu9 : (v_9 : Int32).toInt = (v_9).toInt := rfl
    have hP9 := hP.sub (ws' := []) [] rfl
    have hD9 := hD.sub (ws' := []) [] (by decide) rfl
    exact W.iret (v := v_9) hx hb hr (fun t ht hW => ⟨⟨v_9, v_9, rfl, rfl, by rw [ht]; exact hP9, va_K.moved hW.alike hK, hD9⟩, hS.F ht⟩) hS.2.2 dX3_shareOf_11

set_option maxHeartbeats 8000000 in
set_option maxRecDepth 100000 in
theorem c_X3_powerOf (l : Launch) (dC : Nat → ClassId) (dI : Nat → Nat → Nat) (cI cZ : ClassId) (sz : Nat) (pP : Int32) (pP_i : Int) (pP_h : pP.toInt = pP_i) (pS : Int32) (pS_i : Int) (pS_h : pS.toInt = pS_i) (pH : Int32) (pH_i : Int) (pH_h : pH.toInt = pH_i) : Met l yX3_powerOf (Cond.code yX3_powerOf cX3_powerOf 3 (some .int) :: lw_good) ({ frames := 1, cells := 0, slots := 0, locals := 13 }) (va_Pc [.int pP, .int pS, .int pH] (fun U => U.heap.size = sz ∧ va_P (dC, dI) vwCl [] U.heap ∧ va_K (dC, dI) vwCl [(cI, .int), (cZ, .boolean)] U ∧ va_D (fun _ => True) [])) (va_Qi (fun (r u : Int32) => r = u) (fun u t => va_P (dC, dI) vwCl [] t.heap ∧ va_K (dC, dI) vwCl [(cI, .int), (cZ, .boolean)] t ∧ va_D (va_A [] sz) []) (va_A [] sz)) 0 0 (va_A [] sz) := by
  refine Met.ofW (cc := cX3_powerOf) (maxL := 3) (ret := (some .int)) (by decide) rfl ?_
  intro p e s m args below meth c s₁ B hml hv
  obtain ⟨rfl, hsz, hP, hK, hD0⟩ := hv
  have hx := B.exec
  have hb := B.bytes
  have hr := B.returns
  have hts := atoms_spec (ws := Cond.code yX3_powerOf cX3_powerOf 3 (some .int) :: lw_good) B.pre
  have hown : s.vm.findClass RX3 = some m.cls := findClass_of_methodNamed B.named
  have hlocks := B.notSynchronized
  have hw0 := hts (.methodLink RX3 97 Lib.Math.max.name) (List.mem_cons_of_mem _ zw_521)
  have hw1 := hts (.static Lib.Math.max.name) (List.mem_cons_of_mem _ zw_522)
  have hw2 := hts (.initialized "java/lang/Math") (List.mem_cons_of_mem _ zw_59)
  have hw3 := hts (.code Lib.Math.max.name Lib.Math.max.code 2 (some .int)) (List.mem_cons_of_mem _ zw_523)
  subst hsz
  have hD := hD0.self (sz := s.heap.size)
  generalize hAe : va_A [] s.heap.size = A at hD ⊢
  have hA : ∀ q : Nat, s.heap.size ≤ q → A q := fun q h => by rw [← hAe]; exact Or.inr h
  have hS : va_S A s.heap s.heap [] := va_S.rf
  have hP : va_P (dC, dI) vwCl [] s.heap := hP
  have hl := lv_entry ([.int pP, .int pS, .int pH]) (n := 3) (Nat.le_of_ble_eq_true rfl)
  rw [lg_entry_eq]
  generalize (lg_sl ([.int pP, .int pS, .int pH]) ++ List.replicate (3 - (lg_sl ([.int pP, .int pS, .int pH])).length) Slot.unset).toArray = ls at hl ⊢
  have hl : lv_has ls 3 [(0, .int pP), (1, .int pS), (2, .int pH)] := hl
  refine lv_iconst (v := 0) hx hb dX3_powerOf_0 (by decide) ?_
  refine lv_bipush (v := 10) hx hb dX3_powerOf_1 (by decide) ?_
  refine lv_bipush (v := 8) hx hb dX3_powerOf_3 (by decide) ?_
  refine lv_iload_n hx hb dX3_powerOf_5 rfl (lv_at hl 0 rfl) ?_
  refine lv_imul hx hb dX3_powerOf_6 ?_
  refine lv_topi (fun v_1 _ => ?_)
  refine lv_iadd hx hb dX3_powerOf_7 ?_
  refine lv_topi (fun v_2 _ => ?_)
  refine lv_iload_n hx hb dX3_powerOf_8 rfl (lv_at hl 1 rfl) ?_
  refine lv_iadd hx hb dX3_powerOf_9 ?_
  refine lv_topi (fun v_3 _ => ?_)
  refine lv_iload_n hx hb dX3_powerOf_10 rfl (lv_at hl 2 rfl) ?_
  refine lv_imul hx hb dX3_powerOf_11 ?_
  refine lv_topi (fun v_4 _ => ?_)
  refine lv_bipush (v := 100) hx hb dX3_powerOf_12 (by decide) ?_
  refine lv_idiv hx hb dX3_powerOf_14 (by decide) ?_
  refine lv_topi (fun v_5 _ => ?_)
  refine va_mmax hx hb (by rw [hml]; exact hl.1.symm) hown hw0 hw1 hw2 hw3 (Nat.le_of_ble_eq_true rfl) (Nat.le_of_ble_eq_true rfl) (Nat.le_of_ble_eq_true rfl) (Nat.le_of_ble_eq_true rfl) dX3_powerOf_15 ?_
  refine lv_topi (fun v_6 ev_6 => ?_)
  have hv_6 := zz_max (a := (0:Int)) (by decide) (b := (v_5).toInt) rfl ev_6
  have hu9 : (v_6 : Int32).toInt = (v_6).toInt := rfl
  have hP9 := hP.sub (ws' := []) [] rfl
  have hD9 := hD.sub (ws' := []) [] (by decide) rfl
  exact W.iret (v := v_6) hx hb hr (fun t ht hW => ⟨⟨v_6, v_6, rfl, rfl, by rw [ht]; exact hP9, va_K.moved hW.alike hK, hD9⟩, hS.F ht⟩) hS.2.2 dX3_powerOf_18

set_option maxHeartbeats 8000000 in
set_option maxRecDepth 100000 in
theorem c_X3_metresOf (l : Launch) (dC : Nat → ClassId) (dI : Nat → Nat → Nat) (cI cZ : ClassId) (sz : Nat) (pP : Int32) (pP_i : Int) (pP_h : pP.toInt = pP_i) (B_pP : 0 ≤ pP_i ∧ pP_i ≤ 9) (pR : Int32) (pR_i : Int) (pR_h : pR.toInt = pR_i) (B_pR : -5 ≤ pR_i ∧ pR_i ≤ 10) : Met l yX3_metresOf (Cond.code yX3_metresOf cX3_metresOf 2 (some .int) :: lw_good) ({ frames := 1, cells := 0, slots := 0, locals := 13 }) (va_Pc [.int pP, .int pR] (fun U => U.heap.size = sz ∧ va_P (dC, dI) vwCl [] U.heap ∧ va_K (dC, dI) vwCl [(cI, .int), (cZ, .boolean)] U ∧ va_D (fun _ => True) [])) (va_Qi (fun (r u : Int32) => r = u) (fun u t => (100 ≤ u.toInt ∧ u.toInt ≤ 735) ∧ va_P (dC, dI) vwCl [] t.heap ∧ va_K (dC, dI) vwCl [(cI, .int), (cZ, .boolean)] t ∧ va_D (va_A [] sz) []) (va_A [] sz)) 0 0 (va_A [] sz) := by
  refine Met.ofW (cc := cX3_metresOf) (maxL := 2) (ret := (some .int)) (by decide) rfl ?_
  intro p e s m args below meth c s₁ B hml hv
  obtain ⟨rfl, hsz, hP, hK, hD0⟩ := hv
  have hx := B.exec
  have hb := B.bytes
  have hr := B.returns
  have hts := atoms_spec (ws := Cond.code yX3_metresOf cX3_metresOf 2 (some .int) :: lw_good) B.pre
  have hown : s.vm.findClass RX3 = some m.cls := findClass_of_methodNamed B.named
  have hlocks := B.notSynchronized
  have hw0 := hts (.methodLink RX3 97 Lib.Math.max.name) (List.mem_cons_of_mem _ zw_521)
  have hw1 := hts (.static Lib.Math.max.name) (List.mem_cons_of_mem _ zw_522)
  have hw2 := hts (.initialized "java/lang/Math") (List.mem_cons_of_mem _ zw_59)
  have hw3 := hts (.code Lib.Math.max.name Lib.Math.max.code 2 (some .int)) (List.mem_cons_of_mem _ zw_523)
  subst hsz
  have hD := hD0.self (sz := s.heap.size)
  generalize hAe : va_A [] s.heap.size = A at hD ⊢
  have hA : ∀ q : Nat, s.heap.size ≤ q → A q := fun q h => by rw [← hAe]; exact Or.inr h
  have hS : va_S A s.heap s.heap [] := va_S.rf
  have hP : va_P (dC, dI) vwCl [] s.heap := hP
  have hl := lv_entry ([.int pP, .int pR]) (n := 2) (Nat.le_of_ble_eq_true rfl)
  rw [lg_entry_eq]
  generalize (lg_sl ([.int pP, .int pR]) ++ List.replicate (2 - (lg_sl ([.int pP, .int pR])).length) Slot.unset).toArray = ls at hl ⊢
  have hl : lv_has ls 2 [(0, .int pP), (1, .int pR)] := hl
  refine lv_bipush (v := 100) hx hb dX3_metresOf_0 (by decide) ?_
  refine lv_sipush (v := 300) hx hb dX3_metresOf_2 (by decide) ?_
  refine lv_bipush (v := 40) hx hb dX3_metresOf_5 (by decide) ?_
  refine lv_iload_n hx hb dX3_metresOf_7 rfl (lv_at hl 0 rfl) ?_
  refine lv_imul hx hb dX3_metresOf_8 ?_
  refine lv_topi (fun v_1 ev_1 => ?_)
  have hv_1 : v_1.toInt = ((40:Int) * pP_i) := by rw [ev_1]; exact zz_mulI (by decide) pP_h (by omega) (by omega)
  refine lv_iadd hx hb dX3_metresOf_9 ?_
  refine lv_topi (fun v_2 ev_2 => ?_)
  have hv_2 : v_2.toInt = ((300:Int) + ((40:Int) * pP_i)) := by rw [ev_2]; exact zz_addI (by decide) hv_1 (by omega) (by omega)
  refine lv_bipush (v := 15) hx hb dX3_metresOf_10 (by decide) ?_
  refine lv_iload_n hx hb dX3_metresOf_12 rfl (lv_at hl 1 rfl) ?_
  refine lv_imul hx hb dX3_metresOf_13 ?_
  refine lv_topi (fun v_3 ev_3 => ?_)
  have hv_3 : v_3.toInt = ((15:Int) * pR_i) := by rw [ev_3]; exact zz_mulI (by decide) pR_h (by omega) (by omega)
  refine lv_isub hx hb dX3_metresOf_14 ?_
  refine lv_topi (fun v_4 ev_4 => ?_)
  have hv_4 : v_4.toInt = (((300:Int) + ((40:Int) * pP_i)) - ((15:Int) * pR_i)) := by rw [ev_4]; exact zz_subI hv_2 hv_3 (by omega) (by omega)
  refine va_mmax hx hb (by rw [hml]; exact hl.1.symm) hown hw0 hw1 hw2 hw3 (Nat.le_of_ble_eq_true rfl) (Nat.le_of_ble_eq_true rfl) (Nat.le_of_ble_eq_true rfl) (Nat.le_of_ble_eq_true rfl) dX3_metresOf_15 ?_
  refine lv_topi (fun v_5 ev_5 => ?_)
  have hv_5 := zz_max (a := (100:Int)) (by decide) (b := (((300:Int) + ((40:Int) * pP_i)) - ((15:Int) * pR_i))) hv_4 ev_5
  have hu9 : (v_5 : Int32).toInt = (v_5).toInt := rfl
  have hP9 := hP.sub (ws' := []) [] rfl
  have hD9 := hD.sub (ws' := []) [] (by decide) rfl
  have hf9_0 : 100 ≤ v_5.toInt ∧ v_5.toInt ≤ 735 := by omega
  exact W.iret (v := v_5) hx hb hr (fun t ht hW => ⟨⟨v_5, v_5, rfl, rfl, hf9_0, by rw [ht]; exact hP9, va_K.moved hW.alike hK, hD9⟩, hS.F ht⟩) hS.2.2 dX3_metresOf_18

set_option maxHeartbeats 8000000 in
set_option maxRecDepth 100000 in
theorem c_X3_secondsAfter (l : Launch) (dC : Nat → ClassId) (dI : Nat → Nat → Nat) (cI cZ : ClassId) (sz : Nat) (h0 : Nat) (pG : Int32) (pG_i : Int) (pG_h : pG.toInt = pG_i) (pO : Int32) (pO_i : Int) (pO_h : pO.toInt = pO_i) (v_x_minute : Int32) (v_x_minute_i : Int) (v_x_minute_h : v_x_minute.toInt = v_x_minute_i) (v_x_left : Int32) (v_x_left_i : Int) (v_x_left_h : v_x_left.toInt = v_x_left_i) (v_x_primes : Int32) (v_x_primes_i : Int) (v_x_primes_h : v_x_primes.toInt = v_x_primes_i) (B_v_x_primes : 0 ≤ v_x_primes_i ∧ v_x_primes_i ≤ 5) (j_x_lot : Int64) (v_x_foremost : Int32) (v_x_foremost_i : Int) (v_x_foremost_h : v_x_foremost.toInt = v_x_foremost_i) (x_rides : Nat) (x_metres : Nat) (x_store : Nat) (x_seconds : Nat) (x_timesHeld : Nat) (x_work : Nat) (x_heldFor : Nat) (x_primeSeconds : Nat) (x_orderRows : Nat) (x_bunches : Nat) (x_values : Nat) : Met l yX3_secondsAfter (Cond.code yX3_secondsAfter cX3_secondsAfter 4 (some .int) :: lw_good) ({ frames := 1, cells := 0, slots := 0, locals := 13 }) (va_Pc [.ref h0, .int pG, .int pO] (fun U => U.heap.size = sz ∧ va_P (dC, dI) vwCl [(h0, .inr (3, [.int v_x_minute, .int v_x_left, .int v_x_primes, .long j_x_lot, .int v_x_foremost, .ref x_rides, .ref x_metres, .ref x_store, .ref x_seconds, .ref x_timesHeld, .ref x_work, .ref x_heldFor, .ref x_primeSeconds, .ref x_orderRows, .ref x_bunches, .ref x_values]))] U.heap ∧ va_K (dC, dI) vwCl [(cI, .int), (cZ, .boolean)] U ∧ va_D (fun _ => True) [(h0, .inr (3, [.int v_x_minute, .int v_x_left, .int v_x_primes, .long j_x_lot, .int v_x_foremost, .ref x_rides, .ref x_metres, .ref x_store, .ref x_seconds, .ref x_timesHeld, .ref x_work, .ref x_heldFor, .ref x_primeSeconds, .ref x_orderRows, .ref x_bunches, .ref x_values]))])) (va_Qi (fun (r u : Int32) => r = u) (fun u t => va_P (dC, dI) vwCl [(h0, .inr (3, [.int v_x_minute, .int v_x_left, .int v_x_primes, .long j_x_lot, .int v_x_foremost, .ref x_rides, .ref x_metres, .ref x_store, .ref x_seconds, .ref x_timesHeld, .ref x_work, .ref x_heldFor, .ref x_primeSeconds, .ref x_orderRows, .ref x_bunches, .ref x_values]))] t.heap ∧ va_K (dC, dI) vwCl [(cI, .int), (cZ, .boolean)] t ∧ va_D (va_A [(h0, .inr (3, [.int v_x_minute, .int v_x_left, .int v_x_primes, .long j_x_lot, .int v_x_foremost, .ref x_rides, .ref x_metres, .ref x_store, .ref x_seconds, .ref x_timesHeld, .ref x_work, .ref x_heldFor, .ref x_primeSeconds, .ref x_orderRows, .ref x_bunches, .ref x_values]))] sz) [(h0, .inr (3, [.int v_x_minute, .int v_x_left, .int v_x_primes, .long j_x_lot, .int v_x_foremost, .ref x_rides, .ref x_metres, .ref x_store, .ref x_seconds, .ref x_timesHeld, .ref x_work, .ref x_heldFor, .ref x_primeSeconds, .ref x_orderRows, .ref x_bunches, .ref x_values]))]) (va_A [(h0, .inr (3, [.int v_x_minute, .int v_x_left, .int v_x_primes, .long j_x_lot, .int v_x_foremost, .ref x_rides, .ref x_metres, .ref x_store, .ref x_seconds, .ref x_timesHeld, .ref x_work, .ref x_heldFor, .ref x_primeSeconds, .ref x_orderRows, .ref x_bunches, .ref x_values]))] sz)) 0 0 (va_A [(h0, .inr (3, [.int v_x_minute, .int v_x_left, .int v_x_primes, .long j_x_lot, .int v_x_foremost, .ref x_rides, .ref x_metres, .ref x_store, .ref x_seconds, .ref x_timesHeld, .ref x_work, .ref x_heldFor, .ref x_primeSeconds, .ref x_orderRows, .ref x_bunches, .ref x_values]))] sz) := by
  refine Met.ofW (cc := cX3_secondsAfter) (maxL := 4) (ret := (some .int)) (by decide) rfl ?_
  intro p e s m args below meth c s₁ B hml hv
  obtain ⟨rfl, hsz, hP, hK, hD0⟩ := hv
  have hx := B.exec
  have hb := B.bytes
  have hr := B.returns
  have hts := atoms_spec (ws := Cond.code yX3_secondsAfter cX3_secondsAfter 4 (some .int) :: lw_good) B.pre
  have hown : s.vm.findClass RX3 = some m.cls := findClass_of_methodNamed B.named
  have hlocks := B.notSynchronized
  have hiX3 : ∀ w ∈ wsX30, w ∈ (Cond.code yX3_secondsAfter cX3_secondsAfter 4 (some .int) :: lw_good) := fun w h => List.mem_cons_of_mem _ (zi_X3 w h)
  have hw0 := hts (.methodLink RX3 97 Lib.Math.max.name) (List.mem_cons_of_mem _ zw_521)
  have hw1 := hts (.static Lib.Math.max.name) (List.mem_cons_of_mem _ zw_522)
  have hw2 := hts (.initialized "java/lang/Math") (List.mem_cons_of_mem _ zw_59)
  have hw3 := hts (.code Lib.Math.max.name Lib.Math.max.code 2 (some .int)) (List.mem_cons_of_mem _ zw_523)
  have hw4 := hts (.fieldLink RX3 9 "BunchRace$Race" "minute" "I") (List.mem_cons_of_mem _ zw_229)
  subst hsz
  have hD := hD0.self (sz := s.heap.size)
  generalize hAe : va_A [(h0, .inr (3, [.int v_x_minute, .int v_x_left, .int v_x_primes, .long j_x_lot, .int v_x_foremost, .ref x_rides, .ref x_metres, .ref x_store, .ref x_seconds, .ref x_timesHeld, .ref x_work, .ref x_heldFor, .ref x_primeSeconds, .ref x_orderRows, .ref x_bunches, .ref x_values]))] s.heap.size = A at hD ⊢
  have hA : ∀ q : Nat, s.heap.size ≤ q → A q := fun q h => by rw [← hAe]; exact Or.inr h
  have hS : va_S A s.heap s.heap [] := va_S.rf
  have hP : va_P (dC, dI) vwCl [(h0, .inr (3, [.int v_x_minute, .int v_x_left, .int v_x_primes, .long j_x_lot, .int v_x_foremost, .ref x_rides, .ref x_metres, .ref x_store, .ref x_seconds, .ref x_timesHeld, .ref x_work, .ref x_heldFor, .ref x_primeSeconds, .ref x_orderRows, .ref x_bunches, .ref x_values]))] s.heap := hP
  have hl := lv_entry ([.ref h0, .int pG, .int pO]) (n := 4) (Nat.le_of_ble_eq_true rfl)
  rw [lg_entry_eq]
  generalize (lg_sl ([.ref h0, .int pG, .int pO]) ++ List.replicate (4 - (lg_sl ([.ref h0, .int pG, .int pO])).length) Slot.unset).toArray = ls at hl ⊢
  have hl : lv_has ls 4 [(0, .ref h0), (1, .int pG), (2, .int pO)] := hl
  refine lv_bipush (v := 100) hx hb dX3_secondsAfter_0 (by decide) ?_
  refine lv_iload_n hx hb dX3_secondsAfter_2 rfl (lv_at hl 2 rfl) ?_
  refine va_mmax hx hb (by rw [hml]; exact hl.1.symm) hown hw0 hw1 hw2 hw3 (Nat.le_of_ble_eq_true rfl) (Nat.le_of_ble_eq_true rfl) (Nat.le_of_ble_eq_true rfl) (Nat.le_of_ble_eq_true rfl) dX3_secondsAfter_3 ?_
  refine lv_topi (fun v_1 ev_1 => ?_)
  have hv_1 := zz_max (a := (100:Int)) (by decide) (b := pO_i) pO_h ev_1
  refine lv_istore_n (lv' := [(3, .int v_1), (0, .ref h0), (1, .int pG), (2, .int pO)]) hx hb dX3_secondsAfter_6 rfl hl (by decide) rfl (fun ls hl => ?_)
  refine lv_bipush (v := 60) hx hb dX3_secondsAfter_7 (by decide) ?_
  refine lv_aload_n hx hb dX3_secondsAfter_9 rfl (lv_at hl 1 rfl) ?_
  refine va_get (D := (dC, dI)) (ci := 3) (v := .int v_x_minute) (C := RX3) (T := TX3) (N := 16) hx hb hts hiX3 hown hK hP 0 rfl rfl 0 (by decide) hw4 (fun _ h9 => h9) rfl dX3_secondsAfter_10 ?_
  refine lv_imul hx hb dX3_secondsAfter_13 ?_
  refine lv_topi (fun v_2 _ => ?_)
  refine lv_bipush (v := 60) hx hb dX3_secondsAfter_14 (by decide) ?_
  refine lv_iload_n hx hb dX3_secondsAfter_16 rfl (lv_at hl 2 rfl) ?_
  refine lv_imul hx hb dX3_secondsAfter_17 ?_
  refine lv_topi (fun v_3 _ => ?_)
  refine lv_iload_n hx hb dX3_secondsAfter_18 rfl (lv_at hl 0 rfl) ?_
  refine lv_iadd hx hb dX3_secondsAfter_19 ?_
  refine lv_topi (fun v_4 _ => ?_)
  refine lv_iconst (v := 1) hx hb dX3_secondsAfter_20 (by decide) ?_
  refine lv_isub hx hb dX3_secondsAfter_21 ?_
  refine lv_topi (fun v_5 _ => ?_)
  refine lv_iload_n hx hb dX3_secondsAfter_22 rfl (lv_at hl 0 rfl) ?_
  refine lv_idiv hx hb dX3_secondsAfter_23 (zz_ne0 rfl (by omega)) ?_
  refine lv_topi (fun v_6 _ => ?_)
  refine lv_iadd hx hb dX3_secondsAfter_24 ?_
  refine lv_topi (fun v_7 _ => ?_)
  have hu9 : (v_7 : Int32).toInt = (v_7).toInt := rfl
  have hP9 := hP.sub (ws' := [(h0, .inr (3, [.int v_x_minute, .int v_x_left, .int v_x_primes, .long j_x_lot, .int v_x_foremost, .ref x_rides, .ref x_metres, .ref x_store, .ref x_seconds, .ref x_timesHeld, .ref x_work, .ref x_heldFor, .ref x_primeSeconds, .ref x_orderRows, .ref x_bunches, .ref x_values]))]) [0] rfl
  have hD9 := hD.sub (ws' := [(h0, .inr (3, [.int v_x_minute, .int v_x_left, .int v_x_primes, .long j_x_lot, .int v_x_foremost, .ref x_rides, .ref x_metres, .ref x_store, .ref x_seconds, .ref x_timesHeld, .ref x_work, .ref x_heldFor, .ref x_primeSeconds, .ref x_orderRows, .ref x_bunches, .ref x_values]))]) [0] (by decide) rfl
  exact W.iret (v := v_7) hx hb hr (fun t ht hW => ⟨⟨v_7, v_7, rfl, rfl, by rw [ht]; exact hP9, va_K.moved hW.alike hK, hD9⟩, hS.F ht⟩) hS.2.2 dX3_secondsAfter_25

set_option maxHeartbeats 8000000 in
set_option maxRecDepth 100000 in
theorem c_X3_drawsCrash (l : Launch) (dC : Nat → ClassId) (dI : Nat → Nat → Nat) (cI cZ : ClassId) (sz : Nat) (h0 : Nat) (pA : Int32) (pA_i : Int) (pA_h : pA.toInt = pA_i) (v_x_minute : Int32) (v_x_minute_i : Int) (v_x_minute_h : v_x_minute.toInt = v_x_minute_i) (v_x_left : Int32) (v_x_left_i : Int) (v_x_left_h : v_x_left.toInt = v_x_left_i) (v_x_primes : Int32) (v_x_primes_i : Int) (v_x_primes_h : v_x_primes.toInt = v_x_primes_i) (B_v_x_primes : 0 ≤ v_x_primes_i ∧ v_x_primes_i ≤ 5) (j_x_lot : Int64) (v_x_foremost : Int32) (v_x_foremost_i : Int) (v_x_foremost_h : v_x_foremost.toInt = v_x_foremost_i) (x_rides : Nat) (x_metres : Nat) (x_store : Nat) (x_seconds : Nat) (x_timesHeld : Nat) (x_work : Nat) (x_heldFor : Nat) (x_primeSeconds : Nat) (x_orderRows : Nat) (x_bunches : Nat) (x_values : Nat) : Met l yX3_drawsCrash (Cond.code yX3_drawsCrash cX3_drawsCrash 2 (some .boolean) :: lw_good) ({ frames := 0, cells := 0, slots := 0, locals := 0 }) (va_Pc [.ref h0, .int pA] (fun U => U.heap.size = sz ∧ va_P (dC, dI) vwCl [(h0, .inr (3, [.int v_x_minute, .int v_x_left, .int v_x_primes, .long j_x_lot, .int v_x_foremost, .ref x_rides, .ref x_metres, .ref x_store, .ref x_seconds, .ref x_timesHeld, .ref x_work, .ref x_heldFor, .ref x_primeSeconds, .ref x_orderRows, .ref x_bunches, .ref x_values]))] U.heap ∧ va_K (dC, dI) vwCl [(cI, .int), (cZ, .boolean)] U ∧ va_D (fun _ => True) [(h0, .inr (3, [.int v_x_minute, .int v_x_left, .int v_x_primes, .long j_x_lot, .int v_x_foremost, .ref x_rides, .ref x_metres, .ref x_store, .ref x_seconds, .ref x_timesHeld, .ref x_work, .ref x_heldFor, .ref x_primeSeconds, .ref x_orderRows, .ref x_bunches, .ref x_values]))])) (va_Qi (fun (r u : Int32) => r = u) (fun u t => ∃ (w_h0_lot : Int64), (0 ≤ u.toInt ∧ u.toInt ≤ 1) ∧ va_P (dC, dI) vwCl [(h0, .inr (3, [.int v_x_minute, .int v_x_left, .int v_x_primes, .long w_h0_lot, .int v_x_foremost, .ref x_rides, .ref x_metres, .ref x_store, .ref x_seconds, .ref x_timesHeld, .ref x_work, .ref x_heldFor, .ref x_primeSeconds, .ref x_orderRows, .ref x_bunches, .ref x_values]))] t.heap ∧ va_K (dC, dI) vwCl [(cI, .int), (cZ, .boolean)] t ∧ va_D (va_A [(h0, .inr (3, [.int v_x_minute, .int v_x_left, .int v_x_primes, .long j_x_lot, .int v_x_foremost, .ref x_rides, .ref x_metres, .ref x_store, .ref x_seconds, .ref x_timesHeld, .ref x_work, .ref x_heldFor, .ref x_primeSeconds, .ref x_orderRows, .ref x_bunches, .ref x_values]))] sz) [(h0, .inr (3, [.int v_x_minute, .int v_x_left, .int v_x_primes, .long w_h0_lot, .int v_x_foremost, .ref x_rides, .ref x_metres, .ref x_store, .ref x_seconds, .ref x_timesHeld, .ref x_work, .ref x_heldFor, .ref x_primeSeconds, .ref x_orderRows, .ref x_bunches, .ref x_values]))]) (va_A [(h0, .inr (3, [.int v_x_minute, .int v_x_left, .int v_x_primes, .long j_x_lot, .int v_x_foremost, .ref x_rides, .ref x_metres, .ref x_store, .ref x_seconds, .ref x_timesHeld, .ref x_work, .ref x_heldFor, .ref x_primeSeconds, .ref x_orderRows, .ref x_bunches, .ref x_values]))] sz)) 0 0 (va_A [(h0, .inr (3, [.int v_x_minute, .int v_x_left, .int v_x_primes, .long j_x_lot, .int v_x_foremost, .ref x_rides, .ref x_metres, .ref x_store, .ref x_seconds, .ref x_timesHeld, .ref x_work, .ref x_heldFor, .ref x_primeSeconds, .ref x_orderRows, .ref x_bunches, .ref x_values]))] sz) := by
  refine Met.ofW (cc := cX3_drawsCrash) (maxL := 2) (ret := (some .boolean)) (by decide) rfl ?_
  intro p e s m args below meth c s₁ B hml hv
  obtain ⟨rfl, hsz, hP, hK, hD0⟩ := hv
  have hx := B.exec
  have hb := B.bytes
  have hr := B.returns
  have hts := atoms_spec (ws := Cond.code yX3_drawsCrash cX3_drawsCrash 2 (some .boolean) :: lw_good) B.pre
  have hown : s.vm.findClass RX3 = some m.cls := findClass_of_methodNamed B.named
  have hlocks := B.notSynchronized
  have hiX3 : ∀ w ∈ wsX30, w ∈ (Cond.code yX3_drawsCrash cX3_drawsCrash 2 (some .boolean) :: lw_good) := fun w h => List.mem_cons_of_mem _ (zi_X3 w h)
  have hw0 := hts (.fieldLink RX3 21 "BunchRace$Race" "lot" "J") (List.mem_cons_of_mem _ zw_236)
  have hw1 := hts (.constantLong RX3 182 6364136223846793005) (List.mem_cons_of_mem _ zw_588)
  have hw2 := hts (.constantLong RX3 184 1442695040888963407) (List.mem_cons_of_mem _ zw_589)
  have hw3 := hts (.constantLong RX3 186 100) (List.mem_cons_of_mem _ zw_590)
  subst hsz
  have hD := hD0.self (sz := s.heap.size)
  generalize hAe : va_A [(h0, .inr (3, [.int v_x_minute, .int v_x_left, .int v_x_primes, .long j_x_lot, .int v_x_foremost, .ref x_rides, .ref x_metres, .ref x_store, .ref x_seconds, .ref x_timesHeld, .ref x_work, .ref x_heldFor, .ref x_primeSeconds, .ref x_orderRows, .ref x_bunches, .ref x_values]))] s.heap.size = A at hD ⊢
  have hA : ∀ q : Nat, s.heap.size ≤ q → A q := fun q h => by rw [← hAe]; exact Or.inr h
  have hS : va_S A s.heap s.heap [] := va_S.rf
  have hP : va_P (dC, dI) vwCl [(h0, .inr (3, [.int v_x_minute, .int v_x_left, .int v_x_primes, .long j_x_lot, .int v_x_foremost, .ref x_rides, .ref x_metres, .ref x_store, .ref x_seconds, .ref x_timesHeld, .ref x_work, .ref x_heldFor, .ref x_primeSeconds, .ref x_orderRows, .ref x_bunches, .ref x_values]))] s.heap := hP
  have hl := lv_entry ([.ref h0, .int pA]) (n := 2) (Nat.le_of_ble_eq_true rfl)
  rw [lg_entry_eq]
  generalize (lg_sl ([.ref h0, .int pA]) ++ List.replicate (2 - (lg_sl ([.ref h0, .int pA])).length) Slot.unset).toArray = ls at hl ⊢
  have hl : lv_has ls 2 [(0, .ref h0), (1, .int pA)] := hl
  refine lv_aload_n hx hb dX3_drawsCrash_0 rfl (lv_at hl 0 rfl) ?_
  refine lv_aload_n hx hb dX3_drawsCrash_1 rfl (lv_at hl 0 rfl) ?_
  refine va_get (D := (dC, dI)) (ci := 3) (v := .long j_x_lot) (C := RX3) (T := TX3) (N := 16) hx hb hts hiX3 hown hK hP 0 rfl rfl 3 (by decide) hw0 (fun _ h9 => h9) rfl dX3_drawsCrash_2 ?_
  refine lv_ldc2 (v := 6364136223846793005) hx hb hown hw1 dX3_drawsCrash_5 ?_
  refine lv_lmul hx hb dX3_drawsCrash_8 ?_
  refine lv_topl (fun y_1 _ => ?_)
  refine lv_ldc2 (v := 1442695040888963407) hx hb hown hw2 dX3_drawsCrash_9 ?_
  refine lv_ladd hx hb dX3_drawsCrash_12 ?_
  refine lv_topl (fun y_2 _ => ?_)
  refine va_put (D := (dC, dI)) (ci := 3) (v := .long y_2) (ty := .long) (C := RX3) (T := TX3) (N := 16) hx hb hts hiX3 tyX3 tyX3_ok nmX3 hown hK hP hD hS 0 rfl rfl 3 (by decide) hw0 (fun _ h9 => h9) rfl (by decide +kernel) rfl rfl (Nat.le_of_ble_eq_true rfl) dX3_drawsCrash_13 (fun H locs hP hD hS => ?_)
  have hP : va_P (dC, dI) vwCl [(h0, .inr (3, [.int v_x_minute, .int v_x_left, .int v_x_primes, .long y_2, .int v_x_foremost, .ref x_rides, .ref x_metres, .ref x_store, .ref x_seconds, .ref x_timesHeld, .ref x_work, .ref x_heldFor, .ref x_primeSeconds, .ref x_orderRows, .ref x_bunches, .ref x_values]))] H := hP
  have hD : va_D A [(h0, .inr (3, [.int v_x_minute, .int v_x_left, .int v_x_primes, .long y_2, .int v_x_foremost, .ref x_rides, .ref x_metres, .ref x_store, .ref x_seconds, .ref x_timesHeld, .ref x_work, .ref x_heldFor, .ref x_primeSeconds, .ref x_orderRows, .ref x_bunches, .ref x_values]))] := hD
  refine lv_aload_n hx hb dX3_drawsCrash_16 rfl (lv_at hl 0 rfl) ?_
  refine va_get (D := (dC, dI)) (ci := 3) (v := .long y_2) (C := RX3) (T := TX3) (N := 16) hx hb hts hiX3 hown hK hP 0 rfl rfl 3 (by decide) hw0 (fun _ h9 => h9) rfl dX3_drawsCrash_17 ?_
  refine lv_bipush (v := 33) hx hb dX3_drawsCrash_20 (by decide) ?_
  refine lv_lushr (v := (y_2.toUInt64 >>> ((33 : Int32).toInt64.toUInt64 &&& Int64.toUInt64 63)).toInt64) hx hb dX3_drawsCrash_22 rfl ?_
  refine lv_topl (fun y_3 _ => ?_)
  refine lv_ldc2 (v := 100) hx hb hown hw3 dX3_drawsCrash_23 ?_
  refine lv_lrem hx hb dX3_drawsCrash_26 (by decide) ?_
  refine lv_topl (fun y_4 _ => ?_)
  refine lv_iload_n hx hb dX3_drawsCrash_27 rfl (lv_at hl 1 rfl) ?_
  refine lv_i2l (v := (pA : Int32).toInt64) hx hb dX3_drawsCrash_28 rfl ?_
  refine lv_topl (fun y_5 _ => ?_)
  refine W.lcmp hx hb dX3_drawsCrash_29 ?_
  refine lv_topi (fun v_6 _ => ?_)
  refine lv_if_ge (tgt := 37) hx hb dX3_drawsCrash_30 (by decide) (fun c_7 => ?_) (fun c_7 => ?_)
  ·
    have c_7 : (0:Int) ≤ (v_6).toInt := zz_le (by decide) rfl c_7
    refine lv_iconst (v := 0) hx hb dX3_drawsCrash_37 (by decide) ?_
    have hu9 : (0 : Int32).toInt = (0:Int) := (by decide)
    have hP9 := hP.sub (ws' := [(h0, .inr (3, [.int v_x_minute, .int v_x_left, .int v_x_primes, .long y_2, .int v_x_foremost, .ref x_rides, .ref x_metres, .ref x_store, .ref x_seconds, .ref x_timesHeld, .ref x_work, .ref x_heldFor, .ref x_primeSeconds, .ref x_orderRows, .ref x_bunches, .ref x_values]))]) [0] rfl
    have hD9 := hD.sub (ws' := [(h0, .inr (3, [.int v_x_minute, .int v_x_left, .int v_x_primes, .long y_2, .int v_x_foremost, .ref x_rides, .ref x_metres, .ref x_store, .ref x_seconds, .ref x_timesHeld, .ref x_work, .ref x_heldFor, .ref x_primeSeconds, .ref x_orderRows, .ref x_bunches, .ref x_values]))]) [0] (by decide) rfl
    have hf9_0 : 0 ≤ (0 : Int32).toInt ∧ (0 : Int32).toInt ≤ 1 := by omega
    exact W.zret (v := 0) hx hb hr rfl (fun t ht hW => ⟨⟨0, 0, rfl, rfl, y_2, hf9_0, by rw [ht]; exact hP9, va_K.moved hW.alike hK, hD9⟩, hS.F ht⟩) hS.2.2 dX3_drawsCrash_38
  ·
    have c_7 : ¬ ((0:Int) ≤ (v_6).toInt) := zz_len (by decide) rfl c_7
    refine lv_iconst (v := 1) hx hb dX3_drawsCrash_33 (by decide) ?_
    refine lv_goto (tgt := 38) hx hb dX3_drawsCrash_34 (by decide) ?_
    have hu9 : (1 : Int32).toInt = (1:Int) := (by decide)
    have hP9 := hP.sub (ws' := [(h0, .inr (3, [.int v_x_minute, .int v_x_left, .int v_x_primes, .long y_2, .int v_x_foremost, .ref x_rides, .ref x_metres, .ref x_store, .ref x_seconds, .ref x_timesHeld, .ref x_work, .ref x_heldFor, .ref x_primeSeconds, .ref x_orderRows, .ref x_bunches, .ref x_values]))]) [0] rfl
    have hD9 := hD.sub (ws' := [(h0, .inr (3, [.int v_x_minute, .int v_x_left, .int v_x_primes, .long y_2, .int v_x_foremost, .ref x_rides, .ref x_metres, .ref x_store, .ref x_seconds, .ref x_timesHeld, .ref x_work, .ref x_heldFor, .ref x_primeSeconds, .ref x_orderRows, .ref x_bunches, .ref x_values]))]) [0] (by decide) rfl
    have hf9_0 : 0 ≤ (1 : Int32).toInt ∧ (1 : Int32).toInt ≤ 1 := by omega
    exact W.zret (v := 1) hx hb hr rfl (fun t ht hW => ⟨⟨1, 1, rfl, rfl, y_2, hf9_0, by rw [ht]; exact hP9, va_K.moved hW.alike hK, hD9⟩, hS.F ht⟩) hS.2.2 dX3_drawsCrash_38

set_option maxHeartbeats 8000000 in
set_option maxRecDepth 100000 in
theorem c_X3_placeIn (l : Launch) (dC : Nat → ClassId) (dI : Nat → Nat → Nat) (cI cZ : ClassId) (sz : Nat) (pRow : Nat) (pF : Int32) (pF_i : Int) (pF_h : pF.toInt = pF_i) (B_pF : 0 ≤ pF_i ∧ pF_i ≤ 80) (pR : Int32) (pR_i : Int) (pR_h : pR.toInt = pR_i) (B_pR : 0 ≤ pR_i ∧ pR_i ≤ 19) (pn : Nat) (f_pRow : Nat → Int32) (hh0 : pF_i + 20 ≤ (pn : Int)) : Met l yX3_placeIn (Cond.code yX3_placeIn cX3_placeIn 7 (some .int) :: lw_good) ({ frames := 0, cells := 0, slots := 0, locals := 0 }) (va_Pc [.ref pRow, .int pF, .int pR] (fun U => U.heap.size = sz ∧ va_P (dC, dI) vwCl [(pRow, .inl (cI, pn, .inl f_pRow))] U.heap ∧ va_K (dC, dI) vwCl [(cI, .int), (cZ, .boolean)] U ∧ va_D (fun _ => True) [(pRow, .inl (cI, pn, .inl f_pRow))])) (va_Qi (fun (r u : Int32) => r = u) (fun u t => va_P (dC, dI) vwCl [(pRow, .inl (cI, pn, .inl f_pRow))] t.heap ∧ va_K (dC, dI) vwCl [(cI, .int), (cZ, .boolean)] t ∧ va_D (va_A [(pRow, .inl (cI, pn, .inl f_pRow))] sz) [(pRow, .inl (cI, pn, .inl f_pRow))]) (va_A [(pRow, .inl (cI, pn, .inl f_pRow))] sz)) 0 0 (va_A [(pRow, .inl (cI, pn, .inl f_pRow))] sz) := by
  refine Met.ofW (cc := cX3_placeIn) (maxL := 7) (ret := (some .int)) (by decide) rfl ?_
  intro p e s m args below meth c s₁ B hml hv
  obtain ⟨rfl, hsz, hP, hK, hD0⟩ := hv
  have hx := B.exec
  have hb := B.bytes
  have hr := B.returns
  have hts := atoms_spec (ws := Cond.code yX3_placeIn cX3_placeIn 7 (some .int) :: lw_good) B.pre
  have hown : s.vm.findClass RX3 = some m.cls := findClass_of_methodNamed B.named
  have hlocks := B.notSynchronized
  subst hsz
  have hD := hD0.self (sz := s.heap.size)
  generalize hAe : va_A [(pRow, .inl (cI, pn, .inl f_pRow))] s.heap.size = A at hD ⊢
  have hA : ∀ q : Nat, s.heap.size ≤ q → A q := fun q h => by rw [← hAe]; exact Or.inr h
  have hS : va_S A s.heap s.heap [] := va_S.rf
  have hP : va_P (dC, dI) vwCl [(pRow, .inl (cI, pn, .inl f_pRow))] s.heap := hP
  have hl := lv_entry ([.ref pRow, .int pF, .int pR]) (n := 7) (Nat.le_of_ble_eq_true rfl)
  rw [lg_entry_eq]
  generalize (lg_sl ([.ref pRow, .int pF, .int pR]) ++ List.replicate (7 - (lg_sl ([.ref pRow, .int pF, .int pR])).length) Slot.unset).toArray = ls at hl ⊢
  have hl : lv_has ls 7 [(0, .ref pRow), (1, .int pF), (2, .int pR)] := hl
  refine lv_aload_n hx hb dX3_placeIn_0 rfl (lv_at hl 0 rfl) ?_
  refine lv_iload_n hx hb dX3_placeIn_1 rfl (lv_at hl 1 rfl) ?_
  refine lv_iload_n hx hb dX3_placeIn_2 rfl (lv_at hl 2 rfl) ?_
  refine lv_iadd hx hb dX3_placeIn_3 ?_
  refine lv_topi (fun v_1 ev_1 => ?_)
  have hv_1 : v_1.toInt = (pF_i + pR_i) := by rw [ev_1]; exact zz_addI pF_h pR_h (by omega) (by omega)
  refine va_iald hx hb hK hP 0 0 rfl rfl (zz_in (a := (pF_i + pR_i)) hv_1 (by omega) (by omega)) dX3_placeIn_4 ?_
  refine lv_topi (fun v_2 ev_2 => ?_)
  refine lv_istore_n (lv' := [(3, .int v_2), (0, .ref pRow), (1, .int pF), (2, .int pR)]) hx hb dX3_placeIn_5 rfl hl (by decide) rfl (fun ls hl => ?_)
  refine lv_iload_n hx hb dX3_placeIn_6 rfl (lv_at hl 0 rfl) ?_
  refine lv_iconst (v := (-1)) hx hb dX3_placeIn_7 (by decide) ?_
  refine lv_icmp_ne (tgt := 13) hx hb dX3_placeIn_8 (by decide) (fun c_3 => ?_) (fun c_3 => ?_)
  ·
    have c_3 : ¬ ((v_2).toInt = (-1:Int)) := zz_eqn rfl (by decide) c_3
    refine lv_iconst (v := 1) hx hb dX3_placeIn_13 (by decide) ?_
    refine lv_istore (lv' := [(4, .int 1), (3, .int v_2), (0, .ref pRow), (1, .int pF), (2, .int pR)]) hx hb dX3_placeIn_14 hl (by decide) rfl (fun ls hl => ?_)
    refine lv_iconst (v := 0) hx hb dX3_placeIn_16 (by decide) ?_
    refine lv_istore (lv' := [(5, .int 0), (4, .int 1), (3, .int v_2), (0, .ref pRow), (1, .int pF), (2, .int pR)]) hx hb dX3_placeIn_17 hl (by decide) rfl (fun ls hl => ?_)
    have L_20 : ∀ (n : Nat) (i5_L_20 : Int32) (i4_L_20 : Int32) (H : Heap) (locs : List Loc) (ls : Array Slot), (0 ≤ i5_L_20.toInt) → (i5_L_20.toInt ≤ 20) → (20 - i5_L_20.toInt) < (n : Int) → va_P (dC, dI) vwCl [(pRow, .inl (cI, pn, .inl f_pRow))] H → va_D A [(pRow, .inl (cI, pn, .inl f_pRow))] → va_S A s.heap H locs → lv_has ls 7 [(5, .int i5_L_20), (4, .int i4_L_20), (3, .int v_2), (0, .ref pRow), (1, .int pF), (2, .int pR)] → W p l e ((headSpec (Cond.code yX3_placeIn cX3_placeIn 7 (some .int) :: lw_good) ({ frames := 0, cells := 0, slots := 0, locals := 0 })).room) s m (([.ref pRow, .int pF, .int pR] : List Value).toArray) below meth c H locs 0 0 (MQ below (va_Qi (fun (r u : Int32) => r = u) (fun u t => va_P (dC, dI) vwCl [(pRow, .inl (cI, pn, .inl f_pRow))] t.heap ∧ va_K (dC, dI) vwCl [(cI, .int), (cZ, .boolean)] t ∧ va_D A [(pRow, .inl (cI, pn, .inl f_pRow))]) A) (([.ref pRow, .int pF, .int pR] : List Value).toArray) s 0 0 A) (F0 m 19 ls []) := by
      intro n
      induction n with
      | zero =>
        intro i5_L_20 i4_L_20 H locs ls hI0 hI1 hM
        exact absurd hM (by omega)
      | succ n ih =>
        intro i5_L_20 i4_L_20 H locs ls hI0 hI1 hM hP hD hS hl
        have ih_21 := ih
        have hi_22 := hI0
        have hi_23 := hI1
        refine lv_iload hx hb dX3_placeIn_19 (lv_at hl 0 rfl) ?_
        refine lv_bipush (v := 20) hx hb dX3_placeIn_21 (by decide) ?_
        refine lv_icmp_ge (tgt := 67) hx hb dX3_placeIn_23 (by decide) (fun c_24 => ?_) (fun c_24 => ?_)
        ·
          have c_24 : (20:Int) ≤ (i5_L_20).toInt := zz_le (by decide) rfl c_24
          refine lv_iload hx hb dX3_placeIn_67 (lv_at hl 1 rfl) ?_
          have hu9 : (i4_L_20 : Int32).toInt = (i4_L_20).toInt := rfl
          have hP9 := hP.sub (ws' := [(pRow, .inl (cI, pn, .inl f_pRow))]) [0] rfl
          have hD9 := hD.sub (ws' := [(pRow, .inl (cI, pn, .inl f_pRow))]) [0] (by decide) rfl
          exact W.iret (v := i4_L_20) hx hb hr (fun t ht hW => ⟨⟨i4_L_20, i4_L_20, rfl, rfl, by rw [ht]; exact hP9, va_K.moved hW.alike hK, hD9⟩, hS.F ht⟩) hS.2.2 dX3_placeIn_69
        ·
          have c_24 : ¬ ((20:Int) ≤ (i5_L_20).toInt) := zz_len (by decide) rfl c_24
          refine lv_aload_n hx hb dX3_placeIn_26 rfl (lv_at hl 3 rfl) ?_
          refine lv_iload_n hx hb dX3_placeIn_27 rfl (lv_at hl 4 rfl) ?_
          refine lv_iload hx hb dX3_placeIn_28 (lv_at hl 0 rfl) ?_
          refine lv_iadd hx hb dX3_placeIn_30 ?_
          refine lv_topi (fun v_25 ev_25 => ?_)
          have hv_25 : v_25.toInt = (pF_i + (i5_L_20).toInt) := by rw [ev_25]; exact zz_addI pF_h rfl (by omega) (by omega)
          refine va_iald hx hb hK hP 0 0 rfl rfl (zz_in (a := (pF_i + (i5_L_20).toInt)) hv_25 (by omega) (by omega)) dX3_placeIn_31 ?_
          refine lv_topi (fun v_26 ev_26 => ?_)
          refine lv_istore (lv' := [(6, .int v_26), (5, .int i5_L_20), (4, .int i4_L_20), (3, .int v_2), (0, .ref pRow), (1, .int pF), (2, .int pR)]) hx hb dX3_placeIn_32 hl (by decide) rfl (fun ls hl => ?_)
          refine lv_iload hx hb dX3_placeIn_34 (lv_at hl 0 rfl) ?_
          refine lv_iconst (v := (-1)) hx hb dX3_placeIn_36 (by decide) ?_
          refine lv_icmp_eq (tgt := 61) hx hb dX3_placeIn_37 (by decide) (fun c_27 => ?_) (fun c_27 => ?_)
          ·
            have c_27 : (v_26).toInt = (-1:Int) := zz_eq rfl (by decide) c_27
            obtain ⟨v_28, ev_28⟩ : ∃ y : Int32, y = i5_L_20 + 1 := ⟨_, rfl⟩
            have hv_28 : v_28.toInt = ((i5_L_20).toInt + (1:Int)) := by rw [ev_28]; exact zz_addI rfl (by decide) (by omega) (by omega)
            refine lv_iinc (v := v_28) (lv' := [(5, .int v_28), (6, .int v_26), (4, .int i4_L_20), (3, .int v_2), (0, .ref pRow), (1, .int pF), (2, .int pR)]) hx hb dX3_placeIn_61 hl (k := 1) rfl (by rw [ev_28]; rfl) (by decide) rfl (fun ls hl => ?_)
            refine lv_goto (tgt := 19) hx hb dX3_placeIn_64 (by decide) ?_
            have hb_29_i5_L_20 : (v_28 : Int32).toInt = ((i5_L_20).toInt + (1:Int)) := hv_28
            have hb_29_i4_L_20 : (i4_L_20 : Int32).toInt = (i4_L_20).toInt := rfl
            exact ih_21 v_28 i4_L_20 H locs ls (by omega) (by omega) (by omega) (hP.sub [0] rfl) (hD.sub [0] (by decide) rfl) hS (lv_sub hl [0, 2, 3, 4, 5, 6] rfl)
          ·
            have c_27 : ¬ ((v_26).toInt = (-1:Int)) := zz_eqn rfl (by decide) c_27
            refine lv_iload hx hb dX3_placeIn_40 (lv_at hl 0 rfl) ?_
            refine lv_iload_n hx hb dX3_placeIn_42 rfl (lv_at hl 3 rfl) ?_
            refine lv_icmp_lt (tgt := 58) hx hb dX3_placeIn_43 (by decide) (fun c_30 => ?_) (fun c_30 => ?_)
            ·
              have c_30 : (v_26).toInt < (v_2).toInt := zz_lt rfl rfl c_30
              obtain ⟨v_31, ev_31⟩ : ∃ y : Int32, y = i4_L_20 + 1 := ⟨_, rfl⟩
              refine lv_iinc (v := v_31) (lv' := [(4, .int v_31), (6, .int v_26), (5, .int i5_L_20), (3, .int v_2), (0, .ref pRow), (1, .int pF), (2, .int pR)]) hx hb dX3_placeIn_58 hl (k := 2) rfl (by rw [ev_31]; rfl) (by decide) rfl (fun ls hl => ?_)
              obtain ⟨v_32, ev_32⟩ : ∃ y : Int32, y = i5_L_20 + 1 := ⟨_, rfl⟩
              have hv_32 : v_32.toInt = ((i5_L_20).toInt + (1:Int)) := by rw [ev_32]; exact zz_addI rfl (by decide) (by omega) (by omega)
              refine lv_iinc (v := v_32) (lv' := [(5, .int v_32), (4, .int v_31), (6, .int v_26), (3, .int v_2), (0, .ref pRow), (1, .int pF), (2, .int pR)]) hx hb dX3_placeIn_61 hl (k := 2) rfl (by rw [ev_32]; rfl) (by decide) rfl (fun ls hl => ?_)
              refine lv_goto (tgt := 19) hx hb dX3_placeIn_64 (by decide) ?_
              have hb_33_i5_L_20 : (v_32 : Int32).toInt = ((i5_L_20).toInt + (1:Int)) := hv_32
              have hb_33_i4_L_20 : (v_31 : Int32).toInt = (v_31).toInt := rfl
              exact ih_21 v_32 v_31 H locs ls (by omega) (by omega) (by omega) (hP.sub [0] rfl) (hD.sub [0] (by decide) rfl) hS (lv_sub hl [0, 1, 3, 4, 5, 6] rfl)
            ·
              have c_30 : ¬ ((v_26).toInt < (v_2).toInt) := zz_ltn rfl rfl c_30
              refine lv_iload hx hb dX3_placeIn_46 (lv_at hl 0 rfl) ?_
              refine lv_iload_n hx hb dX3_placeIn_48 rfl (lv_at hl 3 rfl) ?_
              refine lv_icmp_ne (tgt := 61) hx hb dX3_placeIn_49 (by decide) (fun c_34 => ?_) (fun c_34 => ?_)
              ·
                have c_34 : ¬ ((v_26).toInt = (v_2).toInt) := zz_eqn rfl rfl c_34
                obtain ⟨v_35, ev_35⟩ : ∃ y : Int32, y = i5_L_20 + 1 := ⟨_, rfl⟩
                have hv_35 : v_35.toInt = ((i5_L_20).toInt + (1:Int)) := by rw [ev_35]; exact zz_addI rfl (by decide) (by omega) (by omega)
                refine lv_iinc (v := v_35) (lv' := [(5, .int v_35), (6, .int v_26), (4, .int i4_L_20), (3, .int v_2), (0, .ref pRow), (1, .int pF), (2, .int pR)]) hx hb dX3_placeIn_61 hl (k := 1) rfl (by rw [ev_35]; rfl) (by decide) rfl (fun ls hl => ?_)
                refine lv_goto (tgt := 19) hx hb dX3_placeIn_64 (by decide) ?_
                have hb_36_i5_L_20 : (v_35 : Int32).toInt = ((i5_L_20).toInt + (1:Int)) := hv_35
                have hb_36_i4_L_20 : (i4_L_20 : Int32).toInt = (i4_L_20).toInt := rfl
                exact ih_21 v_35 i4_L_20 H locs ls (by omega) (by omega) (by omega) (hP.sub [0] rfl) (hD.sub [0] (by decide) rfl) hS (lv_sub hl [0, 2, 3, 4, 5, 6] rfl)
              ·
                have c_34 : (v_26).toInt = (v_2).toInt := zz_eq rfl rfl c_34
                refine lv_iload hx hb dX3_placeIn_52 (lv_at hl 1 rfl) ?_
                refine lv_iload_n hx hb dX3_placeIn_54 rfl (lv_at hl 6 rfl) ?_
                refine lv_icmp_ge (tgt := 61) hx hb dX3_placeIn_55 (by decide) (fun c_37 => ?_) (fun c_37 => ?_)
                ·
                  have c_37 : pR_i ≤ (i5_L_20).toInt := zz_le pR_h rfl c_37
                  obtain ⟨v_38, ev_38⟩ : ∃ y : Int32, y = i5_L_20 + 1 := ⟨_, rfl⟩
                  have hv_38 : v_38.toInt = ((i5_L_20).toInt + (1:Int)) := by rw [ev_38]; exact zz_addI rfl (by decide) (by omega) (by omega)
                  refine lv_iinc (v := v_38) (lv' := [(5, .int v_38), (6, .int v_26), (4, .int i4_L_20), (3, .int v_2), (0, .ref pRow), (1, .int pF), (2, .int pR)]) hx hb dX3_placeIn_61 hl (k := 1) rfl (by rw [ev_38]; rfl) (by decide) rfl (fun ls hl => ?_)
                  refine lv_goto (tgt := 19) hx hb dX3_placeIn_64 (by decide) ?_
                  have hb_39_i5_L_20 : (v_38 : Int32).toInt = ((i5_L_20).toInt + (1:Int)) := hv_38
                  have hb_39_i4_L_20 : (i4_L_20 : Int32).toInt = (i4_L_20).toInt := rfl
                  exact ih_21 v_38 i4_L_20 H locs ls (by omega) (by omega) (by omega) (hP.sub [0] rfl) (hD.sub [0] (by decide) rfl) hS (lv_sub hl [0, 2, 3, 4, 5, 6] rfl)
                ·
                  have c_37 : ¬ (pR_i ≤ (i5_L_20).toInt) := zz_len pR_h rfl c_37
                  obtain ⟨v_40, ev_40⟩ : ∃ y : Int32, y = i4_L_20 + 1 := ⟨_, rfl⟩
                  refine lv_iinc (v := v_40) (lv' := [(4, .int v_40), (6, .int v_26), (5, .int i5_L_20), (3, .int v_2), (0, .ref pRow), (1, .int pF), (2, .int pR)]) hx hb dX3_placeIn_58 hl (k := 2) rfl (by rw [ev_40]; rfl) (by decide) rfl (fun ls hl => ?_)
                  obtain ⟨v_41, ev_41⟩ : ∃ y : Int32, y = i5_L_20 + 1 := ⟨_, rfl⟩
                  have hv_41 : v_41.toInt = ((i5_L_20).toInt + (1:Int)) := by rw [ev_41]; exact zz_addI rfl (by decide) (by omega) (by omega)
                  refine lv_iinc (v := v_41) (lv' := [(5, .int v_41), (4, .int v_40), (6, .int v_26), (3, .int v_2), (0, .ref pRow), (1, .int pF), (2, .int pR)]) hx hb dX3_placeIn_61 hl (k := 2) rfl (by rw [ev_41]; rfl) (by decide) rfl (fun ls hl => ?_)
                  refine lv_goto (tgt := 19) hx hb dX3_placeIn_64 (by decide) ?_
                  have hb_42_i5_L_20 : (v_41 : Int32).toInt = ((i5_L_20).toInt + (1:Int)) := hv_41
                  have hb_42_i4_L_20 : (v_40 : Int32).toInt = (v_40).toInt := rfl
                  exact ih_21 v_41 v_40 H locs ls (by omega) (by omega) (by omega) (hP.sub [0] rfl) (hD.sub [0] (by decide) rfl) hS (lv_sub hl [0, 1, 3, 4, 5, 6] rfl)
    have hb_43_i5_L_20 : (0 : Int32).toInt = (0:Int) := (by decide)
    have hb_43_i4_L_20 : (1 : Int32).toInt = (1:Int) := (by decide)
    exact L_20 1000 0 1 s.heap [] ls (by omega) (by omega) (by omega) (hP.sub [0] rfl) (hD.sub [0] (by decide) rfl) hS (lv_sub hl [0, 1, 2, 3, 4, 5] rfl)
  ·
    have c_3 : (v_2).toInt = (-1:Int) := zz_eq rfl (by decide) c_3
    refine lv_iconst (v := 0) hx hb dX3_placeIn_11 (by decide) ?_
    have hu9 : (0 : Int32).toInt = (0:Int) := (by decide)
    have hP9 := hP.sub (ws' := [(pRow, .inl (cI, pn, .inl f_pRow))]) [0] rfl
    have hD9 := hD.sub (ws' := [(pRow, .inl (cI, pn, .inl f_pRow))]) [0] (by decide) rfl
    exact W.iret (v := 0) hx hb hr (fun t ht hW => ⟨⟨0, 0, rfl, rfl, by rw [ht]; exact hP9, va_K.moved hW.alike hK, hD9⟩, hS.F ht⟩) hS.2.2 dX3_placeIn_12

set_option maxHeartbeats 8000000 in
set_option maxRecDepth 100000 in
theorem c_X3_riderIn (l : Launch) (dC : Nat → ClassId) (dI : Nat → Nat → Nat) (cI cZ : ClassId) (sz : Nat) (pRow : Nat) (pF : Int32) (pF_i : Int) (pF_h : pF.toInt = pF_i) (B_pF : 0 ≤ pF_i ∧ pF_i ≤ 80) (pP : Int32) (pP_i : Int) (pP_h : pP.toInt = pP_i) (pn : Nat) (f_pRow : Nat → Int32) (hh0 : pF_i + 20 ≤ (pn : Int)) : Met l yX3_riderIn (Cond.code yX3_riderIn cX3_riderIn 4 (some .int) :: lw_good) ({ frames := 1, cells := 0, slots := 0, locals := 26 }) (va_Pc [.ref pRow, .int pF, .int pP] (fun U => U.heap.size = sz ∧ va_P (dC, dI) vwCl [(pRow, .inl (cI, pn, .inl f_pRow))] U.heap ∧ va_K (dC, dI) vwCl [(cI, .int), (cZ, .boolean)] U ∧ va_D (fun _ => True) [(pRow, .inl (cI, pn, .inl f_pRow))])) (va_Qi (fun (r u : Int32) => r = u) (fun u t => (-1 ≤ u.toInt ∧ u.toInt ≤ 19) ∧ va_P (dC, dI) vwCl [(pRow, .inl (cI, pn, .inl f_pRow))] t.heap ∧ va_K (dC, dI) vwCl [(cI, .int), (cZ, .boolean)] t ∧ va_D (va_A [(pRow, .inl (cI, pn, .inl f_pRow))] sz) [(pRow, .inl (cI, pn, .inl f_pRow))]) (va_A [(pRow, .inl (cI, pn, .inl f_pRow))] sz)) 0 0 (va_A [(pRow, .inl (cI, pn, .inl f_pRow))] sz) := by
  refine Met.ofW (cc := cX3_riderIn) (maxL := 4) (ret := (some .int)) (by decide) rfl ?_
  intro p e s m args below meth c s₁ B hml hv
  obtain ⟨rfl, hsz, hP, hK, hD0⟩ := hv
  have hx := B.exec
  have hb := B.bytes
  have hr := B.returns
  have hts := atoms_spec (ws := Cond.code yX3_riderIn cX3_riderIn 4 (some .int) :: lw_good) B.pre
  have hown : s.vm.findClass RX3 = some m.cls := findClass_of_methodNamed B.named
  have hlocks := B.notSynchronized
  have hw0 := hts (.initialized RX3) (List.mem_cons_of_mem _ zw_54)
  have hw1 := hts (.methodLink RX3 188 yX3_placeIn) (List.mem_cons_of_mem _ zw_607)
  have hw2 := hts (.static yX3_placeIn) (List.mem_cons_of_mem _ zw_608)
  subst hsz
  have hD := hD0.self (sz := s.heap.size)
  generalize hAe : va_A [(pRow, .inl (cI, pn, .inl f_pRow))] s.heap.size = A at hD ⊢
  have hA : ∀ q : Nat, s.heap.size ≤ q → A q := fun q h => by rw [← hAe]; exact Or.inr h
  have hS : va_S A s.heap s.heap [] := va_S.rf
  have hP : va_P (dC, dI) vwCl [(pRow, .inl (cI, pn, .inl f_pRow))] s.heap := hP
  have hl := lv_entry ([.ref pRow, .int pF, .int pP]) (n := 4) (Nat.le_of_ble_eq_true rfl)
  rw [lg_entry_eq]
  generalize (lg_sl ([.ref pRow, .int pF, .int pP]) ++ List.replicate (4 - (lg_sl ([.ref pRow, .int pF, .int pP])).length) Slot.unset).toArray = ls at hl ⊢
  have hl : lv_has ls 4 [(0, .ref pRow), (1, .int pF), (2, .int pP)] := hl
  refine lv_iconst (v := 0) hx hb dX3_riderIn_0 (by decide) ?_
  refine lv_istore_n (lv' := [(3, .int 0), (0, .ref pRow), (1, .int pF), (2, .int pP)]) hx hb dX3_riderIn_1 rfl hl (by decide) rfl (fun ls hl => ?_)
  have L_6 : ∀ (n : Nat) (i3_L_6 : Int32) (H : Heap) (locs : List Loc) (ls : Array Slot), (0 ≤ i3_L_6.toInt) → (i3_L_6.toInt ≤ 20) → (20 - i3_L_6.toInt) < (n : Int) → va_P (dC, dI) vwCl [(pRow, .inl (cI, pn, .inl f_pRow))] H → va_D A [(pRow, .inl (cI, pn, .inl f_pRow))] → va_S A s.heap H locs → lv_has ls 4 [(3, .int i3_L_6), (0, .ref pRow), (1, .int pF), (2, .int pP)] → W p l e ((headSpec (Cond.code yX3_riderIn cX3_riderIn 4 (some .int) :: lw_good) ({ frames := 1, cells := 0, slots := 0, locals := 26 })).room) s m (([.ref pRow, .int pF, .int pP] : List Value).toArray) below meth c H locs 0 0 (MQ below (va_Qi (fun (r u : Int32) => r = u) (fun u t => (-1 ≤ u.toInt ∧ u.toInt ≤ 19) ∧ va_P (dC, dI) vwCl [(pRow, .inl (cI, pn, .inl f_pRow))] t.heap ∧ va_K (dC, dI) vwCl [(cI, .int), (cZ, .boolean)] t ∧ va_D A [(pRow, .inl (cI, pn, .inl f_pRow))]) A) (([.ref pRow, .int pF, .int pP] : List Value).toArray) s 0 0 A) (F0 m 2 ls []) := by
    intro n
    induction n with
    | zero =>
      intro i3_L_6 H locs ls hI0 hI1 hM
      exact absurd hM (by omega)
    | succ n ih =>
      intro i3_L_6 H locs ls hI0 hI1 hM hP hD hS hl
      have ih_7 := ih
      have hi_8 := hI0
      have hi_9 := hI1
      refine lv_iload_n hx hb dX3_riderIn_2 rfl (lv_at hl 0 rfl) ?_
      refine lv_bipush (v := 20) hx hb dX3_riderIn_3 (by decide) ?_
      refine lv_icmp_ge (tgt := 26) hx hb dX3_riderIn_5 (by decide) (fun c_10 => ?_) (fun c_10 => ?_)
      ·
        have c_10 : (20:Int) ≤ (i3_L_6).toInt := zz_le (by decide) rfl c_10
        refine lv_iconst (v := (-1)) hx hb dX3_riderIn_26 (by decide) ?_
        have hu9 : ((-1) : Int32).toInt = (-1:Int) := (by decide)
        have hP9 := hP.sub (ws' := [(pRow, .inl (cI, pn, .inl f_pRow))]) [0] rfl
        have hD9 := hD.sub (ws' := [(pRow, .inl (cI, pn, .inl f_pRow))]) [0] (by decide) rfl
        have hf9_0 : -1 ≤ ((-1) : Int32).toInt ∧ ((-1) : Int32).toInt ≤ 19 := by omega
        exact W.iret (v := (-1)) hx hb hr (fun t ht hW => ⟨⟨(-1), (-1), rfl, rfl, hf9_0, by rw [ht]; exact hP9, va_K.moved hW.alike hK, hD9⟩, hS.F ht⟩) hS.2.2 dX3_riderIn_27
      ·
        have c_10 : ¬ ((20:Int) ≤ (i3_L_6).toInt) := zz_len (by decide) rfl c_10
        refine lv_aload_n hx hb dX3_riderIn_8 rfl (lv_at hl 1 rfl) ?_
        refine lv_iload_n hx hb dX3_riderIn_9 rfl (lv_at hl 2 rfl) ?_
        refine lv_iload_n hx hb dX3_riderIn_10 rfl (lv_at hl 0 rfl) ?_
        have hPc := hP.sub (ws' := [(pRow, .inl (cI, pn, .inl f_pRow))]) [0] rfl
        have hDc := hD.sub (ws' := [(pRow, .inl (cI, pn, .inl f_pRow))]) [0] (by decide) rfl
        have hFc := va_free (wc := [(pRow, .inl (cI, pn, .inl f_pRow))]) hD hS hA [0] rfl
        refine va_calli (va_runS (As := [.ref pRow, .int pF, .int i3_L_6]) (rest := []) ⟨hx, hb, hml, hown, hts⟩ (c_X3_placeIn l dC dI cI cZ (H).size pRow pF pF_i pF_h (by omega) i3_L_6 ((i3_L_6).toInt) rfl (by omega) pn f_pRow (by omega)) ⟨callB_of 3 hts (zz_good zw_609) rfl rfl rfl hw0 hw1 (by decide +kernel) ⟨Nat.le_of_ble_eq_true rfl, Nat.le_of_ble_eq_true rfl⟩, hw2⟩ ⟨fun a U g mk q => by obtain ⟨q0, q1, qP, qK, qD⟩ := q; exact ⟨q0, q1, qP, va_K.moved (u := U) (U := U.calling g mk a) (Vm.Alike.refl U.vm) qK, qD⟩, fun U hU hW => ⟨rfl, by rw [hU], by rw [hU]; exact hPc, va_K.moved hW.alike hK, hDc.weaken (fun _ _ _ _ => trivial)⟩⟩ rfl rfl hl.1 rfl (lv_room (Nat.le_of_ble_eq_true rfl)) dX3_riderIn_11 ⟨Nat.le_of_ble_eq_true rfl, Nat.le_of_ble_eq_true rfl⟩) hS (fun q _ h => hFc q h) hFc (fun r_11 u t H1 locs ht hvm hpost hB hz1 hk1 hS => ?_)
        subst hpost
        obtain ⟨hP1, hK1, hD1⟩ := hB
        rw [ht] at hP1
        obtain ⟨hP, hD⟩ := va_join (wr := []) (w1 := [(pRow, .inl (cI, pn, .inl f_pRow))]) hP hD [0] [] rfl rfl (by decide) (by decide) hk1 hFc hP1 hD1
        generalize H1 = H at hP hS ⊢
        have hP : va_P (dC, dI) vwCl [(pRow, .inl (cI, pn, .inl f_pRow))] H := hP
        have hD : va_D A [(pRow, .inl (cI, pn, .inl f_pRow))] := hD
        refine lv_iload_n hx hb dX3_riderIn_14 rfl (lv_at hl 3 rfl) ?_
        refine lv_icmp_ne (tgt := 20) hx hb dX3_riderIn_15 (by decide) (fun c_12 => ?_) (fun c_12 => ?_)
        ·
          have c_12 : ¬ ((r_11).toInt = pP_i) := zz_eqn rfl pP_h c_12
          obtain ⟨v_13, ev_13⟩ : ∃ y : Int32, y = i3_L_6 + 1 := ⟨_, rfl⟩
          have hv_13 : v_13.toInt = ((i3_L_6).toInt + (1:Int)) := by rw [ev_13]; exact zz_addI rfl (by decide) (by omega) (by omega)
          refine lv_iinc (v := v_13) (lv' := [(3, .int v_13), (0, .ref pRow), (1, .int pF), (2, .int pP)]) hx hb dX3_riderIn_20 hl (k := 0) rfl (by rw [ev_13]; rfl) (by decide) rfl (fun ls hl => ?_)
          refine lv_goto (tgt := 2) hx hb dX3_riderIn_23 (by decide) ?_
          have hb_14_i3_L_6 : (v_13 : Int32).toInt = ((i3_L_6).toInt + (1:Int)) := hv_13
          exact ih_7 v_13 H locs ls (by omega) (by omega) (by omega) (hP.sub [0] rfl) (hD.sub [0] (by decide) rfl) hS (lv_sub hl [0, 1, 2, 3] rfl)
        ·
          have c_12 : (r_11).toInt = pP_i := zz_eq rfl pP_h c_12
          refine lv_iload_n hx hb dX3_riderIn_18 rfl (lv_at hl 0 rfl) ?_
          have hu9 : (i3_L_6 : Int32).toInt = (i3_L_6).toInt := rfl
          have hP9 := hP.sub (ws' := [(pRow, .inl (cI, pn, .inl f_pRow))]) [0] rfl
          have hD9 := hD.sub (ws' := [(pRow, .inl (cI, pn, .inl f_pRow))]) [0] (by decide) rfl
          have hf9_0 : -1 ≤ i3_L_6.toInt ∧ i3_L_6.toInt ≤ 19 := by omega
          exact W.iret (v := i3_L_6) hx hb hr (fun t ht hW => ⟨⟨i3_L_6, i3_L_6, rfl, rfl, hf9_0, by rw [ht]; exact hP9, va_K.moved hW.alike hK, hD9⟩, hS.F ht⟩) hS.2.2 dX3_riderIn_19
  have hb_15_i3_L_6 : (0 : Int32).toInt = (0:Int) := (by decide)
  exact L_6 1000 0 s.heap [] ls (by omega) (by omega) (by omega) (hP.sub [0] rfl) (hD.sub [0] (by decide) rfl) hS (lv_sub hl [0, 1, 2, 3] rfl)

set_option maxHeartbeats 8000000 in
set_option maxRecDepth 100000 in
theorem c_X3_placeOf (l : Launch) (dC : Nat → ClassId) (dI : Nat → Nat → Nat) (cI cZ : ClassId) (sz : Nat) (h0 : Nat) (pR : Int32) (pR_i : Int) (pR_h : pR.toInt = pR_i) (B_pR : 0 ≤ pR_i ∧ pR_i ≤ 19) (v_x_minute : Int32) (v_x_minute_i : Int) (v_x_minute_h : v_x_minute.toInt = v_x_minute_i) (v_x_left : Int32) (v_x_left_i : Int) (v_x_left_h : v_x_left.toInt = v_x_left_i) (v_x_primes : Int32) (v_x_primes_i : Int) (v_x_primes_h : v_x_primes.toInt = v_x_primes_i) (B_v_x_primes : 0 ≤ v_x_primes_i ∧ v_x_primes_i ≤ 5) (j_x_lot : Int64) (v_x_foremost : Int32) (v_x_foremost_i : Int) (v_x_foremost_h : v_x_foremost.toInt = v_x_foremost_i) (x_rides : Nat) (x_metres : Nat) (x_store : Nat) (x_seconds : Nat) (x_timesHeld : Nat) (x_work : Nat) (x_heldFor : Nat) (x_primeSeconds : Nat) (x_orderRows : Nat) (x_bunches : Nat) (x_values : Nat) (f_x_seconds : Nat → Int32) : Met l yX3_placeOf (Cond.code yX3_placeOf cX3_placeOf 2 (some .int) :: lw_good) ({ frames := 1, cells := 0, slots := 0, locals := 26 }) (va_Pc [.ref h0, .int pR] (fun U => U.heap.size = sz ∧ va_P (dC, dI) vwCl [(h0, .inr (3, [.int v_x_minute, .int v_x_left, .int v_x_primes, .long j_x_lot, .int v_x_foremost, .ref x_rides, .ref x_metres, .ref x_store, .ref x_seconds, .ref x_timesHeld, .ref x_work, .ref x_heldFor, .ref x_primeSeconds, .ref x_orderRows, .ref x_bunches, .ref x_values])), (x_seconds, .inl (cI, 20, .inl f_x_seconds))] U.heap ∧ va_K (dC, dI) vwCl [(cI, .int), (cZ, .boolean)] U ∧ va_D (fun _ => True) [(h0, .inr (3, [.int v_x_minute, .int v_x_left, .int v_x_primes, .long j_x_lot, .int v_x_foremost, .ref x_rides, .ref x_metres, .ref x_store, .ref x_seconds, .ref x_timesHeld, .ref x_work, .ref x_heldFor, .ref x_primeSeconds, .ref x_orderRows, .ref x_bunches, .ref x_values])), (x_seconds, .inl (cI, 20, .inl f_x_seconds))])) (va_Qi (fun (r u : Int32) => r = u) (fun u t => va_P (dC, dI) vwCl [(h0, .inr (3, [.int v_x_minute, .int v_x_left, .int v_x_primes, .long j_x_lot, .int v_x_foremost, .ref x_rides, .ref x_metres, .ref x_store, .ref x_seconds, .ref x_timesHeld, .ref x_work, .ref x_heldFor, .ref x_primeSeconds, .ref x_orderRows, .ref x_bunches, .ref x_values])), (x_seconds, .inl (cI, 20, .inl f_x_seconds))] t.heap ∧ va_K (dC, dI) vwCl [(cI, .int), (cZ, .boolean)] t ∧ va_D (va_A [(h0, .inr (3, [.int v_x_minute, .int v_x_left, .int v_x_primes, .long j_x_lot, .int v_x_foremost, .ref x_rides, .ref x_metres, .ref x_store, .ref x_seconds, .ref x_timesHeld, .ref x_work, .ref x_heldFor, .ref x_primeSeconds, .ref x_orderRows, .ref x_bunches, .ref x_values])), (x_seconds, .inl (cI, 20, .inl f_x_seconds))] sz) [(h0, .inr (3, [.int v_x_minute, .int v_x_left, .int v_x_primes, .long j_x_lot, .int v_x_foremost, .ref x_rides, .ref x_metres, .ref x_store, .ref x_seconds, .ref x_timesHeld, .ref x_work, .ref x_heldFor, .ref x_primeSeconds, .ref x_orderRows, .ref x_bunches, .ref x_values])), (x_seconds, .inl (cI, 20, .inl f_x_seconds))]) (va_A [(h0, .inr (3, [.int v_x_minute, .int v_x_left, .int v_x_primes, .long j_x_lot, .int v_x_foremost, .ref x_rides, .ref x_metres, .ref x_store, .ref x_seconds, .ref x_timesHeld, .ref x_work, .ref x_heldFor, .ref x_primeSeconds, .ref x_orderRows, .ref x_bunches, .ref x_values])), (x_seconds, .inl (cI, 20, .inl f_x_seconds))] sz)) 0 0 (va_A [(h0, .inr (3, [.int v_x_minute, .int v_x_left, .int v_x_primes, .long j_x_lot, .int v_x_foremost, .ref x_rides, .ref x_metres, .ref x_store, .ref x_seconds, .ref x_timesHeld, .ref x_work, .ref x_heldFor, .ref x_primeSeconds, .ref x_orderRows, .ref x_bunches, .ref x_values])), (x_seconds, .inl (cI, 20, .inl f_x_seconds))] sz) := by
  refine Met.ofW (cc := cX3_placeOf) (maxL := 2) (ret := (some .int)) (by decide) rfl ?_
  intro p e s m args below meth c s₁ B hml hv
  obtain ⟨rfl, hsz, hP, hK, hD0⟩ := hv
  have hx := B.exec
  have hb := B.bytes
  have hr := B.returns
  have hts := atoms_spec (ws := Cond.code yX3_placeOf cX3_placeOf 2 (some .int) :: lw_good) B.pre
  have hown : s.vm.findClass RX3 = some m.cls := findClass_of_methodNamed B.named
  have hlocks := B.notSynchronized
  have hiX3 : ∀ w ∈ wsX30, w ∈ (Cond.code yX3_placeOf cX3_placeOf 2 (some .int) :: lw_good) := fun w h => List.mem_cons_of_mem _ (zi_X3 w h)
  have hw0 := hts (.fieldLink RX3 39 "BunchRace$Race" "seconds" "[I") (List.mem_cons_of_mem _ zw_245)
  have hw1 := hts (.initialized RX3) (List.mem_cons_of_mem _ zw_54)
  have hw2 := hts (.methodLink RX3 188 yX3_placeIn) (List.mem_cons_of_mem _ zw_607)
  have hw3 := hts (.static yX3_placeIn) (List.mem_cons_of_mem _ zw_608)
  subst hsz
  have hD := hD0.self (sz := s.heap.size)
  generalize hAe : va_A [(h0, .inr (3, [.int v_x_minute, .int v_x_left, .int v_x_primes, .long j_x_lot, .int v_x_foremost, .ref x_rides, .ref x_metres, .ref x_store, .ref x_seconds, .ref x_timesHeld, .ref x_work, .ref x_heldFor, .ref x_primeSeconds, .ref x_orderRows, .ref x_bunches, .ref x_values])), (x_seconds, .inl (cI, 20, .inl f_x_seconds))] s.heap.size = A at hD ⊢
  have hA : ∀ q : Nat, s.heap.size ≤ q → A q := fun q h => by rw [← hAe]; exact Or.inr h
  have hS : va_S A s.heap s.heap [] := va_S.rf
  have hP : va_P (dC, dI) vwCl [(h0, .inr (3, [.int v_x_minute, .int v_x_left, .int v_x_primes, .long j_x_lot, .int v_x_foremost, .ref x_rides, .ref x_metres, .ref x_store, .ref x_seconds, .ref x_timesHeld, .ref x_work, .ref x_heldFor, .ref x_primeSeconds, .ref x_orderRows, .ref x_bunches, .ref x_values])), (x_seconds, .inl (cI, 20, .inl f_x_seconds))] s.heap := hP
  have hl := lv_entry ([.ref h0, .int pR]) (n := 2) (Nat.le_of_ble_eq_true rfl)
  rw [lg_entry_eq]
  generalize (lg_sl ([.ref h0, .int pR]) ++ List.replicate (2 - (lg_sl ([.ref h0, .int pR])).length) Slot.unset).toArray = ls at hl ⊢
  have hl : lv_has ls 2 [(0, .ref h0), (1, .int pR)] := hl
  refine lv_aload_n hx hb dX3_placeOf_0 rfl (lv_at hl 0 rfl) ?_
  refine va_get (D := (dC, dI)) (ci := 3) (v := .ref x_seconds) (C := RX3) (T := TX3) (N := 16) hx hb hts hiX3 hown hK hP 0 rfl rfl 8 (by decide) hw0 (fun _ h9 => h9) rfl dX3_placeOf_1 ?_
  refine lv_iconst (v := 0) hx hb dX3_placeOf_4 (by decide) ?_
  refine lv_iload_n hx hb dX3_placeOf_5 rfl (lv_at hl 1 rfl) ?_
  have hPc := hP.sub (ws' := [(x_seconds, .inl (cI, 20, .inl f_x_seconds))]) [1] rfl
  have hDc := hD.sub (ws' := [(x_seconds, .inl (cI, 20, .inl f_x_seconds))]) [1] (by decide) rfl
  have hFc := va_free (wc := [(x_seconds, .inl (cI, 20, .inl f_x_seconds))]) hD hS hA [1] rfl
  refine va_calli (va_runS (As := [.ref x_seconds, .int 0, .int pR]) (rest := []) ⟨hx, hb, hml, hown, hts⟩ (c_X3_placeIn l dC dI cI cZ (s.heap).size x_seconds 0 (0:Int) (by decide) (by omega) pR pR_i pR_h (by omega) 20 f_x_seconds (by omega)) ⟨callB_of 3 hts (zz_good zw_609) rfl rfl rfl hw1 hw2 (by decide +kernel) ⟨Nat.le_of_ble_eq_true rfl, Nat.le_of_ble_eq_true rfl⟩, hw3⟩ ⟨fun a U g mk q => by obtain ⟨q0, q1, qP, qK, qD⟩ := q; exact ⟨q0, q1, qP, va_K.moved (u := U) (U := U.calling g mk a) (Vm.Alike.refl U.vm) qK, qD⟩, fun U hU hW => ⟨rfl, by rw [hU], by rw [hU]; exact hPc, va_K.moved hW.alike hK, hDc.weaken (fun _ _ _ _ => trivial)⟩⟩ rfl rfl hl.1 rfl (lv_room (Nat.le_of_ble_eq_true rfl)) dX3_placeOf_6 ⟨Nat.le_of_ble_eq_true rfl, Nat.le_of_ble_eq_true rfl⟩) hS (fun q _ h => hFc q h) hFc (fun r_1 u t H1 locs ht hvm hpost hB hz1 hk1 hS => ?_)
  subst hpost
  obtain ⟨hP1, hK1, hD1⟩ := hB
  rw [ht] at hP1
  obtain ⟨hP, hD⟩ := va_join (wr := [(h0, .inr (3, [.int v_x_minute, .int v_x_left, .int v_x_primes, .long j_x_lot, .int v_x_foremost, .ref x_rides, .ref x_metres, .ref x_store, .ref x_seconds, .ref x_timesHeld, .ref x_work, .ref x_heldFor, .ref x_primeSeconds, .ref x_orderRows, .ref x_bunches, .ref x_values]))]) (w1 := [(x_seconds, .inl (cI, 20, .inl f_x_seconds))]) hP hD [1] [0] rfl rfl (by decide) (by decide) hk1 hFc hP1 hD1
  generalize H1 = H at hP hS ⊢
  have hP : va_P (dC, dI) vwCl [(h0, .inr (3, [.int v_x_minute, .int v_x_left, .int v_x_primes, .long j_x_lot, .int v_x_foremost, .ref x_rides, .ref x_metres, .ref x_store, .ref x_seconds, .ref x_timesHeld, .ref x_work, .ref x_heldFor, .ref x_primeSeconds, .ref x_orderRows, .ref x_bunches, .ref x_values])), (x_seconds, .inl (cI, 20, .inl f_x_seconds))] H := hP
  have hD : va_D A [(h0, .inr (3, [.int v_x_minute, .int v_x_left, .int v_x_primes, .long j_x_lot, .int v_x_foremost, .ref x_rides, .ref x_metres, .ref x_store, .ref x_seconds, .ref x_timesHeld, .ref x_work, .ref x_heldFor, .ref x_primeSeconds, .ref x_orderRows, .ref x_bunches, .ref x_values])), (x_seconds, .inl (cI, 20, .inl f_x_seconds))] := hD
  have hu9 : (r_1 : Int32).toInt = (r_1).toInt := rfl
  have hP9 := hP.sub (ws' := [(h0, .inr (3, [.int v_x_minute, .int v_x_left, .int v_x_primes, .long j_x_lot, .int v_x_foremost, .ref x_rides, .ref x_metres, .ref x_store, .ref x_seconds, .ref x_timesHeld, .ref x_work, .ref x_heldFor, .ref x_primeSeconds, .ref x_orderRows, .ref x_bunches, .ref x_values])), (x_seconds, .inl (cI, 20, .inl f_x_seconds))]) [0, 1] rfl
  have hD9 := hD.sub (ws' := [(h0, .inr (3, [.int v_x_minute, .int v_x_left, .int v_x_primes, .long j_x_lot, .int v_x_foremost, .ref x_rides, .ref x_metres, .ref x_store, .ref x_seconds, .ref x_timesHeld, .ref x_work, .ref x_heldFor, .ref x_primeSeconds, .ref x_orderRows, .ref x_bunches, .ref x_values])), (x_seconds, .inl (cI, 20, .inl f_x_seconds))]) [0, 1] (by decide) rfl
  exact W.iret (v := r_1) hx hb hr (fun t ht hW => ⟨⟨r_1, r_1, rfl, rfl, by rw [ht]; exact hP9, va_K.moved hW.alike hK, hD9⟩, hS.F ht⟩) hS.2.2 dX3_placeOf_9

set_option maxHeartbeats 8000000 in
set_option maxRecDepth 100000 in
theorem c_X3_riderAt (l : Launch) (dC : Nat → ClassId) (dI : Nat → Nat → Nat) (cI cZ : ClassId) (sz : Nat) (h0 : Nat) (pP : Int32) (pP_i : Int) (pP_h : pP.toInt = pP_i) (v_x_minute : Int32) (v_x_minute_i : Int) (v_x_minute_h : v_x_minute.toInt = v_x_minute_i) (v_x_left : Int32) (v_x_left_i : Int) (v_x_left_h : v_x_left.toInt = v_x_left_i) (v_x_primes : Int32) (v_x_primes_i : Int) (v_x_primes_h : v_x_primes.toInt = v_x_primes_i) (B_v_x_primes : 0 ≤ v_x_primes_i ∧ v_x_primes_i ≤ 5) (j_x_lot : Int64) (v_x_foremost : Int32) (v_x_foremost_i : Int) (v_x_foremost_h : v_x_foremost.toInt = v_x_foremost_i) (x_rides : Nat) (x_metres : Nat) (x_store : Nat) (x_seconds : Nat) (x_timesHeld : Nat) (x_work : Nat) (x_heldFor : Nat) (x_primeSeconds : Nat) (x_orderRows : Nat) (x_bunches : Nat) (x_values : Nat) (f_x_seconds : Nat → Int32) : Met l yX3_riderAt (Cond.code yX3_riderAt cX3_riderAt 2 (some .int) :: lw_good) ({ frames := 2, cells := 0, slots := 0, locals := 49 }) (va_Pc [.ref h0, .int pP] (fun U => U.heap.size = sz ∧ va_P (dC, dI) vwCl [(h0, .inr (3, [.int v_x_minute, .int v_x_left, .int v_x_primes, .long j_x_lot, .int v_x_foremost, .ref x_rides, .ref x_metres, .ref x_store, .ref x_seconds, .ref x_timesHeld, .ref x_work, .ref x_heldFor, .ref x_primeSeconds, .ref x_orderRows, .ref x_bunches, .ref x_values])), (x_seconds, .inl (cI, 20, .inl f_x_seconds))] U.heap ∧ va_K (dC, dI) vwCl [(cI, .int), (cZ, .boolean)] U ∧ va_D (fun _ => True) [(h0, .inr (3, [.int v_x_minute, .int v_x_left, .int v_x_primes, .long j_x_lot, .int v_x_foremost, .ref x_rides, .ref x_metres, .ref x_store, .ref x_seconds, .ref x_timesHeld, .ref x_work, .ref x_heldFor, .ref x_primeSeconds, .ref x_orderRows, .ref x_bunches, .ref x_values])), (x_seconds, .inl (cI, 20, .inl f_x_seconds))])) (va_Qi (fun (r u : Int32) => r = u) (fun u t => (-1 ≤ u.toInt ∧ u.toInt ≤ 19) ∧ va_P (dC, dI) vwCl [(h0, .inr (3, [.int v_x_minute, .int v_x_left, .int v_x_primes, .long j_x_lot, .int v_x_foremost, .ref x_rides, .ref x_metres, .ref x_store, .ref x_seconds, .ref x_timesHeld, .ref x_work, .ref x_heldFor, .ref x_primeSeconds, .ref x_orderRows, .ref x_bunches, .ref x_values])), (x_seconds, .inl (cI, 20, .inl f_x_seconds))] t.heap ∧ va_K (dC, dI) vwCl [(cI, .int), (cZ, .boolean)] t ∧ va_D (va_A [(h0, .inr (3, [.int v_x_minute, .int v_x_left, .int v_x_primes, .long j_x_lot, .int v_x_foremost, .ref x_rides, .ref x_metres, .ref x_store, .ref x_seconds, .ref x_timesHeld, .ref x_work, .ref x_heldFor, .ref x_primeSeconds, .ref x_orderRows, .ref x_bunches, .ref x_values])), (x_seconds, .inl (cI, 20, .inl f_x_seconds))] sz) [(h0, .inr (3, [.int v_x_minute, .int v_x_left, .int v_x_primes, .long j_x_lot, .int v_x_foremost, .ref x_rides, .ref x_metres, .ref x_store, .ref x_seconds, .ref x_timesHeld, .ref x_work, .ref x_heldFor, .ref x_primeSeconds, .ref x_orderRows, .ref x_bunches, .ref x_values])), (x_seconds, .inl (cI, 20, .inl f_x_seconds))]) (va_A [(h0, .inr (3, [.int v_x_minute, .int v_x_left, .int v_x_primes, .long j_x_lot, .int v_x_foremost, .ref x_rides, .ref x_metres, .ref x_store, .ref x_seconds, .ref x_timesHeld, .ref x_work, .ref x_heldFor, .ref x_primeSeconds, .ref x_orderRows, .ref x_bunches, .ref x_values])), (x_seconds, .inl (cI, 20, .inl f_x_seconds))] sz)) 0 0 (va_A [(h0, .inr (3, [.int v_x_minute, .int v_x_left, .int v_x_primes, .long j_x_lot, .int v_x_foremost, .ref x_rides, .ref x_metres, .ref x_store, .ref x_seconds, .ref x_timesHeld, .ref x_work, .ref x_heldFor, .ref x_primeSeconds, .ref x_orderRows, .ref x_bunches, .ref x_values])), (x_seconds, .inl (cI, 20, .inl f_x_seconds))] sz) := by
  refine Met.ofW (cc := cX3_riderAt) (maxL := 2) (ret := (some .int)) (by decide) rfl ?_
  intro p e s m args below meth c s₁ B hml hv
  obtain ⟨rfl, hsz, hP, hK, hD0⟩ := hv
  have hx := B.exec
  have hb := B.bytes
  have hr := B.returns
  have hts := atoms_spec (ws := Cond.code yX3_riderAt cX3_riderAt 2 (some .int) :: lw_good) B.pre
  have hown : s.vm.findClass RX3 = some m.cls := findClass_of_methodNamed B.named
  have hlocks := B.notSynchronized
  have hiX3 : ∀ w ∈ wsX30, w ∈ (Cond.code yX3_riderAt cX3_riderAt 2 (some .int) :: lw_good) := fun w h => List.mem_cons_of_mem _ (zi_X3 w h)
  have hw0 := hts (.fieldLink RX3 39 "BunchRace$Race" "seconds" "[I") (List.mem_cons_of_mem _ zw_245)
  have hw1 := hts (.initialized RX3) (List.mem_cons_of_mem _ zw_54)
  have hw2 := hts (.methodLink RX3 192 yX3_riderIn) (List.mem_cons_of_mem _ zw_622)
  have hw3 := hts (.static yX3_riderIn) (List.mem_cons_of_mem _ zw_623)
  subst hsz
  have hD := hD0.self (sz := s.heap.size)
  generalize hAe : va_A [(h0, .inr (3, [.int v_x_minute, .int v_x_left, .int v_x_primes, .long j_x_lot, .int v_x_foremost, .ref x_rides, .ref x_metres, .ref x_store, .ref x_seconds, .ref x_timesHeld, .ref x_work, .ref x_heldFor, .ref x_primeSeconds, .ref x_orderRows, .ref x_bunches, .ref x_values])), (x_seconds, .inl (cI, 20, .inl f_x_seconds))] s.heap.size = A at hD ⊢
  have hA : ∀ q : Nat, s.heap.size ≤ q → A q := fun q h => by rw [← hAe]; exact Or.inr h
  have hS : va_S A s.heap s.heap [] := va_S.rf
  have hP : va_P (dC, dI) vwCl [(h0, .inr (3, [.int v_x_minute, .int v_x_left, .int v_x_primes, .long j_x_lot, .int v_x_foremost, .ref x_rides, .ref x_metres, .ref x_store, .ref x_seconds, .ref x_timesHeld, .ref x_work, .ref x_heldFor, .ref x_primeSeconds, .ref x_orderRows, .ref x_bunches, .ref x_values])), (x_seconds, .inl (cI, 20, .inl f_x_seconds))] s.heap := hP
  have hl := lv_entry ([.ref h0, .int pP]) (n := 2) (Nat.le_of_ble_eq_true rfl)
  rw [lg_entry_eq]
  generalize (lg_sl ([.ref h0, .int pP]) ++ List.replicate (2 - (lg_sl ([.ref h0, .int pP])).length) Slot.unset).toArray = ls at hl ⊢
  have hl : lv_has ls 2 [(0, .ref h0), (1, .int pP)] := hl
  refine lv_aload_n hx hb dX3_riderAt_0 rfl (lv_at hl 0 rfl) ?_
  refine va_get (D := (dC, dI)) (ci := 3) (v := .ref x_seconds) (C := RX3) (T := TX3) (N := 16) hx hb hts hiX3 hown hK hP 0 rfl rfl 8 (by decide) hw0 (fun _ h9 => h9) rfl dX3_riderAt_1 ?_
  refine lv_iconst (v := 0) hx hb dX3_riderAt_4 (by decide) ?_
  refine lv_iload_n hx hb dX3_riderAt_5 rfl (lv_at hl 1 rfl) ?_
  have hPc := hP.sub (ws' := [(x_seconds, .inl (cI, 20, .inl f_x_seconds))]) [1] rfl
  have hDc := hD.sub (ws' := [(x_seconds, .inl (cI, 20, .inl f_x_seconds))]) [1] (by decide) rfl
  have hFc := va_free (wc := [(x_seconds, .inl (cI, 20, .inl f_x_seconds))]) hD hS hA [1] rfl
  refine va_calli (va_runS (As := [.ref x_seconds, .int 0, .int pP]) (rest := []) ⟨hx, hb, hml, hown, hts⟩ (c_X3_riderIn l dC dI cI cZ (s.heap).size x_seconds 0 (0:Int) (by decide) (by omega) pP pP_i pP_h 20 f_x_seconds (by omega)) ⟨callB_of 3 hts (zz_good zw_624) rfl rfl rfl hw1 hw2 (by decide +kernel) ⟨Nat.le_of_ble_eq_true rfl, Nat.le_of_ble_eq_true rfl⟩, hw3⟩ ⟨fun a U g mk q => by obtain ⟨q0, q1, qP, qK, qD⟩ := q; exact ⟨q0, q1, qP, va_K.moved (u := U) (U := U.calling g mk a) (Vm.Alike.refl U.vm) qK, qD⟩, fun U hU hW => ⟨rfl, by rw [hU], by rw [hU]; exact hPc, va_K.moved hW.alike hK, hDc.weaken (fun _ _ _ _ => trivial)⟩⟩ rfl rfl hl.1 rfl (lv_room (Nat.le_of_ble_eq_true rfl)) dX3_riderAt_6 ⟨Nat.le_of_ble_eq_true rfl, Nat.le_of_ble_eq_true rfl⟩) hS (fun q _ h => hFc q h) hFc (fun r_1 u t H1 locs ht hvm hpost hB hz1 hk1 hS => ?_)
  subst hpost
  obtain ⟨hf_2, hP1, hK1, hD1⟩ := hB
  rw [ht] at hP1
  obtain ⟨hP, hD⟩ := va_join (wr := [(h0, .inr (3, [.int v_x_minute, .int v_x_left, .int v_x_primes, .long j_x_lot, .int v_x_foremost, .ref x_rides, .ref x_metres, .ref x_store, .ref x_seconds, .ref x_timesHeld, .ref x_work, .ref x_heldFor, .ref x_primeSeconds, .ref x_orderRows, .ref x_bunches, .ref x_values]))]) (w1 := [(x_seconds, .inl (cI, 20, .inl f_x_seconds))]) hP hD [1] [0] rfl rfl (by decide) (by decide) hk1 hFc hP1 hD1
  generalize H1 = H at hP hS ⊢
  have hP : va_P (dC, dI) vwCl [(h0, .inr (3, [.int v_x_minute, .int v_x_left, .int v_x_primes, .long j_x_lot, .int v_x_foremost, .ref x_rides, .ref x_metres, .ref x_store, .ref x_seconds, .ref x_timesHeld, .ref x_work, .ref x_heldFor, .ref x_primeSeconds, .ref x_orderRows, .ref x_bunches, .ref x_values])), (x_seconds, .inl (cI, 20, .inl f_x_seconds))] H := hP
  have hD : va_D A [(h0, .inr (3, [.int v_x_minute, .int v_x_left, .int v_x_primes, .long j_x_lot, .int v_x_foremost, .ref x_rides, .ref x_metres, .ref x_store, .ref x_seconds, .ref x_timesHeld, .ref x_work, .ref x_heldFor, .ref x_primeSeconds, .ref x_orderRows, .ref x_bunches, .ref x_values])), (x_seconds, .inl (cI, 20, .inl f_x_seconds))] := hD
  have hf_2 : -1 ≤ r_1.toInt ∧ r_1.toInt ≤ 19 := hf_2
  have hu9 : (r_1 : Int32).toInt = (r_1).toInt := rfl
  have hP9 := hP.sub (ws' := [(h0, .inr (3, [.int v_x_minute, .int v_x_left, .int v_x_primes, .long j_x_lot, .int v_x_foremost, .ref x_rides, .ref x_metres, .ref x_store, .ref x_seconds, .ref x_timesHeld, .ref x_work, .ref x_heldFor, .ref x_primeSeconds, .ref x_orderRows, .ref x_bunches, .ref x_values])), (x_seconds, .inl (cI, 20, .inl f_x_seconds))]) [0, 1] rfl
  have hD9 := hD.sub (ws' := [(h0, .inr (3, [.int v_x_minute, .int v_x_left, .int v_x_primes, .long j_x_lot, .int v_x_foremost, .ref x_rides, .ref x_metres, .ref x_store, .ref x_seconds, .ref x_timesHeld, .ref x_work, .ref x_heldFor, .ref x_primeSeconds, .ref x_orderRows, .ref x_bunches, .ref x_values])), (x_seconds, .inl (cI, 20, .inl f_x_seconds))]) [0, 1] (by decide) rfl
  have hf9_0 : -1 ≤ r_1.toInt ∧ r_1.toInt ≤ 19 := by omega
  exact W.iret (v := r_1) hx hb hr (fun t ht hW => ⟨⟨r_1, r_1, rfl, rfl, hf9_0, by rw [ht]; exact hP9, va_K.moved hW.alike hK, hD9⟩, hS.F ht⟩) hS.2.2 dX3_riderAt_9

set_option maxHeartbeats 8000000 in
set_option maxRecDepth 100000 in
theorem c_X3_riderAtPrime (l : Launch) (dC : Nat → ClassId) (dI : Nat → Nat → Nat) (cI cZ : ClassId) (sz : Nat) (h0 : Nat) (pK : Int32) (pK_i : Int) (pK_h : pK.toInt = pK_i) (B_pK : 0 ≤ pK_i ∧ pK_i ≤ 4) (pP : Int32) (pP_i : Int) (pP_h : pP.toInt = pP_i) (v_x_minute : Int32) (v_x_minute_i : Int) (v_x_minute_h : v_x_minute.toInt = v_x_minute_i) (v_x_left : Int32) (v_x_left_i : Int) (v_x_left_h : v_x_left.toInt = v_x_left_i) (v_x_primes : Int32) (v_x_primes_i : Int) (v_x_primes_h : v_x_primes.toInt = v_x_primes_i) (B_v_x_primes : 0 ≤ v_x_primes_i ∧ v_x_primes_i ≤ 5) (j_x_lot : Int64) (v_x_foremost : Int32) (v_x_foremost_i : Int) (v_x_foremost_h : v_x_foremost.toInt = v_x_foremost_i) (x_rides : Nat) (x_metres : Nat) (x_store : Nat) (x_seconds : Nat) (x_timesHeld : Nat) (x_work : Nat) (x_heldFor : Nat) (x_primeSeconds : Nat) (x_orderRows : Nat) (x_bunches : Nat) (x_values : Nat) (f_x_primeSeconds : Nat → Int32) : Met l yX3_riderAtPrime (Cond.code yX3_riderAtPrime cX3_riderAtPrime 3 (some .int) :: lw_good) ({ frames := 2, cells := 0, slots := 0, locals := 49 }) (va_Pc [.ref h0, .int pK, .int pP] (fun U => U.heap.size = sz ∧ va_P (dC, dI) vwCl [(h0, .inr (3, [.int v_x_minute, .int v_x_left, .int v_x_primes, .long j_x_lot, .int v_x_foremost, .ref x_rides, .ref x_metres, .ref x_store, .ref x_seconds, .ref x_timesHeld, .ref x_work, .ref x_heldFor, .ref x_primeSeconds, .ref x_orderRows, .ref x_bunches, .ref x_values])), (x_primeSeconds, .inl (cI, 100, .inl f_x_primeSeconds))] U.heap ∧ va_K (dC, dI) vwCl [(cI, .int), (cZ, .boolean)] U ∧ va_D (fun _ => True) [(h0, .inr (3, [.int v_x_minute, .int v_x_left, .int v_x_primes, .long j_x_lot, .int v_x_foremost, .ref x_rides, .ref x_metres, .ref x_store, .ref x_seconds, .ref x_timesHeld, .ref x_work, .ref x_heldFor, .ref x_primeSeconds, .ref x_orderRows, .ref x_bunches, .ref x_values])), (x_primeSeconds, .inl (cI, 100, .inl f_x_primeSeconds))])) (va_Qi (fun (r u : Int32) => r = u) (fun u t => (-1 ≤ u.toInt ∧ u.toInt ≤ 19) ∧ va_P (dC, dI) vwCl [(h0, .inr (3, [.int v_x_minute, .int v_x_left, .int v_x_primes, .long j_x_lot, .int v_x_foremost, .ref x_rides, .ref x_metres, .ref x_store, .ref x_seconds, .ref x_timesHeld, .ref x_work, .ref x_heldFor, .ref x_primeSeconds, .ref x_orderRows, .ref x_bunches, .ref x_values])), (x_primeSeconds, .inl (cI, 100, .inl f_x_primeSeconds))] t.heap ∧ va_K (dC, dI) vwCl [(cI, .int), (cZ, .boolean)] t ∧ va_D (va_A [(h0, .inr (3, [.int v_x_minute, .int v_x_left, .int v_x_primes, .long j_x_lot, .int v_x_foremost, .ref x_rides, .ref x_metres, .ref x_store, .ref x_seconds, .ref x_timesHeld, .ref x_work, .ref x_heldFor, .ref x_primeSeconds, .ref x_orderRows, .ref x_bunches, .ref x_values])), (x_primeSeconds, .inl (cI, 100, .inl f_x_primeSeconds))] sz) [(h0, .inr (3, [.int v_x_minute, .int v_x_left, .int v_x_primes, .long j_x_lot, .int v_x_foremost, .ref x_rides, .ref x_metres, .ref x_store, .ref x_seconds, .ref x_timesHeld, .ref x_work, .ref x_heldFor, .ref x_primeSeconds, .ref x_orderRows, .ref x_bunches, .ref x_values])), (x_primeSeconds, .inl (cI, 100, .inl f_x_primeSeconds))]) (va_A [(h0, .inr (3, [.int v_x_minute, .int v_x_left, .int v_x_primes, .long j_x_lot, .int v_x_foremost, .ref x_rides, .ref x_metres, .ref x_store, .ref x_seconds, .ref x_timesHeld, .ref x_work, .ref x_heldFor, .ref x_primeSeconds, .ref x_orderRows, .ref x_bunches, .ref x_values])), (x_primeSeconds, .inl (cI, 100, .inl f_x_primeSeconds))] sz)) 0 0 (va_A [(h0, .inr (3, [.int v_x_minute, .int v_x_left, .int v_x_primes, .long j_x_lot, .int v_x_foremost, .ref x_rides, .ref x_metres, .ref x_store, .ref x_seconds, .ref x_timesHeld, .ref x_work, .ref x_heldFor, .ref x_primeSeconds, .ref x_orderRows, .ref x_bunches, .ref x_values])), (x_primeSeconds, .inl (cI, 100, .inl f_x_primeSeconds))] sz) := by
  refine Met.ofW (cc := cX3_riderAtPrime) (maxL := 3) (ret := (some .int)) (by decide) rfl ?_
  intro p e s m args below meth c s₁ B hml hv
  obtain ⟨rfl, hsz, hP, hK, hD0⟩ := hv
  have hx := B.exec
  have hb := B.bytes
  have hr := B.returns
  have hts := atoms_spec (ws := Cond.code yX3_riderAtPrime cX3_riderAtPrime 3 (some .int) :: lw_good) B.pre
  have hown : s.vm.findClass RX3 = some m.cls := findClass_of_methodNamed B.named
  have hlocks := B.notSynchronized
  have hiX3 : ∀ w ∈ wsX30, w ∈ (Cond.code yX3_riderAtPrime cX3_riderAtPrime 3 (some .int) :: lw_good) := fun w h => List.mem_cons_of_mem _ (zi_X3 w h)
  have hw0 := hts (.fieldLink RX3 51 "BunchRace$Race" "primeSeconds" "[I") (List.mem_cons_of_mem _ zw_253)
  have hw1 := hts (.initialized RX3) (List.mem_cons_of_mem _ zw_54)
  have hw2 := hts (.methodLink RX3 192 yX3_riderIn) (List.mem_cons_of_mem _ zw_622)
  have hw3 := hts (.static yX3_riderIn) (List.mem_cons_of_mem _ zw_623)
  subst hsz
  have hD := hD0.self (sz := s.heap.size)
  generalize hAe : va_A [(h0, .inr (3, [.int v_x_minute, .int v_x_left, .int v_x_primes, .long j_x_lot, .int v_x_foremost, .ref x_rides, .ref x_metres, .ref x_store, .ref x_seconds, .ref x_timesHeld, .ref x_work, .ref x_heldFor, .ref x_primeSeconds, .ref x_orderRows, .ref x_bunches, .ref x_values])), (x_primeSeconds, .inl (cI, 100, .inl f_x_primeSeconds))] s.heap.size = A at hD ⊢
  have hA : ∀ q : Nat, s.heap.size ≤ q → A q := fun q h => by rw [← hAe]; exact Or.inr h
  have hS : va_S A s.heap s.heap [] := va_S.rf
  have hP : va_P (dC, dI) vwCl [(h0, .inr (3, [.int v_x_minute, .int v_x_left, .int v_x_primes, .long j_x_lot, .int v_x_foremost, .ref x_rides, .ref x_metres, .ref x_store, .ref x_seconds, .ref x_timesHeld, .ref x_work, .ref x_heldFor, .ref x_primeSeconds, .ref x_orderRows, .ref x_bunches, .ref x_values])), (x_primeSeconds, .inl (cI, 100, .inl f_x_primeSeconds))] s.heap := hP
  have hl := lv_entry ([.ref h0, .int pK, .int pP]) (n := 3) (Nat.le_of_ble_eq_true rfl)
  rw [lg_entry_eq]
  generalize (lg_sl ([.ref h0, .int pK, .int pP]) ++ List.replicate (3 - (lg_sl ([.ref h0, .int pK, .int pP])).length) Slot.unset).toArray = ls at hl ⊢
  have hl : lv_has ls 3 [(0, .ref h0), (1, .int pK), (2, .int pP)] := hl
  refine lv_aload_n hx hb dX3_riderAtPrime_0 rfl (lv_at hl 0 rfl) ?_
  refine va_get (D := (dC, dI)) (ci := 3) (v := .ref x_primeSeconds) (C := RX3) (T := TX3) (N := 16) hx hb hts hiX3 hown hK hP 0 rfl rfl 12 (by decide) hw0 (fun _ h9 => h9) rfl dX3_riderAtPrime_1 ?_
  refine lv_iload_n hx hb dX3_riderAtPrime_4 rfl (lv_at hl 1 rfl) ?_
  refine lv_bipush (v := 20) hx hb dX3_riderAtPrime_5 (by decide) ?_
  refine lv_imul hx hb dX3_riderAtPrime_7 ?_
  refine lv_topi (fun v_1 ev_1 => ?_)
  have hv_1 : v_1.toInt = (pK_i * (20:Int)) := by rw [ev_1]; exact zz_mulI pK_h (by decide) (by omega) (by omega)
  refine lv_iload_n hx hb dX3_riderAtPrime_8 rfl (lv_at hl 2 rfl) ?_
  have hPc := hP.sub (ws' := [(x_primeSeconds, .inl (cI, 100, .inl f_x_primeSeconds))]) [1] rfl
  have hDc := hD.sub (ws' := [(x_primeSeconds, .inl (cI, 100, .inl f_x_primeSeconds))]) [1] (by decide) rfl
  have hFc := va_free (wc := [(x_primeSeconds, .inl (cI, 100, .inl f_x_primeSeconds))]) hD hS hA [1] rfl
  refine va_calli (va_runS (As := [.ref x_primeSeconds, .int v_1, .int pP]) (rest := []) ⟨hx, hb, hml, hown, hts⟩ (c_X3_riderIn l dC dI cI cZ (s.heap).size x_primeSeconds v_1 (pK_i * (20:Int)) hv_1 (by omega) pP pP_i pP_h 100 f_x_primeSeconds (by omega)) ⟨callB_of 3 hts (zz_good zw_624) rfl rfl rfl hw1 hw2 (by decide +kernel) ⟨Nat.le_of_ble_eq_true rfl, Nat.le_of_ble_eq_true rfl⟩, hw3⟩ ⟨fun a U g mk q => by obtain ⟨q0, q1, qP, qK, qD⟩ := q; exact ⟨q0, q1, qP, va_K.moved (u := U) (U := U.calling g mk a) (Vm.Alike.refl U.vm) qK, qD⟩, fun U hU hW => ⟨rfl, by rw [hU], by rw [hU]; exact hPc, va_K.moved hW.alike hK, hDc.weaken (fun _ _ _ _ => trivial)⟩⟩ rfl rfl hl.1 rfl (lv_room (Nat.le_of_ble_eq_true rfl)) dX3_riderAtPrime_9 ⟨Nat.le_of_ble_eq_true rfl, Nat.le_of_ble_eq_true rfl⟩) hS (fun q _ h => hFc q h) hFc (fun r_2 u t H1 locs ht hvm hpost hB hz1 hk1 hS => ?_)
  subst hpost
  obtain ⟨hf_3, hP1, hK1, hD1⟩ := hB
  rw [ht] at hP1
  obtain ⟨hP, hD⟩ := va_join (wr := [(h0, .inr (3, [.int v_x_minute, .int v_x_left, .int v_x_primes, .long j_x_lot, .int v_x_foremost, .ref x_rides, .ref x_metres, .ref x_store, .ref x_seconds, .ref x_timesHeld, .ref x_work, .ref x_heldFor, .ref x_primeSeconds, .ref x_orderRows, .ref x_bunches, .ref x_values]))]) (w1 := [(x_primeSeconds, .inl (cI, 100, .inl f_x_primeSeconds))]) hP hD [1] [0] rfl rfl (by decide) (by decide) hk1 hFc hP1 hD1
  generalize H1 = H at hP hS ⊢
  have hP : va_P (dC, dI) vwCl [(h0, .inr (3, [.int v_x_minute, .int v_x_left, .int v_x_primes, .long j_x_lot, .int v_x_foremost, .ref x_rides, .ref x_metres, .ref x_store, .ref x_seconds, .ref x_timesHeld, .ref x_work, .ref x_heldFor, .ref x_primeSeconds, .ref x_orderRows, .ref x_bunches, .ref x_values])), (x_primeSeconds, .inl (cI, 100, .inl f_x_primeSeconds))] H := hP
  have hD : va_D A [(h0, .inr (3, [.int v_x_minute, .int v_x_left, .int v_x_primes, .long j_x_lot, .int v_x_foremost, .ref x_rides, .ref x_metres, .ref x_store, .ref x_seconds, .ref x_timesHeld, .ref x_work, .ref x_heldFor, .ref x_primeSeconds, .ref x_orderRows, .ref x_bunches, .ref x_values])), (x_primeSeconds, .inl (cI, 100, .inl f_x_primeSeconds))] := hD
  have hf_3 : -1 ≤ r_2.toInt ∧ r_2.toInt ≤ 19 := hf_3
  have hu9 : (r_2 : Int32).toInt = (r_2).toInt := rfl
  have hP9 := hP.sub (ws' := [(h0, .inr (3, [.int v_x_minute, .int v_x_left, .int v_x_primes, .long j_x_lot, .int v_x_foremost, .ref x_rides, .ref x_metres, .ref x_store, .ref x_seconds, .ref x_timesHeld, .ref x_work, .ref x_heldFor, .ref x_primeSeconds, .ref x_orderRows, .ref x_bunches, .ref x_values])), (x_primeSeconds, .inl (cI, 100, .inl f_x_primeSeconds))]) [0, 1] rfl
  have hD9 := hD.sub (ws' := [(h0, .inr (3, [.int v_x_minute, .int v_x_left, .int v_x_primes, .long j_x_lot, .int v_x_foremost, .ref x_rides, .ref x_metres, .ref x_store, .ref x_seconds, .ref x_timesHeld, .ref x_work, .ref x_heldFor, .ref x_primeSeconds, .ref x_orderRows, .ref x_bunches, .ref x_values])), (x_primeSeconds, .inl (cI, 100, .inl f_x_primeSeconds))]) [0, 1] (by decide) rfl
  have hf9_0 : -1 ≤ r_2.toInt ∧ r_2.toInt ≤ 19 := by omega
  exact W.iret (v := r_2) hx hb hr (fun t ht hW => ⟨⟨r_2, r_2, rfl, rfl, hf9_0, by rw [ht]; exact hP9, va_K.moved hW.alike hK, hD9⟩, hS.F ht⟩) hS.2.2 dX3_riderAtPrime_12

set_option maxHeartbeats 8000000 in
set_option maxRecDepth 100000 in
theorem c_X3_primePointsOf (l : Launch) (dC : Nat → ClassId) (dI : Nat → Nat → Nat) (cI cZ : ClassId) (sz : Nat) (h0 : Nat) (pR : Int32) (pR_i : Int) (pR_h : pR.toInt = pR_i) (B_pR : 0 ≤ pR_i ∧ pR_i ≤ 19) (v_x_minute : Int32) (v_x_minute_i : Int) (v_x_minute_h : v_x_minute.toInt = v_x_minute_i) (v_x_left : Int32) (v_x_left_i : Int) (v_x_left_h : v_x_left.toInt = v_x_left_i) (v_x_primes : Int32) (v_x_primes_i : Int) (v_x_primes_h : v_x_primes.toInt = v_x_primes_i) (B_v_x_primes : 0 ≤ v_x_primes_i ∧ v_x_primes_i ≤ 5) (j_x_lot : Int64) (v_x_foremost : Int32) (v_x_foremost_i : Int) (v_x_foremost_h : v_x_foremost.toInt = v_x_foremost_i) (x_rides : Nat) (x_metres : Nat) (x_store : Nat) (x_seconds : Nat) (x_timesHeld : Nat) (x_work : Nat) (x_heldFor : Nat) (x_primeSeconds : Nat) (x_orderRows : Nat) (x_bunches : Nat) (x_values : Nat) (f_x_primeSeconds : Nat → Int32) : Met l yX3_primePointsOf (Cond.code yX3_primePointsOf cX3_primePointsOf 5 (some .int) :: lw_good) ({ frames := 1, cells := 0, slots := 0, locals := 26 }) (va_Pc [.ref h0, .int pR] (fun U => U.heap.size = sz ∧ va_P (dC, dI) vwCl [(h0, .inr (3, [.int v_x_minute, .int v_x_left, .int v_x_primes, .long j_x_lot, .int v_x_foremost, .ref x_rides, .ref x_metres, .ref x_store, .ref x_seconds, .ref x_timesHeld, .ref x_work, .ref x_heldFor, .ref x_primeSeconds, .ref x_orderRows, .ref x_bunches, .ref x_values])), (x_primeSeconds, .inl (cI, 100, .inl f_x_primeSeconds))] U.heap ∧ va_K (dC, dI) vwCl [(cI, .int), (cZ, .boolean)] U ∧ va_D (fun _ => True) [(h0, .inr (3, [.int v_x_minute, .int v_x_left, .int v_x_primes, .long j_x_lot, .int v_x_foremost, .ref x_rides, .ref x_metres, .ref x_store, .ref x_seconds, .ref x_timesHeld, .ref x_work, .ref x_heldFor, .ref x_primeSeconds, .ref x_orderRows, .ref x_bunches, .ref x_values])), (x_primeSeconds, .inl (cI, 100, .inl f_x_primeSeconds))])) (va_Qi (fun (r u : Int32) => r = u) (fun u t => va_P (dC, dI) vwCl [(h0, .inr (3, [.int v_x_minute, .int v_x_left, .int v_x_primes, .long j_x_lot, .int v_x_foremost, .ref x_rides, .ref x_metres, .ref x_store, .ref x_seconds, .ref x_timesHeld, .ref x_work, .ref x_heldFor, .ref x_primeSeconds, .ref x_orderRows, .ref x_bunches, .ref x_values])), (x_primeSeconds, .inl (cI, 100, .inl f_x_primeSeconds))] t.heap ∧ va_K (dC, dI) vwCl [(cI, .int), (cZ, .boolean)] t ∧ va_D (va_A [(h0, .inr (3, [.int v_x_minute, .int v_x_left, .int v_x_primes, .long j_x_lot, .int v_x_foremost, .ref x_rides, .ref x_metres, .ref x_store, .ref x_seconds, .ref x_timesHeld, .ref x_work, .ref x_heldFor, .ref x_primeSeconds, .ref x_orderRows, .ref x_bunches, .ref x_values])), (x_primeSeconds, .inl (cI, 100, .inl f_x_primeSeconds))] sz) [(h0, .inr (3, [.int v_x_minute, .int v_x_left, .int v_x_primes, .long j_x_lot, .int v_x_foremost, .ref x_rides, .ref x_metres, .ref x_store, .ref x_seconds, .ref x_timesHeld, .ref x_work, .ref x_heldFor, .ref x_primeSeconds, .ref x_orderRows, .ref x_bunches, .ref x_values])), (x_primeSeconds, .inl (cI, 100, .inl f_x_primeSeconds))]) (va_A [(h0, .inr (3, [.int v_x_minute, .int v_x_left, .int v_x_primes, .long j_x_lot, .int v_x_foremost, .ref x_rides, .ref x_metres, .ref x_store, .ref x_seconds, .ref x_timesHeld, .ref x_work, .ref x_heldFor, .ref x_primeSeconds, .ref x_orderRows, .ref x_bunches, .ref x_values])), (x_primeSeconds, .inl (cI, 100, .inl f_x_primeSeconds))] sz)) 0 0 (va_A [(h0, .inr (3, [.int v_x_minute, .int v_x_left, .int v_x_primes, .long j_x_lot, .int v_x_foremost, .ref x_rides, .ref x_metres, .ref x_store, .ref x_seconds, .ref x_timesHeld, .ref x_work, .ref x_heldFor, .ref x_primeSeconds, .ref x_orderRows, .ref x_bunches, .ref x_values])), (x_primeSeconds, .inl (cI, 100, .inl f_x_primeSeconds))] sz) := by
  refine Met.ofW (cc := cX3_primePointsOf) (maxL := 5) (ret := (some .int)) (by decide) rfl ?_
  intro p e s m args below meth c s₁ B hml hv
  obtain ⟨rfl, hsz, hP, hK, hD0⟩ := hv
  have hx := B.exec
  have hb := B.bytes
  have hr := B.returns
  have hts := atoms_spec (ws := Cond.code yX3_primePointsOf cX3_primePointsOf 5 (some .int) :: lw_good) B.pre
  have hown : s.vm.findClass RX3 = some m.cls := findClass_of_methodNamed B.named
  have hlocks := B.notSynchronized
  have hiX3 : ∀ w ∈ wsX30, w ∈ (Cond.code yX3_primePointsOf cX3_primePointsOf 5 (some .int) :: lw_good) := fun w h => List.mem_cons_of_mem _ (zi_X3 w h)
  have hw0 := hts (.fieldLink RX3 18 "BunchRace$Race" "primes" "I") (List.mem_cons_of_mem _ zw_234)
  have hw1 := hts (.fieldLink RX3 51 "BunchRace$Race" "primeSeconds" "[I") (List.mem_cons_of_mem _ zw_253)
  have hw2 := hts (.initialized RX3) (List.mem_cons_of_mem _ zw_54)
  have hw3 := hts (.methodLink RX3 188 yX3_placeIn) (List.mem_cons_of_mem _ zw_607)
  have hw4 := hts (.static yX3_placeIn) (List.mem_cons_of_mem _ zw_608)
  subst hsz
  have hD := hD0.self (sz := s.heap.size)
  generalize hAe : va_A [(h0, .inr (3, [.int v_x_minute, .int v_x_left, .int v_x_primes, .long j_x_lot, .int v_x_foremost, .ref x_rides, .ref x_metres, .ref x_store, .ref x_seconds, .ref x_timesHeld, .ref x_work, .ref x_heldFor, .ref x_primeSeconds, .ref x_orderRows, .ref x_bunches, .ref x_values])), (x_primeSeconds, .inl (cI, 100, .inl f_x_primeSeconds))] s.heap.size = A at hD ⊢
  have hA : ∀ q : Nat, s.heap.size ≤ q → A q := fun q h => by rw [← hAe]; exact Or.inr h
  have hS : va_S A s.heap s.heap [] := va_S.rf
  have hP : va_P (dC, dI) vwCl [(h0, .inr (3, [.int v_x_minute, .int v_x_left, .int v_x_primes, .long j_x_lot, .int v_x_foremost, .ref x_rides, .ref x_metres, .ref x_store, .ref x_seconds, .ref x_timesHeld, .ref x_work, .ref x_heldFor, .ref x_primeSeconds, .ref x_orderRows, .ref x_bunches, .ref x_values])), (x_primeSeconds, .inl (cI, 100, .inl f_x_primeSeconds))] s.heap := hP
  have hl := lv_entry ([.ref h0, .int pR]) (n := 5) (Nat.le_of_ble_eq_true rfl)
  rw [lg_entry_eq]
  generalize (lg_sl ([.ref h0, .int pR]) ++ List.replicate (5 - (lg_sl ([.ref h0, .int pR])).length) Slot.unset).toArray = ls at hl ⊢
  have hl : lv_has ls 5 [(0, .ref h0), (1, .int pR)] := hl
  refine lv_iconst (v := 0) hx hb dX3_primePointsOf_0 (by decide) ?_
  refine lv_istore_n (lv' := [(2, .int 0), (0, .ref h0), (1, .int pR)]) hx hb dX3_primePointsOf_1 rfl hl (by decide) rfl (fun ls hl => ?_)
  refine lv_iconst (v := 0) hx hb dX3_primePointsOf_2 (by decide) ?_
  refine lv_istore_n (lv' := [(3, .int 0), (2, .int 0), (0, .ref h0), (1, .int pR)]) hx hb dX3_primePointsOf_3 rfl hl (by decide) rfl (fun ls hl => ?_)
  have L_13 : ∀ (n : Nat) (i3_L_13 : Int32) (i2_L_13 : Int32) (H : Heap) (locs : List Loc) (ls : Array Slot), (0 ≤ i3_L_13.toInt) → (i3_L_13.toInt ≤ 5) → (5 - i3_L_13.toInt) < (n : Int) → va_P (dC, dI) vwCl [(h0, .inr (3, [.int v_x_minute, .int v_x_left, .int v_x_primes, .long j_x_lot, .int v_x_foremost, .ref x_rides, .ref x_metres, .ref x_store, .ref x_seconds, .ref x_timesHeld, .ref x_work, .ref x_heldFor, .ref x_primeSeconds, .ref x_orderRows, .ref x_bunches, .ref x_values])), (x_primeSeconds, .inl (cI, 100, .inl f_x_primeSeconds))] H → va_D A [(h0, .inr (3, [.int v_x_minute, .int v_x_left, .int v_x_primes, .long j_x_lot, .int v_x_foremost, .ref x_rides, .ref x_metres, .ref x_store, .ref x_seconds, .ref x_timesHeld, .ref x_work, .ref x_heldFor, .ref x_primeSeconds, .ref x_orderRows, .ref x_bunches, .ref x_values])), (x_primeSeconds, .inl (cI, 100, .inl f_x_primeSeconds))] → va_S A s.heap H locs → lv_has ls 5 [(3, .int i3_L_13), (2, .int i2_L_13), (0, .ref h0), (1, .int pR)] → W p l e ((headSpec (Cond.code yX3_primePointsOf cX3_primePointsOf 5 (some .int) :: lw_good) ({ frames := 1, cells := 0, slots := 0, locals := 26 })).room) s m (([.ref h0, .int pR] : List Value).toArray) below meth c H locs 0 0 (MQ below (va_Qi (fun (r u : Int32) => r = u) (fun u t => va_P (dC, dI) vwCl [(h0, .inr (3, [.int v_x_minute, .int v_x_left, .int v_x_primes, .long j_x_lot, .int v_x_foremost, .ref x_rides, .ref x_metres, .ref x_store, .ref x_seconds, .ref x_timesHeld, .ref x_work, .ref x_heldFor, .ref x_primeSeconds, .ref x_orderRows, .ref x_bunches, .ref x_values])), (x_primeSeconds, .inl (cI, 100, .inl f_x_primeSeconds))] t.heap ∧ va_K (dC, dI) vwCl [(cI, .int), (cZ, .boolean)] t ∧ va_D A [(h0, .inr (3, [.int v_x_minute, .int v_x_left, .int v_x_primes, .long j_x_lot, .int v_x_foremost, .ref x_rides, .ref x_metres, .ref x_store, .ref x_seconds, .ref x_timesHeld, .ref x_work, .ref x_heldFor, .ref x_primeSeconds, .ref x_orderRows, .ref x_bunches, .ref x_values])), (x_primeSeconds, .inl (cI, 100, .inl f_x_primeSeconds))]) A) (([.ref h0, .int pR] : List Value).toArray) s 0 0 A) (F0 m 4 ls []) := by
    intro n
    induction n with
    | zero =>
      intro i3_L_13 i2_L_13 H locs ls hI0 hI1 hM
      exact absurd hM (by omega)
    | succ n ih =>
      intro i3_L_13 i2_L_13 H locs ls hI0 hI1 hM hP hD hS hl
      have ih_14 := ih
      have hi_15 := hI0
      have hi_16 := hI1
      refine lv_iload_n hx hb dX3_primePointsOf_4 rfl (lv_at hl 0 rfl) ?_
      refine lv_aload_n hx hb dX3_primePointsOf_5 rfl (lv_at hl 2 rfl) ?_
      refine va_get (D := (dC, dI)) (ci := 3) (v := .int v_x_primes) (C := RX3) (T := TX3) (N := 16) hx hb hts hiX3 hown hK hP 0 rfl rfl 2 (by decide) hw0 (fun _ h9 => h9) rfl dX3_primePointsOf_6 ?_
      refine lv_icmp_ge (tgt := 51) hx hb dX3_primePointsOf_9 (by decide) (fun c_17 => ?_) (fun c_17 => ?_)
      ·
        have c_17 : v_x_primes_i ≤ (i3_L_13).toInt := zz_le v_x_primes_h rfl c_17
        refine lv_iload_n hx hb dX3_primePointsOf_51 rfl (lv_at hl 1 rfl) ?_
        have hu9 : (i2_L_13 : Int32).toInt = (i2_L_13).toInt := rfl
        have hP9 := hP.sub (ws' := [(h0, .inr (3, [.int v_x_minute, .int v_x_left, .int v_x_primes, .long j_x_lot, .int v_x_foremost, .ref x_rides, .ref x_metres, .ref x_store, .ref x_seconds, .ref x_timesHeld, .ref x_work, .ref x_heldFor, .ref x_primeSeconds, .ref x_orderRows, .ref x_bunches, .ref x_values])), (x_primeSeconds, .inl (cI, 100, .inl f_x_primeSeconds))]) [0, 1] rfl
        have hD9 := hD.sub (ws' := [(h0, .inr (3, [.int v_x_minute, .int v_x_left, .int v_x_primes, .long j_x_lot, .int v_x_foremost, .ref x_rides, .ref x_metres, .ref x_store, .ref x_seconds, .ref x_timesHeld, .ref x_work, .ref x_heldFor, .ref x_primeSeconds, .ref x_orderRows, .ref x_bunches, .ref x_values])), (x_primeSeconds, .inl (cI, 100, .inl f_x_primeSeconds))]) [0, 1] (by decide) rfl
        exact W.iret (v := i2_L_13) hx hb hr (fun t ht hW => ⟨⟨i2_L_13, i2_L_13, rfl, rfl, by rw [ht]; exact hP9, va_K.moved hW.alike hK, hD9⟩, hS.F ht⟩) hS.2.2 dX3_primePointsOf_52
      ·
        have c_17 : ¬ (v_x_primes_i ≤ (i3_L_13).toInt) := zz_len v_x_primes_h rfl c_17
        refine lv_aload_n hx hb dX3_primePointsOf_12 rfl (lv_at hl 2 rfl) ?_
        refine va_get (D := (dC, dI)) (ci := 3) (v := .ref x_primeSeconds) (C := RX3) (T := TX3) (N := 16) hx hb hts hiX3 hown hK hP 0 rfl rfl 12 (by decide) hw1 (fun _ h9 => h9) rfl dX3_primePointsOf_13 ?_
        refine lv_iload_n hx hb dX3_primePointsOf_16 rfl (lv_at hl 0 rfl) ?_
        refine lv_bipush (v := 20) hx hb dX3_primePointsOf_17 (by decide) ?_
        refine lv_imul hx hb dX3_primePointsOf_19 ?_
        refine lv_topi (fun v_18 ev_18 => ?_)
        have hv_18 : v_18.toInt = ((i3_L_13).toInt * (20:Int)) := by rw [ev_18]; exact zz_mulI rfl (by decide) (by omega) (by omega)
        refine lv_iload_n hx hb dX3_primePointsOf_20 rfl (lv_at hl 3 rfl) ?_
        have hPc := hP.sub (ws' := [(x_primeSeconds, .inl (cI, 100, .inl f_x_primeSeconds))]) [1] rfl
        have hDc := hD.sub (ws' := [(x_primeSeconds, .inl (cI, 100, .inl f_x_primeSeconds))]) [1] (by decide) rfl
        have hFc := va_free (wc := [(x_primeSeconds, .inl (cI, 100, .inl f_x_primeSeconds))]) hD hS hA [1] rfl
        refine va_calli (va_runS (As := [.ref x_primeSeconds, .int v_18, .int pR]) (rest := []) ⟨hx, hb, hml, hown, hts⟩ (c_X3_placeIn l dC dI cI cZ (H).size x_primeSeconds v_18 ((i3_L_13).toInt * (20:Int)) hv_18 (by omega) pR pR_i pR_h (by omega) 100 f_x_primeSeconds (by omega)) ⟨callB_of 3 hts (zz_good zw_609) rfl rfl rfl hw2 hw3 (by decide +kernel) ⟨Nat.le_of_ble_eq_true rfl, Nat.le_of_ble_eq_true rfl⟩, hw4⟩ ⟨fun a U g mk q => by obtain ⟨q0, q1, qP, qK, qD⟩ := q; exact ⟨q0, q1, qP, va_K.moved (u := U) (U := U.calling g mk a) (Vm.Alike.refl U.vm) qK, qD⟩, fun U hU hW => ⟨rfl, by rw [hU], by rw [hU]; exact hPc, va_K.moved hW.alike hK, hDc.weaken (fun _ _ _ _ => trivial)⟩⟩ rfl rfl hl.1 rfl (lv_room (Nat.le_of_ble_eq_true rfl)) dX3_primePointsOf_21 ⟨Nat.le_of_ble_eq_true rfl, Nat.le_of_ble_eq_true rfl⟩) hS (fun q _ h => hFc q h) hFc (fun r_19 u t H1 locs ht hvm hpost hB hz1 hk1 hS => ?_)
        subst hpost
        obtain ⟨hP1, hK1, hD1⟩ := hB
        rw [ht] at hP1
        obtain ⟨hP, hD⟩ := va_join (wr := [(h0, .inr (3, [.int v_x_minute, .int v_x_left, .int v_x_primes, .long j_x_lot, .int v_x_foremost, .ref x_rides, .ref x_metres, .ref x_store, .ref x_seconds, .ref x_timesHeld, .ref x_work, .ref x_heldFor, .ref x_primeSeconds, .ref x_orderRows, .ref x_bunches, .ref x_values]))]) (w1 := [(x_primeSeconds, .inl (cI, 100, .inl f_x_primeSeconds))]) hP hD [1] [0] rfl rfl (by decide) (by decide) hk1 hFc hP1 hD1
        generalize H1 = H at hP hS ⊢
        have hP : va_P (dC, dI) vwCl [(h0, .inr (3, [.int v_x_minute, .int v_x_left, .int v_x_primes, .long j_x_lot, .int v_x_foremost, .ref x_rides, .ref x_metres, .ref x_store, .ref x_seconds, .ref x_timesHeld, .ref x_work, .ref x_heldFor, .ref x_primeSeconds, .ref x_orderRows, .ref x_bunches, .ref x_values])), (x_primeSeconds, .inl (cI, 100, .inl f_x_primeSeconds))] H := hP
        have hD : va_D A [(h0, .inr (3, [.int v_x_minute, .int v_x_left, .int v_x_primes, .long j_x_lot, .int v_x_foremost, .ref x_rides, .ref x_metres, .ref x_store, .ref x_seconds, .ref x_timesHeld, .ref x_work, .ref x_heldFor, .ref x_primeSeconds, .ref x_orderRows, .ref x_bunches, .ref x_values])), (x_primeSeconds, .inl (cI, 100, .inl f_x_primeSeconds))] := hD
        refine lv_istore (lv' := [(4, .int r_19), (3, .int i3_L_13), (2, .int i2_L_13), (0, .ref h0), (1, .int pR)]) hx hb dX3_primePointsOf_24 hl (by decide) rfl (fun ls hl => ?_)
        refine lv_iload hx hb dX3_primePointsOf_26 (lv_at hl 0 rfl) ?_
        refine lv_iconst (v := 1) hx hb dX3_primePointsOf_28 (by decide) ?_
        refine lv_icmp_lt (tgt := 45) hx hb dX3_primePointsOf_29 (by decide) (fun c_20 => ?_) (fun c_20 => ?_)
        ·
          have c_20 : (r_19).toInt < (1:Int) := zz_lt rfl (by decide) c_20
          obtain ⟨v_21, ev_21⟩ : ∃ y : Int32, y = i3_L_13 + 1 := ⟨_, rfl⟩
          have hv_21 : v_21.toInt = ((i3_L_13).toInt + (1:Int)) := by rw [ev_21]; exact zz_addI rfl (by decide) (by omega) (by omega)
          refine lv_iinc (v := v_21) (lv' := [(3, .int v_21), (4, .int r_19), (2, .int i2_L_13), (0, .ref h0), (1, .int pR)]) hx hb dX3_primePointsOf_45 hl (k := 1) rfl (by rw [ev_21]; rfl) (by decide) rfl (fun ls hl => ?_)
          refine lv_goto (tgt := 4) hx hb dX3_primePointsOf_48 (by decide) ?_
          have hb_22_i3_L_13 : (v_21 : Int32).toInt = ((i3_L_13).toInt + (1:Int)) := hv_21
          have hb_22_i2_L_13 : (i2_L_13 : Int32).toInt = (i2_L_13).toInt := rfl
          exact ih_14 v_21 i2_L_13 H locs ls (by omega) (by omega) (by omega) (hP.sub [0, 1] rfl) (hD.sub [0, 1] (by decide) rfl) hS (lv_sub hl [0, 2, 3, 4] rfl)
        ·
          have c_20 : ¬ ((r_19).toInt < (1:Int)) := zz_ltn rfl (by decide) c_20
          refine lv_iload hx hb dX3_primePointsOf_32 (lv_at hl 0 rfl) ?_
          refine lv_iconst (v := 3) hx hb dX3_primePointsOf_34 (by decide) ?_
          refine lv_icmp_gt (tgt := 45) hx hb dX3_primePointsOf_35 (by decide) (fun c_23 => ?_) (fun c_23 => ?_)
          ·
            have c_23 : (3:Int) < (r_19).toInt := zz_lt (by decide) rfl c_23
            obtain ⟨v_24, ev_24⟩ : ∃ y : Int32, y = i3_L_13 + 1 := ⟨_, rfl⟩
            have hv_24 : v_24.toInt = ((i3_L_13).toInt + (1:Int)) := by rw [ev_24]; exact zz_addI rfl (by decide) (by omega) (by omega)
            refine lv_iinc (v := v_24) (lv' := [(3, .int v_24), (4, .int r_19), (2, .int i2_L_13), (0, .ref h0), (1, .int pR)]) hx hb dX3_primePointsOf_45 hl (k := 1) rfl (by rw [ev_24]; rfl) (by decide) rfl (fun ls hl => ?_)
            refine lv_goto (tgt := 4) hx hb dX3_primePointsOf_48 (by decide) ?_
            have hb_25_i3_L_13 : (v_24 : Int32).toInt = ((i3_L_13).toInt + (1:Int)) := hv_24
            have hb_25_i2_L_13 : (i2_L_13 : Int32).toInt = (i2_L_13).toInt := rfl
            exact ih_14 v_24 i2_L_13 H locs ls (by omega) (by omega) (by omega) (hP.sub [0, 1] rfl) (hD.sub [0, 1] (by decide) rfl) hS (lv_sub hl [0, 2, 3, 4] rfl)
          ·
            have c_23 : ¬ ((3:Int) < (r_19).toInt) := zz_ltn (by decide) rfl c_23
            refine lv_iload_n hx hb dX3_primePointsOf_38 rfl (lv_at hl 2 rfl) ?_
            refine lv_iconst (v := 4) hx hb dX3_primePointsOf_39 (by decide) ?_
            refine lv_iload hx hb dX3_primePointsOf_40 (lv_at hl 0 rfl) ?_
            refine lv_isub hx hb dX3_primePointsOf_42 ?_
            refine lv_topi (fun v_26 ev_26 => ?_)
            have hv_26 : v_26.toInt = ((4:Int) - (r_19).toInt) := by rw [ev_26]; exact zz_subI (by decide) rfl (by omega) (by omega)
            refine lv_iadd hx hb dX3_primePointsOf_43 ?_
            refine lv_topi (fun v_27 _ => ?_)
            refine lv_istore_n (lv' := [(2, .int v_27), (4, .int r_19), (3, .int i3_L_13), (0, .ref h0), (1, .int pR)]) hx hb dX3_primePointsOf_44 rfl hl (by decide) rfl (fun ls hl => ?_)
            obtain ⟨v_28, ev_28⟩ : ∃ y : Int32, y = i3_L_13 + 1 := ⟨_, rfl⟩
            have hv_28 : v_28.toInt = ((i3_L_13).toInt + (1:Int)) := by rw [ev_28]; exact zz_addI rfl (by decide) (by omega) (by omega)
            refine lv_iinc (v := v_28) (lv' := [(3, .int v_28), (2, .int v_27), (4, .int r_19), (0, .ref h0), (1, .int pR)]) hx hb dX3_primePointsOf_45 hl (k := 2) rfl (by rw [ev_28]; rfl) (by decide) rfl (fun ls hl => ?_)
            refine lv_goto (tgt := 4) hx hb dX3_primePointsOf_48 (by decide) ?_
            have hb_29_i3_L_13 : (v_28 : Int32).toInt = ((i3_L_13).toInt + (1:Int)) := hv_28
            have hb_29_i2_L_13 : (v_27 : Int32).toInt = (v_27).toInt := rfl
            exact ih_14 v_28 v_27 H locs ls (by omega) (by omega) (by omega) (hP.sub [0, 1] rfl) (hD.sub [0, 1] (by decide) rfl) hS (lv_sub hl [0, 1, 3, 4] rfl)
  have hb_30_i3_L_13 : (0 : Int32).toInt = (0:Int) := (by decide)
  have hb_30_i2_L_13 : (0 : Int32).toInt = (0:Int) := (by decide)
  exact L_13 1000 0 0 s.heap [] ls (by omega) (by omega) (by omega) (hP.sub [0, 1] rfl) (hD.sub [0, 1] (by decide) rfl) hS (lv_sub hl [0, 1, 2, 3] rfl)

set_option maxHeartbeats 8000000 in
set_option maxRecDepth 100000 in
theorem c_X3_foremostOf (l : Launch) (dC : Nat → ClassId) (dI : Nat → Nat → Nat) (cI cZ : ClassId) (sz : Nat) (h0 : Nat) (pT : Int32) (pT_i : Int) (pT_h : pT.toInt = pT_i) (pRi : Nat) (v_x_minute : Int32) (v_x_minute_i : Int) (v_x_minute_h : v_x_minute.toInt = v_x_minute_i) (v_x_left : Int32) (v_x_left_i : Int) (v_x_left_h : v_x_left.toInt = v_x_left_i) (v_x_primes : Int32) (v_x_primes_i : Int) (v_x_primes_h : v_x_primes.toInt = v_x_primes_i) (B_v_x_primes : 0 ≤ v_x_primes_i ∧ v_x_primes_i ≤ 5) (j_x_lot : Int64) (v_x_foremost : Int32) (v_x_foremost_i : Int) (v_x_foremost_h : v_x_foremost.toInt = v_x_foremost_i) (x_rides : Nat) (x_metres : Nat) (x_store : Nat) (x_seconds : Nat) (x_timesHeld : Nat) (x_work : Nat) (x_heldFor : Nat) (x_primeSeconds : Nat) (x_orderRows : Nat) (x_bunches : Nat) (x_values : Nat) (f_x_rides : Nat → Int32) (f_x_metres : Nat → Int32) (R_x_metres : zr f_x_metres 20 (0) (30000)) (v_r_number : Int32) (v_r_number_i : Int) (v_r_number_h : v_r_number.toInt = v_r_number_i) (B_v_r_number : 0 ≤ v_r_number_i ∧ v_r_number_i ≤ 20) (r_teams : Nat) (r_steady : Nat) (r_full : Nat) (r_climb : Nat) (f_r_teams : Nat → Int32) (R_r_teams : zr f_r_teams 20 (0) (4)) : Met l yX3_foremostOf (Cond.code yX3_foremostOf cX3_foremostOf 5 (some .int) :: lw_good) ({ frames := 1, cells := 0, slots := 0, locals := 13 }) (va_Pc [.ref h0, .int pT, .ref pRi] (fun U => U.heap.size = sz ∧ va_P (dC, dI) vwCl [(h0, .inr (3, [.int v_x_minute, .int v_x_left, .int v_x_primes, .long j_x_lot, .int v_x_foremost, .ref x_rides, .ref x_metres, .ref x_store, .ref x_seconds, .ref x_timesHeld, .ref x_work, .ref x_heldFor, .ref x_primeSeconds, .ref x_orderRows, .ref x_bunches, .ref x_values])), (x_rides, .inl (cZ, 20, .inl f_x_rides)), (x_metres, .inl (cI, 20, .inl f_x_metres)), (pRi, .inr (5, [.int v_r_number, .ref r_teams, .ref r_steady, .ref r_full, .ref r_climb])), (r_teams, .inl (cI, 20, .inl f_r_teams))] U.heap ∧ va_K (dC, dI) vwCl [(cI, .int), (cZ, .boolean)] U ∧ va_D (fun _ => True) [(h0, .inr (3, [.int v_x_minute, .int v_x_left, .int v_x_primes, .long j_x_lot, .int v_x_foremost, .ref x_rides, .ref x_metres, .ref x_store, .ref x_seconds, .ref x_timesHeld, .ref x_work, .ref x_heldFor, .ref x_primeSeconds, .ref x_orderRows, .ref x_bunches, .ref x_values])), (x_rides, .inl (cZ, 20, .inl f_x_rides)), (x_metres, .inl (cI, 20, .inl f_x_metres)), (pRi, .inr (5, [.int v_r_number, .ref r_teams, .ref r_steady, .ref r_full, .ref r_climb])), (r_teams, .inl (cI, 20, .inl f_r_teams))])) (va_Qi (fun (r u : Int32) => r = u) (fun u t => va_P (dC, dI) vwCl [(h0, .inr (3, [.int v_x_minute, .int v_x_left, .int v_x_primes, .long j_x_lot, .int v_x_foremost, .ref x_rides, .ref x_metres, .ref x_store, .ref x_seconds, .ref x_timesHeld, .ref x_work, .ref x_heldFor, .ref x_primeSeconds, .ref x_orderRows, .ref x_bunches, .ref x_values])), (x_rides, .inl (cZ, 20, .inl f_x_rides)), (x_metres, .inl (cI, 20, .inl f_x_metres)), (pRi, .inr (5, [.int v_r_number, .ref r_teams, .ref r_steady, .ref r_full, .ref r_climb])), (r_teams, .inl (cI, 20, .inl f_r_teams))] t.heap ∧ va_K (dC, dI) vwCl [(cI, .int), (cZ, .boolean)] t ∧ va_D (va_A [(h0, .inr (3, [.int v_x_minute, .int v_x_left, .int v_x_primes, .long j_x_lot, .int v_x_foremost, .ref x_rides, .ref x_metres, .ref x_store, .ref x_seconds, .ref x_timesHeld, .ref x_work, .ref x_heldFor, .ref x_primeSeconds, .ref x_orderRows, .ref x_bunches, .ref x_values])), (x_rides, .inl (cZ, 20, .inl f_x_rides)), (x_metres, .inl (cI, 20, .inl f_x_metres)), (pRi, .inr (5, [.int v_r_number, .ref r_teams, .ref r_steady, .ref r_full, .ref r_climb])), (r_teams, .inl (cI, 20, .inl f_r_teams))] sz) [(h0, .inr (3, [.int v_x_minute, .int v_x_left, .int v_x_primes, .long j_x_lot, .int v_x_foremost, .ref x_rides, .ref x_metres, .ref x_store, .ref x_seconds, .ref x_timesHeld, .ref x_work, .ref x_heldFor, .ref x_primeSeconds, .ref x_orderRows, .ref x_bunches, .ref x_values])), (x_rides, .inl (cZ, 20, .inl f_x_rides)), (x_metres, .inl (cI, 20, .inl f_x_metres)), (pRi, .inr (5, [.int v_r_number, .ref r_teams, .ref r_steady, .ref r_full, .ref r_climb])), (r_teams, .inl (cI, 20, .inl f_r_teams))]) (va_A [(h0, .inr (3, [.int v_x_minute, .int v_x_left, .int v_x_primes, .long j_x_lot, .int v_x_foremost, .ref x_rides, .ref x_metres, .ref x_store, .ref x_seconds, .ref x_timesHeld, .ref x_work, .ref x_heldFor, .ref x_primeSeconds, .ref x_orderRows, .ref x_bunches, .ref x_values])), (x_rides, .inl (cZ, 20, .inl f_x_rides)), (x_metres, .inl (cI, 20, .inl f_x_metres)), (pRi, .inr (5, [.int v_r_number, .ref r_teams, .ref r_steady, .ref r_full, .ref r_climb])), (r_teams, .inl (cI, 20, .inl f_r_teams))] sz)) 0 0 (va_A [(h0, .inr (3, [.int v_x_minute, .int v_x_left, .int v_x_primes, .long j_x_lot, .int v_x_foremost, .ref x_rides, .ref x_metres, .ref x_store, .ref x_seconds, .ref x_timesHeld, .ref x_work, .ref x_heldFor, .ref x_primeSeconds, .ref x_orderRows, .ref x_bunches, .ref x_values])), (x_rides, .inl (cZ, 20, .inl f_x_rides)), (x_metres, .inl (cI, 20, .inl f_x_metres)), (pRi, .inr (5, [.int v_r_number, .ref r_teams, .ref r_steady, .ref r_full, .ref r_climb])), (r_teams, .inl (cI, 20, .inl f_r_teams))] sz) := by
  refine Met.ofW (cc := cX3_foremostOf) (maxL := 5) (ret := (some .int)) (by decide) rfl ?_
  intro p e s m args below meth c s₁ B hml hv
  obtain ⟨rfl, hsz, hP, hK, hD0⟩ := hv
  have hx := B.exec
  have hb := B.bytes
  have hr := B.returns
  have hts := atoms_spec (ws := Cond.code yX3_foremostOf cX3_foremostOf 5 (some .int) :: lw_good) B.pre
  have hown : s.vm.findClass RX3 = some m.cls := findClass_of_methodNamed B.named
  have hlocks := B.notSynchronized
  have hiX3 : ∀ w ∈ wsX30, w ∈ (Cond.code yX3_foremostOf cX3_foremostOf 5 (some .int) :: lw_good) := fun w h => List.mem_cons_of_mem _ (zi_X3 w h)
  have hiX5 : ∀ w ∈ wsX50, w ∈ (Cond.code yX3_foremostOf cX3_foremostOf 5 (some .int) :: lw_good) := fun w h => List.mem_cons_of_mem _ (zi_X5 w h)
  have hw0 := hts (.fieldLink RX3 28 "BunchRace$Race" "rides" "[Z") (List.mem_cons_of_mem _ zw_238)
  have hw1 := hts (.fieldLink RX3 143 "BunchRace$Riders" "teams" "[I") (List.mem_cons_of_mem _ zw_79)
  have hw2 := hts (.fieldLink RX3 32 "BunchRace$Race" "metres" "[I") (List.mem_cons_of_mem _ zw_240)
  have hw3 := hts (.methodLink RX3 97 Lib.Math.max.name) (List.mem_cons_of_mem _ zw_521)
  have hw4 := hts (.static Lib.Math.max.name) (List.mem_cons_of_mem _ zw_522)
  have hw5 := hts (.initialized "java/lang/Math") (List.mem_cons_of_mem _ zw_59)
  have hw6 := hts (.code Lib.Math.max.name Lib.Math.max.code 2 (some .int)) (List.mem_cons_of_mem _ zw_523)
  subst hsz
  have hD := hD0.self (sz := s.heap.size)
  generalize hAe : va_A [(h0, .inr (3, [.int v_x_minute, .int v_x_left, .int v_x_primes, .long j_x_lot, .int v_x_foremost, .ref x_rides, .ref x_metres, .ref x_store, .ref x_seconds, .ref x_timesHeld, .ref x_work, .ref x_heldFor, .ref x_primeSeconds, .ref x_orderRows, .ref x_bunches, .ref x_values])), (x_rides, .inl (cZ, 20, .inl f_x_rides)), (x_metres, .inl (cI, 20, .inl f_x_metres)), (pRi, .inr (5, [.int v_r_number, .ref r_teams, .ref r_steady, .ref r_full, .ref r_climb])), (r_teams, .inl (cI, 20, .inl f_r_teams))] s.heap.size = A at hD ⊢
  have hA : ∀ q : Nat, s.heap.size ≤ q → A q := fun q h => by rw [← hAe]; exact Or.inr h
  have hS : va_S A s.heap s.heap [] := va_S.rf
  have hP : va_P (dC, dI) vwCl [(h0, .inr (3, [.int v_x_minute, .int v_x_left, .int v_x_primes, .long j_x_lot, .int v_x_foremost, .ref x_rides, .ref x_metres, .ref x_store, .ref x_seconds, .ref x_timesHeld, .ref x_work, .ref x_heldFor, .ref x_primeSeconds, .ref x_orderRows, .ref x_bunches, .ref x_values])), (x_rides, .inl (cZ, 20, .inl f_x_rides)), (x_metres, .inl (cI, 20, .inl f_x_metres)), (pRi, .inr (5, [.int v_r_number, .ref r_teams, .ref r_steady, .ref r_full, .ref r_climb])), (r_teams, .inl (cI, 20, .inl f_r_teams))] s.heap := hP
  have hl := lv_entry ([.ref h0, .int pT, .ref pRi]) (n := 5) (Nat.le_of_ble_eq_true rfl)
  rw [lg_entry_eq]
  generalize (lg_sl ([.ref h0, .int pT, .ref pRi]) ++ List.replicate (5 - (lg_sl ([.ref h0, .int pT, .ref pRi])).length) Slot.unset).toArray = ls at hl ⊢
  have hl : lv_has ls 5 [(0, .ref h0), (1, .int pT), (2, .ref pRi)] := hl
  refine lv_iconst (v := 0) hx hb dX3_foremostOf_0 (by decide) ?_
  refine lv_istore_n (lv' := [(3, .int 0), (0, .ref h0), (1, .int pT), (2, .ref pRi)]) hx hb dX3_foremostOf_1 rfl hl (by decide) rfl (fun ls hl => ?_)
  refine lv_iconst (v := 0) hx hb dX3_foremostOf_2 (by decide) ?_
  refine lv_istore (lv' := [(4, .int 0), (3, .int 0), (0, .ref h0), (1, .int pT), (2, .ref pRi)]) hx hb dX3_foremostOf_3 hl (by decide) rfl (fun ls hl => ?_)
  have L_13 : ∀ (n : Nat) (i4_L_13 : Int32) (i3_L_13 : Int32) (H : Heap) (locs : List Loc) (ls : Array Slot), (0 ≤ i4_L_13.toInt) → (i4_L_13.toInt ≤ 20) → (20 - i4_L_13.toInt) < (n : Int) → va_P (dC, dI) vwCl [(h0, .inr (3, [.int v_x_minute, .int v_x_left, .int v_x_primes, .long j_x_lot, .int v_x_foremost, .ref x_rides, .ref x_metres, .ref x_store, .ref x_seconds, .ref x_timesHeld, .ref x_work, .ref x_heldFor, .ref x_primeSeconds, .ref x_orderRows, .ref x_bunches, .ref x_values])), (x_rides, .inl (cZ, 20, .inl f_x_rides)), (x_metres, .inl (cI, 20, .inl f_x_metres)), (pRi, .inr (5, [.int v_r_number, .ref r_teams, .ref r_steady, .ref r_full, .ref r_climb])), (r_teams, .inl (cI, 20, .inl f_r_teams))] H → va_D A [(h0, .inr (3, [.int v_x_minute, .int v_x_left, .int v_x_primes, .long j_x_lot, .int v_x_foremost, .ref x_rides, .ref x_metres, .ref x_store, .ref x_seconds, .ref x_timesHeld, .ref x_work, .ref x_heldFor, .ref x_primeSeconds, .ref x_orderRows, .ref x_bunches, .ref x_values])), (x_rides, .inl (cZ, 20, .inl f_x_rides)), (x_metres, .inl (cI, 20, .inl f_x_metres)), (pRi, .inr (5, [.int v_r_number, .ref r_teams, .ref r_steady, .ref r_full, .ref r_climb])), (r_teams, .inl (cI, 20, .inl f_r_teams))] → va_S A s.heap H locs → lv_has ls 5 [(4, .int i4_L_13), (3, .int i3_L_13), (0, .ref h0), (1, .int pT), (2, .ref pRi)] → W p l e ((headSpec (Cond.code yX3_foremostOf cX3_foremostOf 5 (some .int) :: lw_good) ({ frames := 1, cells := 0, slots := 0, locals := 13 })).room) s m (([.ref h0, .int pT, .ref pRi] : List Value).toArray) below meth c H locs 0 0 (MQ below (va_Qi (fun (r u : Int32) => r = u) (fun u t => va_P (dC, dI) vwCl [(h0, .inr (3, [.int v_x_minute, .int v_x_left, .int v_x_primes, .long j_x_lot, .int v_x_foremost, .ref x_rides, .ref x_metres, .ref x_store, .ref x_seconds, .ref x_timesHeld, .ref x_work, .ref x_heldFor, .ref x_primeSeconds, .ref x_orderRows, .ref x_bunches, .ref x_values])), (x_rides, .inl (cZ, 20, .inl f_x_rides)), (x_metres, .inl (cI, 20, .inl f_x_metres)), (pRi, .inr (5, [.int v_r_number, .ref r_teams, .ref r_steady, .ref r_full, .ref r_climb])), (r_teams, .inl (cI, 20, .inl f_r_teams))] t.heap ∧ va_K (dC, dI) vwCl [(cI, .int), (cZ, .boolean)] t ∧ va_D A [(h0, .inr (3, [.int v_x_minute, .int v_x_left, .int v_x_primes, .long j_x_lot, .int v_x_foremost, .ref x_rides, .ref x_metres, .ref x_store, .ref x_seconds, .ref x_timesHeld, .ref x_work, .ref x_heldFor, .ref x_primeSeconds, .ref x_orderRows, .ref x_bunches, .ref x_values])), (x_rides, .inl (cZ, 20, .inl f_x_rides)), (x_metres, .inl (cI, 20, .inl f_x_metres)), (pRi, .inr (5, [.int v_r_number, .ref r_teams, .ref r_steady, .ref r_full, .ref r_climb])), (r_teams, .inl (cI, 20, .inl f_r_teams))]) A) (([.ref h0, .int pT, .ref pRi] : List Value).toArray) s 0 0 A) (F0 m 5 ls []) := by
    intro n
    induction n with
    | zero =>
      intro i4_L_13 i3_L_13 H locs ls hI0 hI1 hM
      exact absurd hM (by omega)
    | succ n ih =>
      intro i4_L_13 i3_L_13 H locs ls hI0 hI1 hM hP hD hS hl
      have ih_14 := ih
      have hi_15 := hI0
      have hi_16 := hI1
      refine lv_iload hx hb dX3_foremostOf_5 (lv_at hl 0 rfl) ?_
      refine lv_bipush (v := 20) hx hb dX3_foremostOf_7 (by decide) ?_
      refine lv_icmp_ge (tgt := 51) hx hb dX3_foremostOf_9 (by decide) (fun c_17 => ?_) (fun c_17 => ?_)
      ·
        have c_17 : (20:Int) ≤ (i4_L_13).toInt := zz_le (by decide) rfl c_17
        refine lv_iload_n hx hb dX3_foremostOf_51 rfl (lv_at hl 1 rfl) ?_
        have hu9 : (i3_L_13 : Int32).toInt = (i3_L_13).toInt := rfl
        have hP9 := hP.sub (ws' := [(h0, .inr (3, [.int v_x_minute, .int v_x_left, .int v_x_primes, .long j_x_lot, .int v_x_foremost, .ref x_rides, .ref x_metres, .ref x_store, .ref x_seconds, .ref x_timesHeld, .ref x_work, .ref x_heldFor, .ref x_primeSeconds, .ref x_orderRows, .ref x_bunches, .ref x_values])), (x_rides, .inl (cZ, 20, .inl f_x_rides)), (x_metres, .inl (cI, 20, .inl f_x_metres)), (pRi, .inr (5, [.int v_r_number, .ref r_teams, .ref r_steady, .ref r_full, .ref r_climb])), (r_teams, .inl (cI, 20, .inl f_r_teams))]) [0, 1, 2, 3, 4] rfl
        have hD9 := hD.sub (ws' := [(h0, .inr (3, [.int v_x_minute, .int v_x_left, .int v_x_primes, .long j_x_lot, .int v_x_foremost, .ref x_rides, .ref x_metres, .ref x_store, .ref x_seconds, .ref x_timesHeld, .ref x_work, .ref x_heldFor, .ref x_primeSeconds, .ref x_orderRows, .ref x_bunches, .ref x_values])), (x_rides, .inl (cZ, 20, .inl f_x_rides)), (x_metres, .inl (cI, 20, .inl f_x_metres)), (pRi, .inr (5, [.int v_r_number, .ref r_teams, .ref r_steady, .ref r_full, .ref r_climb])), (r_teams, .inl (cI, 20, .inl f_r_teams))]) [0, 1, 2, 3, 4] (by decide) rfl
        exact W.iret (v := i3_L_13) hx hb hr (fun t ht hW => ⟨⟨i3_L_13, i3_L_13, rfl, rfl, by rw [ht]; exact hP9, va_K.moved hW.alike hK, hD9⟩, hS.F ht⟩) hS.2.2 dX3_foremostOf_52
      ·
        have c_17 : ¬ ((20:Int) ≤ (i4_L_13).toInt) := zz_len (by decide) rfl c_17
        refine lv_aload_n hx hb dX3_foremostOf_12 rfl (lv_at hl 2 rfl) ?_
        refine va_get (D := (dC, dI)) (ci := 3) (v := .ref x_rides) (C := RX3) (T := TX3) (N := 16) hx hb hts hiX3 hown hK hP 0 rfl rfl 5 (by decide) hw0 (fun _ h9 => h9) rfl dX3_foremostOf_13 ?_
        refine lv_iload hx hb dX3_foremostOf_16 (lv_at hl 0 rfl) ?_
        refine va_zald hx hb hK hP 1 1 rfl rfl (zz_in (a := (i4_L_13).toInt) rfl (by omega) (by omega)) dX3_foremostOf_18 ?_
        refine lv_topi (fun v_18 ev_18 => ?_)
        refine lv_if_eq (tgt := 45) hx hb dX3_foremostOf_19 (by decide) (fun c_19 => ?_) (fun c_19 => ?_)
        ·
          have c_19 : (v_18).toInt = (0:Int) := zz_eq rfl (by decide) c_19
          obtain ⟨v_20, ev_20⟩ : ∃ y : Int32, y = i4_L_13 + 1 := ⟨_, rfl⟩
          have hv_20 : v_20.toInt = ((i4_L_13).toInt + (1:Int)) := by rw [ev_20]; exact zz_addI rfl (by decide) (by omega) (by omega)
          refine lv_iinc (v := v_20) (lv' := [(4, .int v_20), (3, .int i3_L_13), (0, .ref h0), (1, .int pT), (2, .ref pRi)]) hx hb dX3_foremostOf_45 hl (k := 0) rfl (by rw [ev_20]; rfl) (by decide) rfl (fun ls hl => ?_)
          refine lv_goto (tgt := 5) hx hb dX3_foremostOf_48 (by decide) ?_
          have hb_21_i4_L_13 : (v_20 : Int32).toInt = ((i4_L_13).toInt + (1:Int)) := hv_20
          have hb_21_i3_L_13 : (i3_L_13 : Int32).toInt = (i3_L_13).toInt := rfl
          exact ih_14 v_20 i3_L_13 H locs ls (by omega) (by omega) (by omega) (hP.sub [0, 1, 2, 3, 4] rfl) (hD.sub [0, 1, 2, 3, 4] (by decide) rfl) hS (lv_sub hl [0, 1, 2, 3, 4] rfl)
        ·
          have c_19 : ¬ ((v_18).toInt = (0:Int)) := zz_eqn rfl (by decide) c_19
          refine lv_aload_n hx hb dX3_foremostOf_22 rfl (lv_at hl 4 rfl) ?_
          refine va_get (D := (dC, dI)) (ci := 5) (v := .ref r_teams) (C := RX5) (T := TX5) (N := 5) hx hb hts hiX5 hown hK hP 3 rfl rfl 1 (by decide) hw1 (fun _ h9 => h9) rfl dX3_foremostOf_23 ?_
          refine lv_iload hx hb dX3_foremostOf_26 (lv_at hl 0 rfl) ?_
          refine va_iald hx hb hK hP 4 0 rfl rfl (zz_in (a := (i4_L_13).toInt) rfl (by omega) (by omega)) dX3_foremostOf_28 ?_
          refine lv_topi (fun v_22 ev_22 => ?_)
          have bv_22 : 0 ≤ v_22.toInt ∧ v_22.toInt ≤ 4 := by rw [ev_22]; exact zr_get (a := (i4_L_13).toInt) R_r_teams rfl (by omega) (by omega)
          refine lv_iload_n hx hb dX3_foremostOf_29 rfl (lv_at hl 3 rfl) ?_
          refine lv_icmp_ne (tgt := 45) hx hb dX3_foremostOf_30 (by decide) (fun c_23 => ?_) (fun c_23 => ?_)
          ·
            have c_23 : ¬ ((v_22).toInt = pT_i) := zz_eqn rfl pT_h c_23
            obtain ⟨v_24, ev_24⟩ : ∃ y : Int32, y = i4_L_13 + 1 := ⟨_, rfl⟩
            have hv_24 : v_24.toInt = ((i4_L_13).toInt + (1:Int)) := by rw [ev_24]; exact zz_addI rfl (by decide) (by omega) (by omega)
            refine lv_iinc (v := v_24) (lv' := [(4, .int v_24), (3, .int i3_L_13), (0, .ref h0), (1, .int pT), (2, .ref pRi)]) hx hb dX3_foremostOf_45 hl (k := 0) rfl (by rw [ev_24]; rfl) (by decide) rfl (fun ls hl => ?_)
            refine lv_goto (tgt := 5) hx hb dX3_foremostOf_48 (by decide) ?_
            have hb_25_i4_L_13 : (v_24 : Int32).toInt = ((i4_L_13).toInt + (1:Int)) := hv_24
            have hb_25_i3_L_13 : (i3_L_13 : Int32).toInt = (i3_L_13).toInt := rfl
            exact ih_14 v_24 i3_L_13 H locs ls (by omega) (by omega) (by omega) (hP.sub [0, 1, 2, 3, 4] rfl) (hD.sub [0, 1, 2, 3, 4] (by decide) rfl) hS (lv_sub hl [0, 1, 2, 3, 4] rfl)
          ·
            have c_23 : (v_22).toInt = pT_i := zz_eq rfl pT_h c_23
            refine lv_iload_n hx hb dX3_foremostOf_33 rfl (lv_at hl 1 rfl) ?_
            refine lv_aload_n hx hb dX3_foremostOf_34 rfl (lv_at hl 2 rfl) ?_
            refine va_get (D := (dC, dI)) (ci := 3) (v := .ref x_metres) (C := RX3) (T := TX3) (N := 16) hx hb hts hiX3 hown hK hP 0 rfl rfl 6 (by decide) hw2 (fun _ h9 => h9) rfl dX3_foremostOf_35 ?_
            refine lv_iload hx hb dX3_foremostOf_38 (lv_at hl 0 rfl) ?_
            refine va_iald hx hb hK hP 2 0 rfl rfl (zz_in (a := (i4_L_13).toInt) rfl (by omega) (by omega)) dX3_foremostOf_40 ?_
            refine lv_topi (fun v_26 ev_26 => ?_)
            have bv_26 : 0 ≤ v_26.toInt ∧ v_26.toInt ≤ 30000 := by rw [ev_26]; exact zr_get (a := (i4_L_13).toInt) R_x_metres rfl (by omega) (by omega)
            refine va_mmax hx hb (by rw [hml]; exact hl.1.symm) hown hw3 hw4 hw5 hw6 (Nat.le_of_ble_eq_true rfl) (Nat.le_of_ble_eq_true rfl) (Nat.le_of_ble_eq_true rfl) (Nat.le_of_ble_eq_true rfl) dX3_foremostOf_41 ?_
            refine lv_topi (fun v_27 ev_27 => ?_)
            have hv_27 := zz_max (a := (i3_L_13).toInt) rfl (b := (v_26).toInt) rfl ev_27
            refine lv_istore_n (lv' := [(3, .int v_27), (4, .int i4_L_13), (0, .ref h0), (1, .int pT), (2, .ref pRi)]) hx hb dX3_foremostOf_44 rfl hl (by decide) rfl (fun ls hl => ?_)
            obtain ⟨v_28, ev_28⟩ : ∃ y : Int32, y = i4_L_13 + 1 := ⟨_, rfl⟩
            have hv_28 : v_28.toInt = ((i4_L_13).toInt + (1:Int)) := by rw [ev_28]; exact zz_addI rfl (by decide) (by omega) (by omega)
            refine lv_iinc (v := v_28) (lv' := [(4, .int v_28), (3, .int v_27), (0, .ref h0), (1, .int pT), (2, .ref pRi)]) hx hb dX3_foremostOf_45 hl (k := 1) rfl (by rw [ev_28]; rfl) (by decide) rfl (fun ls hl => ?_)
            refine lv_goto (tgt := 5) hx hb dX3_foremostOf_48 (by decide) ?_
            have hb_29_i4_L_13 : (v_28 : Int32).toInt = ((i4_L_13).toInt + (1:Int)) := hv_28
            have hb_29_i3_L_13 : (v_27 : Int32).toInt = (v_27).toInt := rfl
            exact ih_14 v_28 v_27 H locs ls (by omega) (by omega) (by omega) (hP.sub [0, 1, 2, 3, 4] rfl) (hD.sub [0, 1, 2, 3, 4] (by decide) rfl) hS (lv_sub hl [0, 1, 2, 3, 4] rfl)
  have hb_30_i4_L_13 : (0 : Int32).toInt = (0:Int) := (by decide)
  have hb_30_i3_L_13 : (0 : Int32).toInt = (0:Int) := (by decide)
  exact L_13 1000 0 0 s.heap [] ls (by omega) (by omega) (by omega) (hP.sub [0, 1, 2, 3, 4] rfl) (hD.sub [0, 1, 2, 3, 4] (by decide) rfl) hS (lv_sub hl [0, 1, 2, 3, 4] rfl)

set_option maxHeartbeats 8000000 in
set_option maxRecDepth 100000 in
theorem c_X3_scoreOf (l : Launch) (dC : Nat → ClassId) (dI : Nat → Nat → Nat) (cI cZ : ClassId) (sz : Nat) (h0 : Nat) (pT : Int32) (pT_i : Int) (pT_h : pT.toInt = pT_i) (pRi : Nat) (v_x_minute : Int32) (v_x_minute_i : Int) (v_x_minute_h : v_x_minute.toInt = v_x_minute_i) (v_x_left : Int32) (v_x_left_i : Int) (v_x_left_h : v_x_left.toInt = v_x_left_i) (v_x_primes : Int32) (v_x_primes_i : Int) (v_x_primes_h : v_x_primes.toInt = v_x_primes_i) (B_v_x_primes : 0 ≤ v_x_primes_i ∧ v_x_primes_i ≤ 5) (j_x_lot : Int64) (v_x_foremost : Int32) (v_x_foremost_i : Int) (v_x_foremost_h : v_x_foremost.toInt = v_x_foremost_i) (x_rides : Nat) (x_metres : Nat) (x_store : Nat) (x_seconds : Nat) (x_timesHeld : Nat) (x_work : Nat) (x_heldFor : Nat) (x_primeSeconds : Nat) (x_orderRows : Nat) (x_bunches : Nat) (x_values : Nat) (f_x_seconds : Nat → Int32) (v_r_number : Int32) (v_r_number_i : Int) (v_r_number_h : v_r_number.toInt = v_r_number_i) (B_v_r_number : 0 ≤ v_r_number_i ∧ v_r_number_i ≤ 20) (r_teams : Nat) (r_steady : Nat) (r_full : Nat) (r_climb : Nat) (f_r_teams : Nat → Int32) (R_r_teams : zr f_r_teams 20 (0) (4)) : Met l yX3_scoreOf (Cond.code yX3_scoreOf cX3_scoreOf 7 (some .int) :: lw_good) ({ frames := 3, cells := 0, slots := 0, locals := 70 }) (va_Pc [.ref h0, .int pT, .ref pRi] (fun U => U.heap.size = sz ∧ va_P (dC, dI) vwCl [(h0, .inr (3, [.int v_x_minute, .int v_x_left, .int v_x_primes, .long j_x_lot, .int v_x_foremost, .ref x_rides, .ref x_metres, .ref x_store, .ref x_seconds, .ref x_timesHeld, .ref x_work, .ref x_heldFor, .ref x_primeSeconds, .ref x_orderRows, .ref x_bunches, .ref x_values])), (x_seconds, .inl (cI, 20, .inl f_x_seconds)), (pRi, .inr (5, [.int v_r_number, .ref r_teams, .ref r_steady, .ref r_full, .ref r_climb])), (r_teams, .inl (cI, 20, .inl f_r_teams))] U.heap ∧ va_K (dC, dI) vwCl [(cI, .int), (cZ, .boolean)] U ∧ va_D (fun _ => True) [(h0, .inr (3, [.int v_x_minute, .int v_x_left, .int v_x_primes, .long j_x_lot, .int v_x_foremost, .ref x_rides, .ref x_metres, .ref x_store, .ref x_seconds, .ref x_timesHeld, .ref x_work, .ref x_heldFor, .ref x_primeSeconds, .ref x_orderRows, .ref x_bunches, .ref x_values])), (x_seconds, .inl (cI, 20, .inl f_x_seconds)), (pRi, .inr (5, [.int v_r_number, .ref r_teams, .ref r_steady, .ref r_full, .ref r_climb])), (r_teams, .inl (cI, 20, .inl f_r_teams))])) (va_Qi (fun (r u : Int32) => r = u) (fun u t => va_P (dC, dI) vwCl [(h0, .inr (3, [.int v_x_minute, .int v_x_left, .int v_x_primes, .long j_x_lot, .int v_x_foremost, .ref x_rides, .ref x_metres, .ref x_store, .ref x_seconds, .ref x_timesHeld, .ref x_work, .ref x_heldFor, .ref x_primeSeconds, .ref x_orderRows, .ref x_bunches, .ref x_values])), (x_seconds, .inl (cI, 20, .inl f_x_seconds)), (pRi, .inr (5, [.int v_r_number, .ref r_teams, .ref r_steady, .ref r_full, .ref r_climb])), (r_teams, .inl (cI, 20, .inl f_r_teams))] t.heap ∧ va_K (dC, dI) vwCl [(cI, .int), (cZ, .boolean)] t ∧ va_D (va_A [(h0, .inr (3, [.int v_x_minute, .int v_x_left, .int v_x_primes, .long j_x_lot, .int v_x_foremost, .ref x_rides, .ref x_metres, .ref x_store, .ref x_seconds, .ref x_timesHeld, .ref x_work, .ref x_heldFor, .ref x_primeSeconds, .ref x_orderRows, .ref x_bunches, .ref x_values])), (x_seconds, .inl (cI, 20, .inl f_x_seconds)), (pRi, .inr (5, [.int v_r_number, .ref r_teams, .ref r_steady, .ref r_full, .ref r_climb])), (r_teams, .inl (cI, 20, .inl f_r_teams))] sz) [(h0, .inr (3, [.int v_x_minute, .int v_x_left, .int v_x_primes, .long j_x_lot, .int v_x_foremost, .ref x_rides, .ref x_metres, .ref x_store, .ref x_seconds, .ref x_timesHeld, .ref x_work, .ref x_heldFor, .ref x_primeSeconds, .ref x_orderRows, .ref x_bunches, .ref x_values])), (x_seconds, .inl (cI, 20, .inl f_x_seconds)), (pRi, .inr (5, [.int v_r_number, .ref r_teams, .ref r_steady, .ref r_full, .ref r_climb])), (r_teams, .inl (cI, 20, .inl f_r_teams))]) (va_A [(h0, .inr (3, [.int v_x_minute, .int v_x_left, .int v_x_primes, .long j_x_lot, .int v_x_foremost, .ref x_rides, .ref x_metres, .ref x_store, .ref x_seconds, .ref x_timesHeld, .ref x_work, .ref x_heldFor, .ref x_primeSeconds, .ref x_orderRows, .ref x_bunches, .ref x_values])), (x_seconds, .inl (cI, 20, .inl f_x_seconds)), (pRi, .inr (5, [.int v_r_number, .ref r_teams, .ref r_steady, .ref r_full, .ref r_climb])), (r_teams, .inl (cI, 20, .inl f_r_teams))] sz)) 0 0 (va_A [(h0, .inr (3, [.int v_x_minute, .int v_x_left, .int v_x_primes, .long j_x_lot, .int v_x_foremost, .ref x_rides, .ref x_metres, .ref x_store, .ref x_seconds, .ref x_timesHeld, .ref x_work, .ref x_heldFor, .ref x_primeSeconds, .ref x_orderRows, .ref x_bunches, .ref x_values])), (x_seconds, .inl (cI, 20, .inl f_x_seconds)), (pRi, .inr (5, [.int v_r_number, .ref r_teams, .ref r_steady, .ref r_full, .ref r_climb])), (r_teams, .inl (cI, 20, .inl f_r_teams))] sz) := by
  refine Met.ofW (cc := cX3_scoreOf) (maxL := 7) (ret := (some .int)) (by decide) rfl ?_
  intro p e s m args below meth c s₁ B hml hv
  obtain ⟨rfl, hsz, hP, hK, hD0⟩ := hv
  have hx := B.exec
  have hb := B.bytes
  have hr := B.returns
  have hts := atoms_spec (ws := Cond.code yX3_scoreOf cX3_scoreOf 7 (some .int) :: lw_good) B.pre
  have hown : s.vm.findClass RX3 = some m.cls := findClass_of_methodNamed B.named
  have hlocks := B.notSynchronized
  have hiX5 : ∀ w ∈ wsX50, w ∈ (Cond.code yX3_scoreOf cX3_scoreOf 7 (some .int) :: lw_good) := fun w h => List.mem_cons_of_mem _ (zi_X5 w h)
  have hw0 := hts (.initialized RX3) (List.mem_cons_of_mem _ zw_54)
  have hw1 := hts (.methodLink RX3 195 yX3_riderAt) (List.mem_cons_of_mem _ zw_718)
  have hw2 := hts (.instanceMethod yX3_riderAt) (List.mem_cons_of_mem _ zw_619)
  have hw3 := hts (.selects RX3 yX3_riderAt yX3_riderAt) (List.mem_cons_of_mem _ zw_620)
  have hw4 := hts (.fieldLink RX3 143 "BunchRace$Riders" "teams" "[I") (List.mem_cons_of_mem _ zw_79)
  subst hsz
  have hD := hD0.self (sz := s.heap.size)
  generalize hAe : va_A [(h0, .inr (3, [.int v_x_minute, .int v_x_left, .int v_x_primes, .long j_x_lot, .int v_x_foremost, .ref x_rides, .ref x_metres, .ref x_store, .ref x_seconds, .ref x_timesHeld, .ref x_work, .ref x_heldFor, .ref x_primeSeconds, .ref x_orderRows, .ref x_bunches, .ref x_values])), (x_seconds, .inl (cI, 20, .inl f_x_seconds)), (pRi, .inr (5, [.int v_r_number, .ref r_teams, .ref r_steady, .ref r_full, .ref r_climb])), (r_teams, .inl (cI, 20, .inl f_r_teams))] s.heap.size = A at hD ⊢
  have hA : ∀ q : Nat, s.heap.size ≤ q → A q := fun q h => by rw [← hAe]; exact Or.inr h
  have hS : va_S A s.heap s.heap [] := va_S.rf
  have hP : va_P (dC, dI) vwCl [(h0, .inr (3, [.int v_x_minute, .int v_x_left, .int v_x_primes, .long j_x_lot, .int v_x_foremost, .ref x_rides, .ref x_metres, .ref x_store, .ref x_seconds, .ref x_timesHeld, .ref x_work, .ref x_heldFor, .ref x_primeSeconds, .ref x_orderRows, .ref x_bunches, .ref x_values])), (x_seconds, .inl (cI, 20, .inl f_x_seconds)), (pRi, .inr (5, [.int v_r_number, .ref r_teams, .ref r_steady, .ref r_full, .ref r_climb])), (r_teams, .inl (cI, 20, .inl f_r_teams))] s.heap := hP
  have hl := lv_entry ([.ref h0, .int pT, .ref pRi]) (n := 7) (Nat.le_of_ble_eq_true rfl)
  rw [lg_entry_eq]
  generalize (lg_sl ([.ref h0, .int pT, .ref pRi]) ++ List.replicate (7 - (lg_sl ([.ref h0, .int pT, .ref pRi])).length) Slot.unset).toArray = ls at hl ⊢
  have hl : lv_has ls 7 [(0, .ref h0), (1, .int pT), (2, .ref pRi)] := hl
  refine lv_iconst (v := 0) hx hb dX3_scoreOf_0 (by decide) ?_
  refine lv_istore_n (lv' := [(3, .int 0), (0, .ref h0), (1, .int pT), (2, .ref pRi)]) hx hb dX3_scoreOf_1 rfl hl (by decide) rfl (fun ls hl => ?_)
  refine lv_iconst (v := 0) hx hb dX3_scoreOf_2 (by decide) ?_
  refine lv_istore (lv' := [(4, .int 0), (3, .int 0), (0, .ref h0), (1, .int pT), (2, .ref pRi)]) hx hb dX3_scoreOf_3 hl (by decide) rfl (fun ls hl => ?_)
  refine lv_iconst (v := 1) hx hb dX3_scoreOf_5 (by decide) ?_
  refine lv_istore (lv' := [(5, .int 1), (4, .int 0), (3, .int 0), (0, .ref h0), (1, .int pT), (2, .ref pRi)]) hx hb dX3_scoreOf_6 hl (by decide) rfl (fun ls hl => ?_)
  have L_24 : ∀ (n : Nat) (i5_L_24 : Int32) (i4_L_24 : Int32) (i3_L_24 : Int32) (H : Heap) (locs : List Loc) (ls : Array Slot), (1 ≤ i5_L_24.toInt) → (i5_L_24.toInt ≤ 21) → (21 - i5_L_24.toInt) < (n : Int) → va_P (dC, dI) vwCl [(h0, .inr (3, [.int v_x_minute, .int v_x_left, .int v_x_primes, .long j_x_lot, .int v_x_foremost, .ref x_rides, .ref x_metres, .ref x_store, .ref x_seconds, .ref x_timesHeld, .ref x_work, .ref x_heldFor, .ref x_primeSeconds, .ref x_orderRows, .ref x_bunches, .ref x_values])), (x_seconds, .inl (cI, 20, .inl f_x_seconds)), (pRi, .inr (5, [.int v_r_number, .ref r_teams, .ref r_steady, .ref r_full, .ref r_climb])), (r_teams, .inl (cI, 20, .inl f_r_teams))] H → va_D A [(h0, .inr (3, [.int v_x_minute, .int v_x_left, .int v_x_primes, .long j_x_lot, .int v_x_foremost, .ref x_rides, .ref x_metres, .ref x_store, .ref x_seconds, .ref x_timesHeld, .ref x_work, .ref x_heldFor, .ref x_primeSeconds, .ref x_orderRows, .ref x_bunches, .ref x_values])), (x_seconds, .inl (cI, 20, .inl f_x_seconds)), (pRi, .inr (5, [.int v_r_number, .ref r_teams, .ref r_steady, .ref r_full, .ref r_climb])), (r_teams, .inl (cI, 20, .inl f_r_teams))] → va_S A s.heap H locs → lv_has ls 7 [(5, .int i5_L_24), (4, .int i4_L_24), (3, .int i3_L_24), (0, .ref h0), (1, .int pT), (2, .ref pRi)] → W p l e ((headSpec (Cond.code yX3_scoreOf cX3_scoreOf 7 (some .int) :: lw_good) ({ frames := 3, cells := 0, slots := 0, locals := 70 })).room) s m (([.ref h0, .int pT, .ref pRi] : List Value).toArray) below meth c H locs 0 0 (MQ below (va_Qi (fun (r u : Int32) => r = u) (fun u t => va_P (dC, dI) vwCl [(h0, .inr (3, [.int v_x_minute, .int v_x_left, .int v_x_primes, .long j_x_lot, .int v_x_foremost, .ref x_rides, .ref x_metres, .ref x_store, .ref x_seconds, .ref x_timesHeld, .ref x_work, .ref x_heldFor, .ref x_primeSeconds, .ref x_orderRows, .ref x_bunches, .ref x_values])), (x_seconds, .inl (cI, 20, .inl f_x_seconds)), (pRi, .inr (5, [.int v_r_number, .ref r_teams, .ref r_steady, .ref r_full, .ref r_climb])), (r_teams, .inl (cI, 20, .inl f_r_teams))] t.heap ∧ va_K (dC, dI) vwCl [(cI, .int), (cZ, .boolean)] t ∧ va_D A [(h0, .inr (3, [.int v_x_minute, .int v_x_left, .int v_x_primes, .long j_x_lot, .int v_x_foremost, .ref x_rides, .ref x_metres, .ref x_store, .ref x_seconds, .ref x_timesHeld, .ref x_work, .ref x_heldFor, .ref x_primeSeconds, .ref x_orderRows, .ref x_bunches, .ref x_values])), (x_seconds, .inl (cI, 20, .inl f_x_seconds)), (pRi, .inr (5, [.int v_r_number, .ref r_teams, .ref r_steady, .ref r_full, .ref r_climb])), (r_teams, .inl (cI, 20, .inl f_r_teams))]) A) (([.ref h0, .int pT, .ref pRi] : List Value).toArray) s 0 0 A) (F0 m 8 ls []) := by
    intro n
    induction n with
    | zero =>
      intro i5_L_24 i4_L_24 i3_L_24 H locs ls hI0 hI1 hM
      exact absurd hM (by omega)
    | succ n ih =>
      intro i5_L_24 i4_L_24 i3_L_24 H locs ls hI0 hI1 hM hP hD hS hl
      have ih_25 := ih
      have hi_26 := hI0
      have hi_27 := hI1
      refine lv_iload hx hb dX3_scoreOf_8 (lv_at hl 0 rfl) ?_
      refine lv_bipush (v := 20) hx hb dX3_scoreOf_10 (by decide) ?_
      refine lv_icmp_gt (tgt := 60) hx hb dX3_scoreOf_12 (by decide) (fun c_28 => ?_) (fun c_28 => ?_)
      ·
        have c_28 : (20:Int) < (i5_L_24).toInt := zz_lt (by decide) rfl c_28
        refine lv_iload_n hx hb dX3_scoreOf_60 rfl (lv_at hl 2 rfl) ?_
        refine lv_bipush (v := 40) hx hb dX3_scoreOf_61 (by decide) ?_
        refine lv_iconst (v := 3) hx hb dX3_scoreOf_63 (by decide) ?_
        refine lv_iload hx hb dX3_scoreOf_64 (lv_at hl 1 rfl) ?_
        refine lv_isub hx hb dX3_scoreOf_66 ?_
        refine lv_topi (fun v_29 _ => ?_)
        refine lv_imul hx hb dX3_scoreOf_67 ?_
        refine lv_topi (fun v_30 _ => ?_)
        refine lv_iadd hx hb dX3_scoreOf_68 ?_
        refine lv_topi (fun v_31 _ => ?_)
        have hu9 : (v_31 : Int32).toInt = (v_31).toInt := rfl
        have hP9 := hP.sub (ws' := [(h0, .inr (3, [.int v_x_minute, .int v_x_left, .int v_x_primes, .long j_x_lot, .int v_x_foremost, .ref x_rides, .ref x_metres, .ref x_store, .ref x_seconds, .ref x_timesHeld, .ref x_work, .ref x_heldFor, .ref x_primeSeconds, .ref x_orderRows, .ref x_bunches, .ref x_values])), (x_seconds, .inl (cI, 20, .inl f_x_seconds)), (pRi, .inr (5, [.int v_r_number, .ref r_teams, .ref r_steady, .ref r_full, .ref r_climb])), (r_teams, .inl (cI, 20, .inl f_r_teams))]) [0, 1, 2, 3] rfl
        have hD9 := hD.sub (ws' := [(h0, .inr (3, [.int v_x_minute, .int v_x_left, .int v_x_primes, .long j_x_lot, .int v_x_foremost, .ref x_rides, .ref x_metres, .ref x_store, .ref x_seconds, .ref x_timesHeld, .ref x_work, .ref x_heldFor, .ref x_primeSeconds, .ref x_orderRows, .ref x_bunches, .ref x_values])), (x_seconds, .inl (cI, 20, .inl f_x_seconds)), (pRi, .inr (5, [.int v_r_number, .ref r_teams, .ref r_steady, .ref r_full, .ref r_climb])), (r_teams, .inl (cI, 20, .inl f_r_teams))]) [0, 1, 2, 3] (by decide) rfl
        exact W.iret (v := v_31) hx hb hr (fun t ht hW => ⟨⟨v_31, v_31, rfl, rfl, by rw [ht]; exact hP9, va_K.moved hW.alike hK, hD9⟩, hS.F ht⟩) hS.2.2 dX3_scoreOf_69
      ·
        have c_28 : ¬ ((20:Int) < (i5_L_24).toInt) := zz_ltn (by decide) rfl c_28
        refine lv_iload hx hb dX3_scoreOf_15 (lv_at hl 1 rfl) ?_
        refine lv_iconst (v := 3) hx hb dX3_scoreOf_17 (by decide) ?_
        refine lv_icmp_ge (tgt := 60) hx hb dX3_scoreOf_18 (by decide) (fun c_32 => ?_) (fun c_32 => ?_)
        ·
          have c_32 : (3:Int) ≤ (i4_L_24).toInt := zz_le (by decide) rfl c_32
          refine lv_iload_n hx hb dX3_scoreOf_60 rfl (lv_at hl 2 rfl) ?_
          refine lv_bipush (v := 40) hx hb dX3_scoreOf_61 (by decide) ?_
          refine lv_iconst (v := 3) hx hb dX3_scoreOf_63 (by decide) ?_
          refine lv_iload hx hb dX3_scoreOf_64 (lv_at hl 1 rfl) ?_
          refine lv_isub hx hb dX3_scoreOf_66 ?_
          have hr_33 := zz_rngF (a := (i4_L_24).toInt) rfl
          refine lv_topi (fun v_34 ev_34 => ?_)
          have hv_34 : v_34.toInt = ((3:Int) - (i4_L_24).toInt) := by rw [ev_34]; exact zz_subI (by decide) rfl (by omega) (by omega)
          refine lv_imul hx hb dX3_scoreOf_67 ?_
          refine lv_topi (fun v_35 _ => ?_)
          refine lv_iadd hx hb dX3_scoreOf_68 ?_
          refine lv_topi (fun v_36 _ => ?_)
          have hu9 : (v_36 : Int32).toInt = (v_36).toInt := rfl
          have hP9 := hP.sub (ws' := [(h0, .inr (3, [.int v_x_minute, .int v_x_left, .int v_x_primes, .long j_x_lot, .int v_x_foremost, .ref x_rides, .ref x_metres, .ref x_store, .ref x_seconds, .ref x_timesHeld, .ref x_work, .ref x_heldFor, .ref x_primeSeconds, .ref x_orderRows, .ref x_bunches, .ref x_values])), (x_seconds, .inl (cI, 20, .inl f_x_seconds)), (pRi, .inr (5, [.int v_r_number, .ref r_teams, .ref r_steady, .ref r_full, .ref r_climb])), (r_teams, .inl (cI, 20, .inl f_r_teams))]) [0, 1, 2, 3] rfl
          have hD9 := hD.sub (ws' := [(h0, .inr (3, [.int v_x_minute, .int v_x_left, .int v_x_primes, .long j_x_lot, .int v_x_foremost, .ref x_rides, .ref x_metres, .ref x_store, .ref x_seconds, .ref x_timesHeld, .ref x_work, .ref x_heldFor, .ref x_primeSeconds, .ref x_orderRows, .ref x_bunches, .ref x_values])), (x_seconds, .inl (cI, 20, .inl f_x_seconds)), (pRi, .inr (5, [.int v_r_number, .ref r_teams, .ref r_steady, .ref r_full, .ref r_climb])), (r_teams, .inl (cI, 20, .inl f_r_teams))]) [0, 1, 2, 3] (by decide) rfl
          exact W.iret (v := v_36) hx hb hr (fun t ht hW => ⟨⟨v_36, v_36, rfl, rfl, by rw [ht]; exact hP9, va_K.moved hW.alike hK, hD9⟩, hS.F ht⟩) hS.2.2 dX3_scoreOf_69
        ·
          have c_32 : ¬ ((3:Int) ≤ (i4_L_24).toInt) := zz_len (by decide) rfl c_32
          refine lv_aload_n hx hb dX3_scoreOf_21 rfl (lv_at hl 3 rfl) ?_
          refine lv_iload hx hb dX3_scoreOf_22 (lv_at hl 0 rfl) ?_
          have hPc := hP.sub (ws' := [(h0, .inr (3, [.int v_x_minute, .int v_x_left, .int v_x_primes, .long j_x_lot, .int v_x_foremost, .ref x_rides, .ref x_metres, .ref x_store, .ref x_seconds, .ref x_timesHeld, .ref x_work, .ref x_heldFor, .ref x_primeSeconds, .ref x_orderRows, .ref x_bunches, .ref x_values])), (x_seconds, .inl (cI, 20, .inl f_x_seconds))]) [0, 1] rfl
          have hDc := hD.sub (ws' := [(h0, .inr (3, [.int v_x_minute, .int v_x_left, .int v_x_primes, .long j_x_lot, .int v_x_foremost, .ref x_rides, .ref x_metres, .ref x_store, .ref x_seconds, .ref x_timesHeld, .ref x_work, .ref x_heldFor, .ref x_primeSeconds, .ref x_orderRows, .ref x_bunches, .ref x_values])), (x_seconds, .inl (cI, 20, .inl f_x_seconds))]) [0, 1] (by decide) rfl
          have hFc := va_free (wc := [(h0, .inr (3, [.int v_x_minute, .int v_x_left, .int v_x_primes, .long j_x_lot, .int v_x_foremost, .ref x_rides, .ref x_metres, .ref x_store, .ref x_seconds, .ref x_timesHeld, .ref x_work, .ref x_heldFor, .ref x_primeSeconds, .ref x_orderRows, .ref x_bunches, .ref x_values])), (x_seconds, .inl (cI, 20, .inl f_x_seconds))]) hD hS hA [0, 1] rfl
          refine va_calli (va_runV (As := [.int i5_L_24]) (rest := []) ⟨hx, hb, hml, hown, hts⟩ (c_X3_riderAt l dC dI cI cZ (H).size h0 i5_L_24 ((i5_L_24).toInt) rfl v_x_minute v_x_minute_i v_x_minute_h v_x_left v_x_left_i v_x_left_h v_x_primes v_x_primes_i v_x_primes_h (by omega) j_x_lot v_x_foremost v_x_foremost_i v_x_foremost_h x_rides x_metres x_store x_seconds x_timesHeld x_work x_heldFor x_primeSeconds x_orderRows x_bunches x_values f_x_seconds) ⟨callB_of 1 hts (zz_good zw_621) rfl rfl rfl hw0 hw1 (by decide +kernel) ⟨Nat.le_of_ble_eq_true rfl, Nat.le_of_ble_eq_true rfl⟩, hw2, hw3⟩ ⟨fun a U g mk q => by obtain ⟨q0, q1, qP, qK, qD⟩ := q; exact ⟨q0, q1, qP, va_K.moved (u := U) (U := U.calling g mk a) (Vm.Alike.refl U.vm) qK, qD⟩, va_recv hK hPc (ci := 3) (q0 := 0) rfl rfl, fun U hU hW => ⟨rfl, by rw [hU], by rw [hU]; exact hPc, va_K.moved hW.alike hK, hDc.weaken (fun _ _ _ _ => trivial)⟩⟩ rfl rfl hl.1 rfl (lv_room (Nat.le_of_ble_eq_true rfl)) dX3_scoreOf_24 ⟨Nat.le_of_ble_eq_true rfl, Nat.le_of_ble_eq_true rfl⟩) hS (fun q _ h => hFc q h) hFc (fun r_37 u t H1 locs ht hvm hpost hB hz1 hk1 hS => ?_)
          subst hpost
          obtain ⟨hf_38, hP1, hK1, hD1⟩ := hB
          rw [ht] at hP1
          obtain ⟨hP, hD⟩ := va_join (wr := [(pRi, .inr (5, [.int v_r_number, .ref r_teams, .ref r_steady, .ref r_full, .ref r_climb])), (r_teams, .inl (cI, 20, .inl f_r_teams))]) (w1 := [(h0, .inr (3, [.int v_x_minute, .int v_x_left, .int v_x_primes, .long j_x_lot, .int v_x_foremost, .ref x_rides, .ref x_metres, .ref x_store, .ref x_seconds, .ref x_timesHeld, .ref x_work, .ref x_heldFor, .ref x_primeSeconds, .ref x_orderRows, .ref x_bunches, .ref x_values])), (x_seconds, .inl (cI, 20, .inl f_x_seconds))]) hP hD [0, 1] [2, 3] rfl rfl (by decide) (by decide) hk1 hFc hP1 hD1
          generalize H1 = H at hP hS ⊢
          have hP : va_P (dC, dI) vwCl [(pRi, .inr (5, [.int v_r_number, .ref r_teams, .ref r_steady, .ref r_full, .ref r_climb])), (r_teams, .inl (cI, 20, .inl f_r_teams)), (h0, .inr (3, [.int v_x_minute, .int v_x_left, .int v_x_primes, .long j_x_lot, .int v_x_foremost, .ref x_rides, .ref x_metres, .ref x_store, .ref x_seconds, .ref x_timesHeld, .ref x_work, .ref x_heldFor, .ref x_primeSeconds, .ref x_orderRows, .ref x_bunches, .ref x_values])), (x_seconds, .inl (cI, 20, .inl f_x_seconds))] H := hP
          have hD : va_D A [(pRi, .inr (5, [.int v_r_number, .ref r_teams, .ref r_steady, .ref r_full, .ref r_climb])), (r_teams, .inl (cI, 20, .inl f_r_teams)), (h0, .inr (3, [.int v_x_minute, .int v_x_left, .int v_x_primes, .long j_x_lot, .int v_x_foremost, .ref x_rides, .ref x_metres, .ref x_store, .ref x_seconds, .ref x_timesHeld, .ref x_work, .ref x_heldFor, .ref x_primeSeconds, .ref x_orderRows, .ref x_bunches, .ref x_values])), (x_seconds, .inl (cI, 20, .inl f_x_seconds))] := hD
          have hf_38 : -1 ≤ r_37.toInt ∧ r_37.toInt ≤ 19 := hf_38
          refine lv_istore (lv' := [(6, .int r_37), (5, .int i5_L_24), (4, .int i4_L_24), (3, .int i3_L_24), (0, .ref h0), (1, .int pT), (2, .ref pRi)]) hx hb dX3_scoreOf_27 hl (by decide) rfl (fun ls hl => ?_)
          refine lv_iload hx hb dX3_scoreOf_29 (lv_at hl 0 rfl) ?_
          refine lv_iconst (v := (-1)) hx hb dX3_scoreOf_31 (by decide) ?_
          refine lv_icmp_eq (tgt := 54) hx hb dX3_scoreOf_32 (by decide) (fun c_39 => ?_) (fun c_39 => ?_)
          ·
            have c_39 : (r_37).toInt = (-1:Int) := zz_eq rfl (by decide) c_39
            obtain ⟨v_40, ev_40⟩ : ∃ y : Int32, y = i5_L_24 + 1 := ⟨_, rfl⟩
            have hv_40 : v_40.toInt = ((i5_L_24).toInt + (1:Int)) := by rw [ev_40]; exact zz_addI rfl (by decide) (by omega) (by omega)
            refine lv_iinc (v := v_40) (lv' := [(5, .int v_40), (6, .int r_37), (4, .int i4_L_24), (3, .int i3_L_24), (0, .ref h0), (1, .int pT), (2, .ref pRi)]) hx hb dX3_scoreOf_54 hl (k := 1) rfl (by rw [ev_40]; rfl) (by decide) rfl (fun ls hl => ?_)
            refine lv_goto (tgt := 8) hx hb dX3_scoreOf_57 (by decide) ?_
            have hb_41_i5_L_24 : (v_40 : Int32).toInt = ((i5_L_24).toInt + (1:Int)) := hv_40
            have hb_41_i4_L_24 : (i4_L_24 : Int32).toInt = (i4_L_24).toInt := rfl
            have hb_41_i3_L_24 : (i3_L_24 : Int32).toInt = (i3_L_24).toInt := rfl
            exact ih_25 v_40 i4_L_24 i3_L_24 H locs ls (by omega) (by omega) (by omega) (hP.sub [2, 3, 0, 1] rfl) (hD.sub [2, 3, 0, 1] (by decide) rfl) hS (lv_sub hl [0, 2, 3, 4, 5, 6] rfl)
          ·
            have c_39 : ¬ ((r_37).toInt = (-1:Int)) := zz_eqn rfl (by decide) c_39
            refine lv_aload_n hx hb dX3_scoreOf_35 rfl (lv_at hl 6 rfl) ?_
            refine va_get (D := (dC, dI)) (ci := 5) (v := .ref r_teams) (C := RX5) (T := TX5) (N := 5) hx hb hts hiX5 hown hK hP 0 rfl rfl 1 (by decide) hw4 (fun _ h9 => h9) rfl dX3_scoreOf_36 ?_
            refine lv_iload hx hb dX3_scoreOf_39 (lv_at hl 0 rfl) ?_
            refine va_iald hx hb hK hP 1 0 rfl rfl (zz_in (a := (r_37).toInt) rfl (by omega) (by omega)) dX3_scoreOf_41 ?_
            refine lv_topi (fun v_42 ev_42 => ?_)
            have bv_42 : 0 ≤ v_42.toInt ∧ v_42.toInt ≤ 4 := by rw [ev_42]; exact zr_get (a := (r_37).toInt) R_r_teams rfl (by omega) (by omega)
            refine lv_iload_n hx hb dX3_scoreOf_42 rfl (lv_at hl 5 rfl) ?_
            refine lv_icmp_ne (tgt := 54) hx hb dX3_scoreOf_43 (by decide) (fun c_43 => ?_) (fun c_43 => ?_)
            ·
              have c_43 : ¬ ((v_42).toInt = pT_i) := zz_eqn rfl pT_h c_43
              obtain ⟨v_44, ev_44⟩ : ∃ y : Int32, y = i5_L_24 + 1 := ⟨_, rfl⟩
              have hv_44 : v_44.toInt = ((i5_L_24).toInt + (1:Int)) := by rw [ev_44]; exact zz_addI rfl (by decide) (by omega) (by omega)
              refine lv_iinc (v := v_44) (lv' := [(5, .int v_44), (6, .int r_37), (4, .int i4_L_24), (3, .int i3_L_24), (0, .ref h0), (1, .int pT), (2, .ref pRi)]) hx hb dX3_scoreOf_54 hl (k := 1) rfl (by rw [ev_44]; rfl) (by decide) rfl (fun ls hl => ?_)
              refine lv_goto (tgt := 8) hx hb dX3_scoreOf_57 (by decide) ?_
              have hb_45_i5_L_24 : (v_44 : Int32).toInt = ((i5_L_24).toInt + (1:Int)) := hv_44
              have hb_45_i4_L_24 : (i4_L_24 : Int32).toInt = (i4_L_24).toInt := rfl
              have hb_45_i3_L_24 : (i3_L_24 : Int32).toInt = (i3_L_24).toInt := rfl
              exact ih_25 v_44 i4_L_24 i3_L_24 H locs ls (by omega) (by omega) (by omega) (hP.sub [2, 3, 0, 1] rfl) (hD.sub [2, 3, 0, 1] (by decide) rfl) hS (lv_sub hl [0, 2, 3, 4, 5, 6] rfl)
            ·
              have c_43 : (v_42).toInt = pT_i := zz_eq rfl pT_h c_43
              refine lv_iload_n hx hb dX3_scoreOf_46 rfl (lv_at hl 3 rfl) ?_
              refine lv_iload hx hb dX3_scoreOf_47 (lv_at hl 1 rfl) ?_
              refine lv_iadd hx hb dX3_scoreOf_49 ?_
              refine lv_topi (fun v_46 _ => ?_)
              refine lv_istore_n (lv' := [(3, .int v_46), (6, .int r_37), (5, .int i5_L_24), (4, .int i4_L_24), (0, .ref h0), (1, .int pT), (2, .ref pRi)]) hx hb dX3_scoreOf_50 rfl hl (by decide) rfl (fun ls hl => ?_)
              obtain ⟨v_47, ev_47⟩ : ∃ y : Int32, y = i4_L_24 + 1 := ⟨_, rfl⟩
              have hr_48 := zz_rngF (a := (i4_L_24).toInt) rfl
              have hv_47 : v_47.toInt = ((i4_L_24).toInt + (1:Int)) := by rw [ev_47]; exact zz_addI rfl (by decide) (by omega) (by omega)
              refine lv_iinc (v := v_47) (lv' := [(4, .int v_47), (3, .int v_46), (6, .int r_37), (5, .int i5_L_24), (0, .ref h0), (1, .int pT), (2, .ref pRi)]) hx hb dX3_scoreOf_51 hl (k := 3) rfl (by rw [ev_47]; rfl) (by decide) rfl (fun ls hl => ?_)
              obtain ⟨v_49, ev_49⟩ : ∃ y : Int32, y = i5_L_24 + 1 := ⟨_, rfl⟩
              have hv_49 : v_49.toInt = ((i5_L_24).toInt + (1:Int)) := by rw [ev_49]; exact zz_addI rfl (by decide) (by omega) (by omega)
              refine lv_iinc (v := v_49) (lv' := [(5, .int v_49), (4, .int v_47), (3, .int v_46), (6, .int r_37), (0, .ref h0), (1, .int pT), (2, .ref pRi)]) hx hb dX3_scoreOf_54 hl (k := 3) rfl (by rw [ev_49]; rfl) (by decide) rfl (fun ls hl => ?_)
              refine lv_goto (tgt := 8) hx hb dX3_scoreOf_57 (by decide) ?_
              have hb_50_i5_L_24 : (v_49 : Int32).toInt = ((i5_L_24).toInt + (1:Int)) := hv_49
              have hb_50_i4_L_24 : (v_47 : Int32).toInt = ((i4_L_24).toInt + (1:Int)) := hv_47
              have hb_50_i3_L_24 : (v_46 : Int32).toInt = (v_46).toInt := rfl
              exact ih_25 v_49 v_47 v_46 H locs ls (by omega) (by omega) (by omega) (hP.sub [2, 3, 0, 1] rfl) (hD.sub [2, 3, 0, 1] (by decide) rfl) hS (lv_sub hl [0, 1, 2, 4, 5, 6] rfl)
  have hb_51_i5_L_24 : (1 : Int32).toInt = (1:Int) := (by decide)
  have hb_51_i4_L_24 : (0 : Int32).toInt = (0:Int) := (by decide)
  have hb_51_i3_L_24 : (0 : Int32).toInt = (0:Int) := (by decide)
  exact L_24 1000 1 0 0 s.heap [] ls (by omega) (by omega) (by omega) (hP.sub [0, 1, 2, 3] rfl) (hD.sub [0, 1, 2, 3] (by decide) rfl) hS (lv_sub hl [0, 1, 2, 3, 4, 5] rfl)

set_option maxHeartbeats 8000000 in
set_option maxRecDepth 100000 in
theorem c_X3_lessenHolds (l : Launch) (dC : Nat → ClassId) (dI : Nat → Nat → Nat) (cI cZ : ClassId) (sz : Nat) (h0 : Nat) (v_x_minute : Int32) (v_x_minute_i : Int) (v_x_minute_h : v_x_minute.toInt = v_x_minute_i) (v_x_left : Int32) (v_x_left_i : Int) (v_x_left_h : v_x_left.toInt = v_x_left_i) (v_x_primes : Int32) (v_x_primes_i : Int) (v_x_primes_h : v_x_primes.toInt = v_x_primes_i) (B_v_x_primes : 0 ≤ v_x_primes_i ∧ v_x_primes_i ≤ 5) (j_x_lot : Int64) (v_x_foremost : Int32) (v_x_foremost_i : Int) (v_x_foremost_h : v_x_foremost.toInt = v_x_foremost_i) (x_rides : Nat) (x_metres : Nat) (x_store : Nat) (x_seconds : Nat) (x_timesHeld : Nat) (x_work : Nat) (x_heldFor : Nat) (x_primeSeconds : Nat) (x_orderRows : Nat) (x_bunches : Nat) (x_values : Nat) (f_x_heldFor : Nat → Int32) : Met l yX3_lessenHolds (Cond.code yX3_lessenHolds cX3_lessenHolds 2 none :: lw_good) ({ frames := 0, cells := 0, slots := 0, locals := 0 }) (va_Pc [.ref h0] (fun U => U.heap.size = sz ∧ va_P (dC, dI) vwCl [(h0, .inr (3, [.int v_x_minute, .int v_x_left, .int v_x_primes, .long j_x_lot, .int v_x_foremost, .ref x_rides, .ref x_metres, .ref x_store, .ref x_seconds, .ref x_timesHeld, .ref x_work, .ref x_heldFor, .ref x_primeSeconds, .ref x_orderRows, .ref x_bunches, .ref x_values])), (x_heldFor, .inl (cI, 20, .inl f_x_heldFor))] U.heap ∧ va_K (dC, dI) vwCl [(cI, .int), (cZ, .boolean)] U ∧ va_D (fun _ => True) [(h0, .inr (3, [.int v_x_minute, .int v_x_left, .int v_x_primes, .long j_x_lot, .int v_x_foremost, .ref x_rides, .ref x_metres, .ref x_store, .ref x_seconds, .ref x_timesHeld, .ref x_work, .ref x_heldFor, .ref x_primeSeconds, .ref x_orderRows, .ref x_bunches, .ref x_values])), (x_heldFor, .inl (cI, 20, .inl f_x_heldFor))])) (va_Qv (fun _ : Unit => True) (fun _ t => ∃ (g_x_heldFor : Nat → Int32), va_P (dC, dI) vwCl [(h0, .inr (3, [.int v_x_minute, .int v_x_left, .int v_x_primes, .long j_x_lot, .int v_x_foremost, .ref x_rides, .ref x_metres, .ref x_store, .ref x_seconds, .ref x_timesHeld, .ref x_work, .ref x_heldFor, .ref x_primeSeconds, .ref x_orderRows, .ref x_bunches, .ref x_values])), (x_heldFor, .inl (cI, 20, .inl g_x_heldFor))] t.heap ∧ va_K (dC, dI) vwCl [(cI, .int), (cZ, .boolean)] t ∧ va_D (va_A [(h0, .inr (3, [.int v_x_minute, .int v_x_left, .int v_x_primes, .long j_x_lot, .int v_x_foremost, .ref x_rides, .ref x_metres, .ref x_store, .ref x_seconds, .ref x_timesHeld, .ref x_work, .ref x_heldFor, .ref x_primeSeconds, .ref x_orderRows, .ref x_bunches, .ref x_values])), (x_heldFor, .inl (cI, 20, .inl f_x_heldFor))] sz) [(h0, .inr (3, [.int v_x_minute, .int v_x_left, .int v_x_primes, .long j_x_lot, .int v_x_foremost, .ref x_rides, .ref x_metres, .ref x_store, .ref x_seconds, .ref x_timesHeld, .ref x_work, .ref x_heldFor, .ref x_primeSeconds, .ref x_orderRows, .ref x_bunches, .ref x_values])), (x_heldFor, .inl (cI, 20, .inl g_x_heldFor))]) (va_A [(h0, .inr (3, [.int v_x_minute, .int v_x_left, .int v_x_primes, .long j_x_lot, .int v_x_foremost, .ref x_rides, .ref x_metres, .ref x_store, .ref x_seconds, .ref x_timesHeld, .ref x_work, .ref x_heldFor, .ref x_primeSeconds, .ref x_orderRows, .ref x_bunches, .ref x_values])), (x_heldFor, .inl (cI, 20, .inl f_x_heldFor))] sz)) 0 0 (va_A [(h0, .inr (3, [.int v_x_minute, .int v_x_left, .int v_x_primes, .long j_x_lot, .int v_x_foremost, .ref x_rides, .ref x_metres, .ref x_store, .ref x_seconds, .ref x_timesHeld, .ref x_work, .ref x_heldFor, .ref x_primeSeconds, .ref x_orderRows, .ref x_bunches, .ref x_values])), (x_heldFor, .inl (cI, 20, .inl f_x_heldFor))] sz) := by
  refine Met.ofW (cc := cX3_lessenHolds) (maxL := 2) (ret := none) (by decide) rfl ?_
  intro p e s m args below meth c s₁ B hml hv
  obtain ⟨rfl, hsz, hP, hK, hD0⟩ := hv
  have hx := B.exec
  have hb := B.bytes
  have hr := B.returns
  have hts := atoms_spec (ws := Cond.code yX3_lessenHolds cX3_lessenHolds 2 none :: lw_good) B.pre
  have hown : s.vm.findClass RX3 = some m.cls := findClass_of_methodNamed B.named
  have hlocks := B.notSynchronized
  have hiX3 : ∀ w ∈ wsX30, w ∈ (Cond.code yX3_lessenHolds cX3_lessenHolds 2 none :: lw_good) := fun w h => List.mem_cons_of_mem _ (zi_X3 w h)
  have hw0 := hts (.fieldLink RX3 48 "BunchRace$Race" "heldFor" "[I") (List.mem_cons_of_mem _ zw_252)
  subst hsz
  have hD := hD0.self (sz := s.heap.size)
  generalize hAe : va_A [(h0, .inr (3, [.int v_x_minute, .int v_x_left, .int v_x_primes, .long j_x_lot, .int v_x_foremost, .ref x_rides, .ref x_metres, .ref x_store, .ref x_seconds, .ref x_timesHeld, .ref x_work, .ref x_heldFor, .ref x_primeSeconds, .ref x_orderRows, .ref x_bunches, .ref x_values])), (x_heldFor, .inl (cI, 20, .inl f_x_heldFor))] s.heap.size = A at hD ⊢
  have hA : ∀ q : Nat, s.heap.size ≤ q → A q := fun q h => by rw [← hAe]; exact Or.inr h
  have hS : va_S A s.heap s.heap [] := va_S.rf
  have hP : va_P (dC, dI) vwCl [(h0, .inr (3, [.int v_x_minute, .int v_x_left, .int v_x_primes, .long j_x_lot, .int v_x_foremost, .ref x_rides, .ref x_metres, .ref x_store, .ref x_seconds, .ref x_timesHeld, .ref x_work, .ref x_heldFor, .ref x_primeSeconds, .ref x_orderRows, .ref x_bunches, .ref x_values])), (x_heldFor, .inl (cI, 20, .inl f_x_heldFor))] s.heap := hP
  have hl := lv_entry ([.ref h0]) (n := 2) (Nat.le_of_ble_eq_true rfl)
  rw [lg_entry_eq]
  generalize (lg_sl ([.ref h0]) ++ List.replicate (2 - (lg_sl ([.ref h0])).length) Slot.unset).toArray = ls at hl ⊢
  have hl : lv_has ls 2 [(0, .ref h0)] := hl
  refine lv_iconst (v := 0) hx hb dX3_lessenHolds_0 (by decide) ?_
  refine lv_istore_n (lv' := [(1, .int 0), (0, .ref h0)]) hx hb dX3_lessenHolds_1 rfl hl (by decide) rfl (fun ls hl => ?_)
  have L_12 : ∀ (n : Nat) (i1_L_12 : Int32) (g_x_heldFor_L_12 : Nat → Int32) (H : Heap) (locs : List Loc) (ls : Array Slot), (0 ≤ i1_L_12.toInt) → (i1_L_12.toInt ≤ 20) → (20 - i1_L_12.toInt) < (n : Int) → va_P (dC, dI) vwCl [(h0, .inr (3, [.int v_x_minute, .int v_x_left, .int v_x_primes, .long j_x_lot, .int v_x_foremost, .ref x_rides, .ref x_metres, .ref x_store, .ref x_seconds, .ref x_timesHeld, .ref x_work, .ref x_heldFor, .ref x_primeSeconds, .ref x_orderRows, .ref x_bunches, .ref x_values])), (x_heldFor, .inl (cI, 20, .inl g_x_heldFor_L_12))] H → va_D A [(h0, .inr (3, [.int v_x_minute, .int v_x_left, .int v_x_primes, .long j_x_lot, .int v_x_foremost, .ref x_rides, .ref x_metres, .ref x_store, .ref x_seconds, .ref x_timesHeld, .ref x_work, .ref x_heldFor, .ref x_primeSeconds, .ref x_orderRows, .ref x_bunches, .ref x_values])), (x_heldFor, .inl (cI, 20, .inl g_x_heldFor_L_12))] → va_S A s.heap H locs → lv_has ls 2 [(1, .int i1_L_12), (0, .ref h0)] → W p l e ((headSpec (Cond.code yX3_lessenHolds cX3_lessenHolds 2 none :: lw_good) ({ frames := 0, cells := 0, slots := 0, locals := 0 })).room) s m (([.ref h0] : List Value).toArray) below meth c H locs 0 0 (MQ below (va_Qv (fun _ : Unit => True) (fun _ t => ∃ (g_x_heldFor : Nat → Int32), va_P (dC, dI) vwCl [(h0, .inr (3, [.int v_x_minute, .int v_x_left, .int v_x_primes, .long j_x_lot, .int v_x_foremost, .ref x_rides, .ref x_metres, .ref x_store, .ref x_seconds, .ref x_timesHeld, .ref x_work, .ref x_heldFor, .ref x_primeSeconds, .ref x_orderRows, .ref x_bunches, .ref x_values])), (x_heldFor, .inl (cI, 20, .inl g_x_heldFor))] t.heap ∧ va_K (dC, dI) vwCl [(cI, .int), (cZ, .boolean)] t ∧ va_D A [(h0, .inr (3, [.int v_x_minute, .int v_x_left, .int v_x_primes, .long j_x_lot, .int v_x_foremost, .ref x_rides, .ref x_metres, .ref x_store, .ref x_seconds, .ref x_timesHeld, .ref x_work, .ref x_heldFor, .ref x_primeSeconds, .ref x_orderRows, .ref x_bunches, .ref x_values])), (x_heldFor, .inl (cI, 20, .inl g_x_heldFor))]) A) (([.ref h0] : List Value).toArray) s 0 0 A) (F0 m 2 ls []) := by
    intro n
    induction n with
    | zero =>
      intro i1_L_12 g_x_heldFor_L_12 H locs ls hI0 hI1 hM
      exact absurd hM (by omega)
    | succ n ih =>
      intro i1_L_12 g_x_heldFor_L_12 H locs ls hI0 hI1 hM hP hD hS hl
      have ih_13 := ih
      have hi_14 := hI0
      have hi_15 := hI1
      refine lv_iload_n hx hb dX3_lessenHolds_2 rfl (lv_at hl 0 rfl) ?_
      refine lv_bipush (v := 20) hx hb dX3_lessenHolds_3 (by decide) ?_
      refine lv_icmp_ge (tgt := 33) hx hb dX3_lessenHolds_5 (by decide) (fun c_16 => ?_) (fun c_16 => ?_)
      ·
        have c_16 : (20:Int) ≤ (i1_L_12).toInt := zz_le (by decide) rfl c_16
        have hP9 := hP.sub (ws' := [(h0, .inr (3, [.int v_x_minute, .int v_x_left, .int v_x_primes, .long j_x_lot, .int v_x_foremost, .ref x_rides, .ref x_metres, .ref x_store, .ref x_seconds, .ref x_timesHeld, .ref x_work, .ref x_heldFor, .ref x_primeSeconds, .ref x_orderRows, .ref x_bunches, .ref x_values])), (x_heldFor, .inl (cI, 20, .inl g_x_heldFor_L_12))]) [0, 1] rfl
        have hD9 := hD.sub (ws' := [(h0, .inr (3, [.int v_x_minute, .int v_x_left, .int v_x_primes, .long j_x_lot, .int v_x_foremost, .ref x_rides, .ref x_metres, .ref x_store, .ref x_seconds, .ref x_timesHeld, .ref x_work, .ref x_heldFor, .ref x_primeSeconds, .ref x_orderRows, .ref x_bunches, .ref x_values])), (x_heldFor, .inl (cI, 20, .inl g_x_heldFor_L_12))]) [0, 1] (by decide) rfl
        exact W.vret hx hb hr (fun t ht hW => ⟨⟨(), rfl, trivial, g_x_heldFor_L_12, by rw [ht]; exact hP9, va_K.moved hW.alike hK, hD9⟩, hS.F ht⟩) hS.2.2 dX3_lessenHolds_33
      ·
        have c_16 : ¬ ((20:Int) ≤ (i1_L_12).toInt) := zz_len (by decide) rfl c_16
        refine lv_aload_n hx hb dX3_lessenHolds_8 rfl (lv_at hl 1 rfl) ?_
        refine va_get (D := (dC, dI)) (ci := 3) (v := .ref x_heldFor) (C := RX3) (T := TX3) (N := 16) hx hb hts hiX3 hown hK hP 0 rfl rfl 11 (by decide) hw0 (fun _ h9 => h9) rfl dX3_lessenHolds_9 ?_
        refine lv_iload_n hx hb dX3_lessenHolds_12 rfl (lv_at hl 0 rfl) ?_
        refine va_iald hx hb hK hP 1 0 rfl rfl (zz_in (a := (i1_L_12).toInt) rfl (by omega) (by omega)) dX3_lessenHolds_13 ?_
        refine lv_topi (fun v_17 ev_17 => ?_)
        refine lv_if_le (tgt := 27) hx hb dX3_lessenHolds_14 (by decide) (fun c_18 => ?_) (fun c_18 => ?_)
        ·
          have c_18 : (v_17).toInt ≤ (0:Int) := zz_le rfl (by decide) c_18
          obtain ⟨v_19, ev_19⟩ : ∃ y : Int32, y = i1_L_12 + 1 := ⟨_, rfl⟩
          have hv_19 : v_19.toInt = ((i1_L_12).toInt + (1:Int)) := by rw [ev_19]; exact zz_addI rfl (by decide) (by omega) (by omega)
          refine lv_iinc (v := v_19) (lv' := [(1, .int v_19), (0, .ref h0)]) hx hb dX3_lessenHolds_27 hl (k := 0) rfl (by rw [ev_19]; rfl) (by decide) rfl (fun ls hl => ?_)
          refine lv_goto (tgt := 2) hx hb dX3_lessenHolds_30 (by decide) ?_
          have hb_20_i1_L_12 : (v_19 : Int32).toInt = ((i1_L_12).toInt + (1:Int)) := hv_19
          exact ih_13 v_19 g_x_heldFor_L_12 H locs ls (by omega) (by omega) (by omega) (hP.sub [0, 1] rfl) (hD.sub [0, 1] (by decide) rfl) hS (lv_sub hl [0, 1] rfl)
        ·
          have c_18 : ¬ ((v_17).toInt ≤ (0:Int)) := zz_len rfl (by decide) c_18
          refine lv_aload_n hx hb dX3_lessenHolds_17 rfl (lv_at hl 1 rfl) ?_
          refine va_get (D := (dC, dI)) (ci := 3) (v := .ref x_heldFor) (C := RX3) (T := TX3) (N := 16) hx hb hts hiX3 hown hK hP 0 rfl rfl 11 (by decide) hw0 (fun _ h9 => h9) rfl dX3_lessenHolds_18 ?_
          refine lv_iload_n hx hb dX3_lessenHolds_21 rfl (lv_at hl 0 rfl) ?_
          refine lv_dup2_11 hx hb dX3_lessenHolds_22 rfl rfl ?_
          refine va_iald hx hb hK hP 1 0 rfl rfl (zz_in (a := (i1_L_12).toInt) rfl (by omega) (by omega)) dX3_lessenHolds_23 ?_
          refine lv_topi (fun v_21 ev_21 => ?_)
          obtain rfl : v_17 = v_21 := ev_17.trans ev_21.symm
          refine lv_iconst (v := 1) hx hb dX3_lessenHolds_24 (by decide) ?_
          refine lv_isub hx hb dX3_lessenHolds_25 ?_
          have hr_22 := zz_rngF (a := (v_17).toInt) rfl
          refine lv_topi (fun v_23 ev_23 => ?_)
          have hv_23 : v_23.toInt = ((v_17).toInt - (1:Int)) := by rw [ev_23]; exact zz_subI rfl (by decide) (by omega) (by omega)
          refine va_iast hx hb hK hP hD hS 1 0 rfl rfl (zz_in (a := (i1_L_12).toInt) rfl (by omega) (by omega)) dX3_lessenHolds_26 (fun H locs hP hD hS => ?_)
          have hP : va_P (dC, dI) vwCl [(h0, .inr (3, [.int v_x_minute, .int v_x_left, .int v_x_primes, .long j_x_lot, .int v_x_foremost, .ref x_rides, .ref x_metres, .ref x_store, .ref x_seconds, .ref x_timesHeld, .ref x_work, .ref x_heldFor, .ref x_primeSeconds, .ref x_orderRows, .ref x_bunches, .ref x_values])), (x_heldFor, .inl (cI, 20, .inl (upd g_x_heldFor_L_12 (Int32.toNatClampNeg i1_L_12) v_23)))] H := hP
          have hD : va_D A [(h0, .inr (3, [.int v_x_minute, .int v_x_left, .int v_x_primes, .long j_x_lot, .int v_x_foremost, .ref x_rides, .ref x_metres, .ref x_store, .ref x_seconds, .ref x_timesHeld, .ref x_work, .ref x_heldFor, .ref x_primeSeconds, .ref x_orderRows, .ref x_bunches, .ref x_values])), (x_heldFor, .inl (cI, 20, .inl (upd g_x_heldFor_L_12 (Int32.toNatClampNeg i1_L_12) v_23)))] := hD
          generalize upd g_x_heldFor_L_12 (Int32.toNatClampNeg i1_L_12) v_23 = f_24 at hP hD
          obtain ⟨v_25, ev_25⟩ : ∃ y : Int32, y = i1_L_12 + 1 := ⟨_, rfl⟩
          have hv_25 : v_25.toInt = ((i1_L_12).toInt + (1:Int)) := by rw [ev_25]; exact zz_addI rfl (by decide) (by omega) (by omega)
          refine lv_iinc (v := v_25) (lv' := [(1, .int v_25), (0, .ref h0)]) hx hb dX3_lessenHolds_27 hl (k := 0) rfl (by rw [ev_25]; rfl) (by decide) rfl (fun ls hl => ?_)
          refine lv_goto (tgt := 2) hx hb dX3_lessenHolds_30 (by decide) ?_
          have hb_26_i1_L_12 : (v_25 : Int32).toInt = ((i1_L_12).toInt + (1:Int)) := hv_25
          exact ih_13 v_25 f_24 H locs ls (by omega) (by omega) (by omega) (hP.sub [0, 1] rfl) (hD.sub [0, 1] (by decide) rfl) hS (lv_sub hl [0, 1] rfl)
  have hb_27_i1_L_12 : (0 : Int32).toInt = (0:Int) := (by decide)
  exact L_12 1000 0 f_x_heldFor s.heap [] ls (by omega) (by omega) (by omega) (hP.sub [0, 1] rfl) (hD.sub [0, 1] (by decide) rfl) hS (lv_sub hl [0, 1] rfl)

set_option maxHeartbeats 8000000 in
set_option maxRecDepth 100000 in
theorem c_X3_lineUp (l : Launch) (dC : Nat → ClassId) (dI : Nat → Nat → Nat) (cI cZ : ClassId) (sz : Nat) (h0 : Nat) (v_x_minute : Int32) (v_x_minute_i : Int) (v_x_minute_h : v_x_minute.toInt = v_x_minute_i) (v_x_left : Int32) (v_x_left_i : Int) (v_x_left_h : v_x_left.toInt = v_x_left_i) (v_x_primes : Int32) (v_x_primes_i : Int) (v_x_primes_h : v_x_primes.toInt = v_x_primes_i) (B_v_x_primes : 0 ≤ v_x_primes_i ∧ v_x_primes_i ≤ 5) (j_x_lot : Int64) (v_x_foremost : Int32) (v_x_foremost_i : Int) (v_x_foremost_h : v_x_foremost.toInt = v_x_foremost_i) (x_rides : Nat) (x_metres : Nat) (x_store : Nat) (x_seconds : Nat) (x_timesHeld : Nat) (x_work : Nat) (x_heldFor : Nat) (x_primeSeconds : Nat) (x_orderRows : Nat) (x_bunches : Nat) (x_values : Nat) (f_x_rides : Nat → Int32) (f_x_metres : Nat → Int32) (R_x_metres : zr f_x_metres 20 (0) (30000)) (f_x_seconds : Nat → Int32) (f_x_heldFor : Nat → Int32) (v_x_bu_onRoad : Int32) (v_x_bu_onRoad_i : Int) (v_x_bu_onRoad_h : v_x_bu_onRoad.toInt = v_x_bu_onRoad_i) (B_v_x_bu_onRoad : 0 ≤ v_x_bu_onRoad_i ∧ v_x_bu_onRoad_i ≤ 20) (v_x_bu_number : Int32) (v_x_bu_number_i : Int) (v_x_bu_number_h : v_x_bu_number.toInt = v_x_bu_number_i) (x_bu_order : Nat) (x_bu_places : Nat) (x_bu_sizes : Nat) (f_x_bu_order : Nat → Int32) (R_x_bu_order : zr f_x_bu_order 20 (0) (19)) (f_x_bu_places : Nat → Int32) (f_x_bu_sizes : Nat → Int32) : Met l yX3_lineUp (Cond.code yX3_lineUp cX3_lineUp 2 none :: lw_good) ({ frames := 2, cells := 0, slots := 0, locals := 47 }) (va_Pc [.ref h0] (fun U => U.heap.size = sz ∧ va_P (dC, dI) vwCl [(h0, .inr (3, [.int v_x_minute, .int v_x_left, .int v_x_primes, .long j_x_lot, .int v_x_foremost, .ref x_rides, .ref x_metres, .ref x_store, .ref x_seconds, .ref x_timesHeld, .ref x_work, .ref x_heldFor, .ref x_primeSeconds, .ref x_orderRows, .ref x_bunches, .ref x_values])), (x_rides, .inl (cZ, 20, .inl f_x_rides)), (x_metres, .inl (cI, 20, .inl f_x_metres)), (x_seconds, .inl (cI, 20, .inl f_x_seconds)), (x_heldFor, .inl (cI, 20, .inl f_x_heldFor)), (x_bunches, .inr (0, [.int v_x_bu_onRoad, .int v_x_bu_number, .ref x_bu_order, .ref x_bu_places, .ref x_bu_sizes])), (x_bu_order, .inl (cI, 20, .inl f_x_bu_order)), (x_bu_places, .inl (cI, 20, .inl f_x_bu_places)), (x_bu_sizes, .inl (cI, 20, .inl f_x_bu_sizes))] U.heap ∧ va_K (dC, dI) vwCl [(cI, .int), (cZ, .boolean)] U ∧ va_D (fun _ => True) [(h0, .inr (3, [.int v_x_minute, .int v_x_left, .int v_x_primes, .long j_x_lot, .int v_x_foremost, .ref x_rides, .ref x_metres, .ref x_store, .ref x_seconds, .ref x_timesHeld, .ref x_work, .ref x_heldFor, .ref x_primeSeconds, .ref x_orderRows, .ref x_bunches, .ref x_values])), (x_rides, .inl (cZ, 20, .inl f_x_rides)), (x_metres, .inl (cI, 20, .inl f_x_metres)), (x_seconds, .inl (cI, 20, .inl f_x_seconds)), (x_heldFor, .inl (cI, 20, .inl f_x_heldFor)), (x_bunches, .inr (0, [.int v_x_bu_onRoad, .int v_x_bu_number, .ref x_bu_order, .ref x_bu_places, .ref x_bu_sizes])), (x_bu_order, .inl (cI, 20, .inl f_x_bu_order)), (x_bu_places, .inl (cI, 20, .inl f_x_bu_places)), (x_bu_sizes, .inl (cI, 20, .inl f_x_bu_sizes))])) (va_Qv (fun _ : Unit => True) (fun _ t => ∃ (w_h0_left : Int32) (w_h0_foremost : Int32) (w_x_bunches_onRoad : Int32) (w_x_bunches_number : Int32) (g_x_bu_order : Nat → Int32) (g_x_bu_places : Nat → Int32) (g_x_bu_sizes : Nat → Int32), (0 ≤ w_x_bunches_onRoad.toInt ∧ w_x_bunches_onRoad.toInt ≤ 20) ∧ (zr g_x_bu_order 20 (0) (19)) ∧ va_P (dC, dI) vwCl [(h0, .inr (3, [.int v_x_minute, .int w_h0_left, .int v_x_primes, .long j_x_lot, .int w_h0_foremost, .ref x_rides, .ref x_metres, .ref x_store, .ref x_seconds, .ref x_timesHeld, .ref x_work, .ref x_heldFor, .ref x_primeSeconds, .ref x_orderRows, .ref x_bunches, .ref x_values])), (x_rides, .inl (cZ, 20, .inl f_x_rides)), (x_metres, .inl (cI, 20, .inl f_x_metres)), (x_seconds, .inl (cI, 20, .inl f_x_seconds)), (x_heldFor, .inl (cI, 20, .inl f_x_heldFor)), (x_bunches, .inr (0, [.int w_x_bunches_onRoad, .int w_x_bunches_number, .ref x_bu_order, .ref x_bu_places, .ref x_bu_sizes])), (x_bu_order, .inl (cI, 20, .inl g_x_bu_order)), (x_bu_places, .inl (cI, 20, .inl g_x_bu_places)), (x_bu_sizes, .inl (cI, 20, .inl g_x_bu_sizes))] t.heap ∧ va_K (dC, dI) vwCl [(cI, .int), (cZ, .boolean)] t ∧ va_D (va_A [(h0, .inr (3, [.int v_x_minute, .int v_x_left, .int v_x_primes, .long j_x_lot, .int v_x_foremost, .ref x_rides, .ref x_metres, .ref x_store, .ref x_seconds, .ref x_timesHeld, .ref x_work, .ref x_heldFor, .ref x_primeSeconds, .ref x_orderRows, .ref x_bunches, .ref x_values])), (x_rides, .inl (cZ, 20, .inl f_x_rides)), (x_metres, .inl (cI, 20, .inl f_x_metres)), (x_seconds, .inl (cI, 20, .inl f_x_seconds)), (x_heldFor, .inl (cI, 20, .inl f_x_heldFor)), (x_bunches, .inr (0, [.int v_x_bu_onRoad, .int v_x_bu_number, .ref x_bu_order, .ref x_bu_places, .ref x_bu_sizes])), (x_bu_order, .inl (cI, 20, .inl f_x_bu_order)), (x_bu_places, .inl (cI, 20, .inl f_x_bu_places)), (x_bu_sizes, .inl (cI, 20, .inl f_x_bu_sizes))] sz) [(h0, .inr (3, [.int v_x_minute, .int w_h0_left, .int v_x_primes, .long j_x_lot, .int w_h0_foremost, .ref x_rides, .ref x_metres, .ref x_store, .ref x_seconds, .ref x_timesHeld, .ref x_work, .ref x_heldFor, .ref x_primeSeconds, .ref x_orderRows, .ref x_bunches, .ref x_values])), (x_rides, .inl (cZ, 20, .inl f_x_rides)), (x_metres, .inl (cI, 20, .inl f_x_metres)), (x_seconds, .inl (cI, 20, .inl f_x_seconds)), (x_heldFor, .inl (cI, 20, .inl f_x_heldFor)), (x_bunches, .inr (0, [.int w_x_bunches_onRoad, .int w_x_bunches_number, .ref x_bu_order, .ref x_bu_places, .ref x_bu_sizes])), (x_bu_order, .inl (cI, 20, .inl g_x_bu_order)), (x_bu_places, .inl (cI, 20, .inl g_x_bu_places)), (x_bu_sizes, .inl (cI, 20, .inl g_x_bu_sizes))]) (va_A [(h0, .inr (3, [.int v_x_minute, .int v_x_left, .int v_x_primes, .long j_x_lot, .int v_x_foremost, .ref x_rides, .ref x_metres, .ref x_store, .ref x_seconds, .ref x_timesHeld, .ref x_work, .ref x_heldFor, .ref x_primeSeconds, .ref x_orderRows, .ref x_bunches, .ref x_values])), (x_rides, .inl (cZ, 20, .inl f_x_rides)), (x_metres, .inl (cI, 20, .inl f_x_metres)), (x_seconds, .inl (cI, 20, .inl f_x_seconds)), (x_heldFor, .inl (cI, 20, .inl f_x_heldFor)), (x_bunches, .inr (0, [.int v_x_bu_onRoad, .int v_x_bu_number, .ref x_bu_order, .ref x_bu_places, .ref x_bu_sizes])), (x_bu_order, .inl (cI, 20, .inl f_x_bu_order)), (x_bu_places, .inl (cI, 20, .inl f_x_bu_places)), (x_bu_sizes, .inl (cI, 20, .inl f_x_bu_sizes))] sz)) 0 0 (va_A [(h0, .inr (3, [.int v_x_minute, .int v_x_left, .int v_x_primes, .long j_x_lot, .int v_x_foremost, .ref x_rides, .ref x_metres, .ref x_store, .ref x_seconds, .ref x_timesHeld, .ref x_work, .ref x_heldFor, .ref x_primeSeconds, .ref x_orderRows, .ref x_bunches, .ref x_values])), (x_rides, .inl (cZ, 20, .inl f_x_rides)), (x_metres, .inl (cI, 20, .inl f_x_metres)), (x_seconds, .inl (cI, 20, .inl f_x_seconds)), (x_heldFor, .inl (cI, 20, .inl f_x_heldFor)), (x_bunches, .inr (0, [.int v_x_bu_onRoad, .int v_x_bu_number, .ref x_bu_order, .ref x_bu_places, .ref x_bu_sizes])), (x_bu_order, .inl (cI, 20, .inl f_x_bu_order)), (x_bu_places, .inl (cI, 20, .inl f_x_bu_places)), (x_bu_sizes, .inl (cI, 20, .inl f_x_bu_sizes))] sz) := by
  refine Met.ofW (cc := cX3_lineUp) (maxL := 2) (ret := none) (by decide) rfl ?_
  intro p e s m args below meth c s₁ B hml hv
  obtain ⟨rfl, hsz, hP, hK, hD0⟩ := hv
  have hx := B.exec
  have hb := B.bytes
  have hr := B.returns
  have hts := atoms_spec (ws := Cond.code yX3_lineUp cX3_lineUp 2 none :: lw_good) B.pre
  have hown : s.vm.findClass RX3 = some m.cls := findClass_of_methodNamed B.named
  have hlocks := B.notSynchronized
  have hiX3 : ∀ w ∈ wsX30, w ∈ (Cond.code yX3_lineUp cX3_lineUp 2 none :: lw_good) := fun w h => List.mem_cons_of_mem _ (zi_X3 w h)
  have hw0 := hts (.fieldLink RX3 60 "BunchRace$Race" "bunches" "LBunchRace$Bunches;") (List.mem_cons_of_mem _ zw_256)
  have hw1 := hts (.initialized RX0) (List.mem_cons_of_mem _ zw_55)
  have hw2 := hts (.methodLink RX3 94 yX0_clear) (List.mem_cons_of_mem _ zw_517)
  have hw3 := hts (.instanceMethod yX0_clear) (List.mem_cons_of_mem _ zw_518)
  have hw4 := hts (.selects RX0 yX0_clear yX0_clear) (List.mem_cons_of_mem _ zw_519)
  have hw5 := hts (.fieldLink RX3 15 "BunchRace$Race" "left" "I") (List.mem_cons_of_mem _ zw_232)
  have hw6 := hts (.fieldLink RX3 25 "BunchRace$Race" "foremost" "I") (List.mem_cons_of_mem _ zw_237)
  have hw7 := hts (.fieldLink RX3 32 "BunchRace$Race" "metres" "[I") (List.mem_cons_of_mem _ zw_240)
  have hw8 := hts (.methodLink RX3 107 yX0_part) (List.mem_cons_of_mem _ zw_528)
  have hw9 := hts (.instanceMethod yX0_part) (List.mem_cons_of_mem _ zw_529)
  have hw10 := hts (.selects RX0 yX0_part yX0_part) (List.mem_cons_of_mem _ zw_530)
  have hw11 := hts (.fieldLink RX3 28 "BunchRace$Race" "rides" "[Z") (List.mem_cons_of_mem _ zw_238)
  have hw12 := hts (.fieldLink RX3 39 "BunchRace$Race" "seconds" "[I") (List.mem_cons_of_mem _ zw_245)
  have hw13 := hts (.methodLink RX3 97 Lib.Math.max.name) (List.mem_cons_of_mem _ zw_521)
  have hw14 := hts (.static Lib.Math.max.name) (List.mem_cons_of_mem _ zw_522)
  have hw15 := hts (.initialized "java/lang/Math") (List.mem_cons_of_mem _ zw_59)
  have hw16 := hts (.code Lib.Math.max.name Lib.Math.max.code 2 (some .int)) (List.mem_cons_of_mem _ zw_523)
  have hw17 := hts (.fieldLink RX3 48 "BunchRace$Race" "heldFor" "[I") (List.mem_cons_of_mem _ zw_252)
  have hw18 := hts (.methodLink RX3 103 yX0_stand) (List.mem_cons_of_mem _ zw_524)
  have hw19 := hts (.instanceMethod yX0_stand) (List.mem_cons_of_mem _ zw_525)
  have hw20 := hts (.selects RX0 yX0_stand yX0_stand) (List.mem_cons_of_mem _ zw_526)
  subst hsz
  have hD := hD0.self (sz := s.heap.size)
  generalize hAe : va_A [(h0, .inr (3, [.int v_x_minute, .int v_x_left, .int v_x_primes, .long j_x_lot, .int v_x_foremost, .ref x_rides, .ref x_metres, .ref x_store, .ref x_seconds, .ref x_timesHeld, .ref x_work, .ref x_heldFor, .ref x_primeSeconds, .ref x_orderRows, .ref x_bunches, .ref x_values])), (x_rides, .inl (cZ, 20, .inl f_x_rides)), (x_metres, .inl (cI, 20, .inl f_x_metres)), (x_seconds, .inl (cI, 20, .inl f_x_seconds)), (x_heldFor, .inl (cI, 20, .inl f_x_heldFor)), (x_bunches, .inr (0, [.int v_x_bu_onRoad, .int v_x_bu_number, .ref x_bu_order, .ref x_bu_places, .ref x_bu_sizes])), (x_bu_order, .inl (cI, 20, .inl f_x_bu_order)), (x_bu_places, .inl (cI, 20, .inl f_x_bu_places)), (x_bu_sizes, .inl (cI, 20, .inl f_x_bu_sizes))] s.heap.size = A at hD ⊢
  have hA : ∀ q : Nat, s.heap.size ≤ q → A q := fun q h => by rw [← hAe]; exact Or.inr h
  have hS : va_S A s.heap s.heap [] := va_S.rf
  have hP : va_P (dC, dI) vwCl [(h0, .inr (3, [.int v_x_minute, .int v_x_left, .int v_x_primes, .long j_x_lot, .int v_x_foremost, .ref x_rides, .ref x_metres, .ref x_store, .ref x_seconds, .ref x_timesHeld, .ref x_work, .ref x_heldFor, .ref x_primeSeconds, .ref x_orderRows, .ref x_bunches, .ref x_values])), (x_rides, .inl (cZ, 20, .inl f_x_rides)), (x_metres, .inl (cI, 20, .inl f_x_metres)), (x_seconds, .inl (cI, 20, .inl f_x_seconds)), (x_heldFor, .inl (cI, 20, .inl f_x_heldFor)), (x_bunches, .inr (0, [.int v_x_bu_onRoad, .int v_x_bu_number, .ref x_bu_order, .ref x_bu_places, .ref x_bu_sizes])), (x_bu_order, .inl (cI, 20, .inl f_x_bu_order)), (x_bu_places, .inl (cI, 20, .inl f_x_bu_places)), (x_bu_sizes, .inl (cI, 20, .inl f_x_bu_sizes))] s.heap := hP
  have hl := lv_entry ([.ref h0]) (n := 2) (Nat.le_of_ble_eq_true rfl)
  rw [lg_entry_eq]
  generalize (lg_sl ([.ref h0]) ++ List.replicate (2 - (lg_sl ([.ref h0])).length) Slot.unset).toArray = ls at hl ⊢
  have hl : lv_has ls 2 [(0, .ref h0)] := hl
  refine lv_aload_n hx hb dX3_lineUp_0 rfl (lv_at hl 0 rfl) ?_
  refine va_get (D := (dC, dI)) (ci := 3) (v := .ref x_bunches) (C := RX3) (T := TX3) (N := 16) hx hb hts hiX3 hown hK hP 0 rfl rfl 14 (by decide) hw0 (fun _ h9 => h9) rfl dX3_lineUp_1 ?_
  have hPc := hP.sub (ws' := [(x_bunches, .inr (0, [.int v_x_bu_onRoad, .int v_x_bu_number, .ref x_bu_order, .ref x_bu_places, .ref x_bu_sizes]))]) [5] rfl
  have hDc := hD.sub (ws' := [(x_bunches, .inr (0, [.int v_x_bu_onRoad, .int v_x_bu_number, .ref x_bu_order, .ref x_bu_places, .ref x_bu_sizes]))]) [5] (by decide) rfl
  have hFc := va_free (wc := [(x_bunches, .inr (0, [.int v_x_bu_onRoad, .int v_x_bu_number, .ref x_bu_order, .ref x_bu_places, .ref x_bu_sizes]))]) hD hS hA [5] rfl
  refine va_callv (va_runV (As := []) (rest := []) ⟨hx, hb, hml, hown, hts⟩ (c_X0_clear l dC dI cI cZ (s.heap).size x_bunches v_x_bu_onRoad v_x_bu_onRoad_i v_x_bu_onRoad_h (by omega) v_x_bu_number v_x_bu_number_i v_x_bu_number_h x_bu_order x_bu_places x_bu_sizes) ⟨callB_of 0 hts (zz_good zw_520) rfl rfl rfl hw1 hw2 (by decide +kernel) ⟨Nat.le_of_ble_eq_true rfl, Nat.le_of_ble_eq_true rfl⟩, hw3, hw4⟩ ⟨fun a U g mk q => by obtain ⟨q0, q1, qP, qK, qD⟩ := q; exact ⟨q0, q1, qP, va_K.moved (u := U) (U := U.calling g mk a) (Vm.Alike.refl U.vm) qK, qD⟩, va_recv hK hPc (ci := 0) (q0 := 0) rfl rfl, fun U hU hW => ⟨rfl, by rw [hU], by rw [hU]; exact hPc, va_K.moved hW.alike hK, hDc.weaken (fun _ _ _ _ => trivial)⟩⟩ rfl rfl hl.1 rfl (lv_room (Nat.le_of_ble_eq_true rfl)) dX3_lineUp_4 ⟨Nat.le_of_ble_eq_true rfl, Nat.le_of_ble_eq_true rfl⟩) hS (fun q _ h => hFc q h) hFc (fun u t H1 locs ht hvm hpost hB hz1 hk1 hS => ?_)
  obtain ⟨w_h0_onRoad_1, w_h0_number_2, hf_3, hP1, hK1, hD1⟩ := hB
  rw [ht] at hP1
  obtain ⟨hP, hD⟩ := va_join (wr := [(h0, .inr (3, [.int v_x_minute, .int v_x_left, .int v_x_primes, .long j_x_lot, .int v_x_foremost, .ref x_rides, .ref x_metres, .ref x_store, .ref x_seconds, .ref x_timesHeld, .ref x_work, .ref x_heldFor, .ref x_primeSeconds, .ref x_orderRows, .ref x_bunches, .ref x_values])), (x_rides, .inl (cZ, 20, .inl f_x_rides)), (x_metres, .inl (cI, 20, .inl f_x_metres)), (x_seconds, .inl (cI, 20, .inl f_x_seconds)), (x_heldFor, .inl (cI, 20, .inl f_x_heldFor)), (x_bu_order, .inl (cI, 20, .inl f_x_bu_order)), (x_bu_places, .inl (cI, 20, .inl f_x_bu_places)), (x_bu_sizes, .inl (cI, 20, .inl f_x_bu_sizes))]) (w1 := [(x_bunches, .inr (0, [.int w_h0_onRoad_1, .int w_h0_number_2, .ref x_bu_order, .ref x_bu_places, .ref x_bu_sizes]))]) hP hD [5] [0, 1, 2, 3, 4, 6, 7, 8] rfl rfl (by decide) (by decide) hk1 hFc hP1 hD1
  generalize H1 = H at hP hS ⊢
  have hP : va_P (dC, dI) vwCl [(h0, .inr (3, [.int v_x_minute, .int v_x_left, .int v_x_primes, .long j_x_lot, .int v_x_foremost, .ref x_rides, .ref x_metres, .ref x_store, .ref x_seconds, .ref x_timesHeld, .ref x_work, .ref x_heldFor, .ref x_primeSeconds, .ref x_orderRows, .ref x_bunches, .ref x_values])), (x_rides, .inl (cZ, 20, .inl f_x_rides)), (x_metres, .inl (cI, 20, .inl f_x_metres)), (x_seconds, .inl (cI, 20, .inl f_x_seconds)), (x_heldFor, .inl (cI, 20, .inl f_x_heldFor)), (x_bu_order, .inl (cI, 20, .inl f_x_bu_order)), (x_bu_places, .inl (cI, 20, .inl f_x_bu_places)), (x_bu_sizes, .inl (cI, 20, .inl f_x_bu_sizes)), (x_bunches, .inr (0, [.int w_h0_onRoad_1, .int w_h0_number_2, .ref x_bu_order, .ref x_bu_places, .ref x_bu_sizes]))] H := hP
  have hD : va_D A [(h0, .inr (3, [.int v_x_minute, .int v_x_left, .int v_x_primes, .long j_x_lot, .int v_x_foremost, .ref x_rides, .ref x_metres, .ref x_store, .ref x_seconds, .ref x_timesHeld, .ref x_work, .ref x_heldFor, .ref x_primeSeconds, .ref x_orderRows, .ref x_bunches, .ref x_values])), (x_rides, .inl (cZ, 20, .inl f_x_rides)), (x_metres, .inl (cI, 20, .inl f_x_metres)), (x_seconds, .inl (cI, 20, .inl f_x_seconds)), (x_heldFor, .inl (cI, 20, .inl f_x_heldFor)), (x_bu_order, .inl (cI, 20, .inl f_x_bu_order)), (x_bu_places, .inl (cI, 20, .inl f_x_bu_places)), (x_bu_sizes, .inl (cI, 20, .inl f_x_bu_sizes)), (x_bunches, .inr (0, [.int w_h0_onRoad_1, .int w_h0_number_2, .ref x_bu_order, .ref x_bu_places, .ref x_bu_sizes]))] := hD
  have hf_3 : 0 ≤ w_h0_onRoad_1.toInt ∧ w_h0_onRoad_1.toInt ≤ 20 := hf_3
  refine lv_aload_n hx hb dX3_lineUp_7 rfl (lv_at hl 0 rfl) ?_
  refine lv_iconst (v := 0) hx hb dX3_lineUp_8 (by decide) ?_
  refine va_put (D := (dC, dI)) (ci := 3) (v := .int 0) (ty := .int) (C := RX3) (T := TX3) (N := 16) hx hb hts hiX3 tyX3 tyX3_ok nmX3 hown hK hP hD hS 0 rfl rfl 1 (by decide) hw5 (fun _ h9 => h9) rfl (by decide +kernel) rfl rfl (Nat.le_of_ble_eq_true rfl) dX3_lineUp_9 (fun H locs hP hD hS => ?_)
  have hP : va_P (dC, dI) vwCl [(h0, .inr (3, [.int v_x_minute, .int 0, .int v_x_primes, .long j_x_lot, .int v_x_foremost, .ref x_rides, .ref x_metres, .ref x_store, .ref x_seconds, .ref x_timesHeld, .ref x_work, .ref x_heldFor, .ref x_primeSeconds, .ref x_orderRows, .ref x_bunches, .ref x_values])), (x_rides, .inl (cZ, 20, .inl f_x_rides)), (x_metres, .inl (cI, 20, .inl f_x_metres)), (x_seconds, .inl (cI, 20, .inl f_x_seconds)), (x_heldFor, .inl (cI, 20, .inl f_x_heldFor)), (x_bu_order, .inl (cI, 20, .inl f_x_bu_order)), (x_bu_places, .inl (cI, 20, .inl f_x_bu_places)), (x_bu_sizes, .inl (cI, 20, .inl f_x_bu_sizes)), (x_bunches, .inr (0, [.int w_h0_onRoad_1, .int w_h0_number_2, .ref x_bu_order, .ref x_bu_places, .ref x_bu_sizes]))] H := hP
  have hD : va_D A [(h0, .inr (3, [.int v_x_minute, .int 0, .int v_x_primes, .long j_x_lot, .int v_x_foremost, .ref x_rides, .ref x_metres, .ref x_store, .ref x_seconds, .ref x_timesHeld, .ref x_work, .ref x_heldFor, .ref x_primeSeconds, .ref x_orderRows, .ref x_bunches, .ref x_values])), (x_rides, .inl (cZ, 20, .inl f_x_rides)), (x_metres, .inl (cI, 20, .inl f_x_metres)), (x_seconds, .inl (cI, 20, .inl f_x_seconds)), (x_heldFor, .inl (cI, 20, .inl f_x_heldFor)), (x_bu_order, .inl (cI, 20, .inl f_x_bu_order)), (x_bu_places, .inl (cI, 20, .inl f_x_bu_places)), (x_bu_sizes, .inl (cI, 20, .inl f_x_bu_sizes)), (x_bunches, .inr (0, [.int w_h0_onRoad_1, .int w_h0_number_2, .ref x_bu_order, .ref x_bu_places, .ref x_bu_sizes]))] := hD
  refine lv_aload_n hx hb dX3_lineUp_12 rfl (lv_at hl 0 rfl) ?_
  refine lv_iconst (v := 0) hx hb dX3_lineUp_13 (by decide) ?_
  refine va_put (D := (dC, dI)) (ci := 3) (v := .int 0) (ty := .int) (C := RX3) (T := TX3) (N := 16) hx hb hts hiX3 tyX3 tyX3_ok nmX3 hown hK hP hD hS 0 rfl rfl 4 (by decide) hw6 (fun _ h9 => h9) rfl (by decide +kernel) rfl rfl (Nat.le_of_ble_eq_true rfl) dX3_lineUp_14 (fun H locs hP hD hS => ?_)
  have hP : va_P (dC, dI) vwCl [(h0, .inr (3, [.int v_x_minute, .int 0, .int v_x_primes, .long j_x_lot, .int 0, .ref x_rides, .ref x_metres, .ref x_store, .ref x_seconds, .ref x_timesHeld, .ref x_work, .ref x_heldFor, .ref x_primeSeconds, .ref x_orderRows, .ref x_bunches, .ref x_values])), (x_rides, .inl (cZ, 20, .inl f_x_rides)), (x_metres, .inl (cI, 20, .inl f_x_metres)), (x_seconds, .inl (cI, 20, .inl f_x_seconds)), (x_heldFor, .inl (cI, 20, .inl f_x_heldFor)), (x_bu_order, .inl (cI, 20, .inl f_x_bu_order)), (x_bu_places, .inl (cI, 20, .inl f_x_bu_places)), (x_bu_sizes, .inl (cI, 20, .inl f_x_bu_sizes)), (x_bunches, .inr (0, [.int w_h0_onRoad_1, .int w_h0_number_2, .ref x_bu_order, .ref x_bu_places, .ref x_bu_sizes]))] H := hP
  have hD : va_D A [(h0, .inr (3, [.int v_x_minute, .int 0, .int v_x_primes, .long j_x_lot, .int 0, .ref x_rides, .ref x_metres, .ref x_store, .ref x_seconds, .ref x_timesHeld, .ref x_work, .ref x_heldFor, .ref x_primeSeconds, .ref x_orderRows, .ref x_bunches, .ref x_values])), (x_rides, .inl (cZ, 20, .inl f_x_rides)), (x_metres, .inl (cI, 20, .inl f_x_metres)), (x_seconds, .inl (cI, 20, .inl f_x_seconds)), (x_heldFor, .inl (cI, 20, .inl f_x_heldFor)), (x_bu_order, .inl (cI, 20, .inl f_x_bu_order)), (x_bu_places, .inl (cI, 20, .inl f_x_bu_places)), (x_bu_sizes, .inl (cI, 20, .inl f_x_bu_sizes)), (x_bunches, .inr (0, [.int w_h0_onRoad_1, .int w_h0_number_2, .ref x_bu_order, .ref x_bu_places, .ref x_bu_sizes]))] := hD
  refine lv_iconst (v := 0) hx hb dX3_lineUp_17 (by decide) ?_
  refine lv_istore_n (lv' := [(1, .int 0), (0, .ref h0)]) hx hb dX3_lineUp_18 rfl hl (by decide) rfl (fun ls hl => ?_)
  have L_30 : ∀ (n : Nat) (i1_L_30 : Int32) (g_x_bu_order_L_30 : Nat → Int32) (w_h0_left_L_30 : Int32) (w_h0_foremost_L_30 : Int32) (w_x_bunches_onRoad_L_30 : Int32) (H : Heap) (locs : List Loc) (ls : Array Slot), (0 ≤ i1_L_30.toInt) → (i1_L_30.toInt ≤ 20) → (zr g_x_bu_order_L_30 20 (0) (19)) → (0 ≤ w_x_bunches_onRoad_L_30.toInt) → (w_x_bunches_onRoad_L_30.toInt ≤ 20) → (20 - i1_L_30.toInt) < (n : Int) → va_P (dC, dI) vwCl [(h0, .inr (3, [.int v_x_minute, .int w_h0_left_L_30, .int v_x_primes, .long j_x_lot, .int w_h0_foremost_L_30, .ref x_rides, .ref x_metres, .ref x_store, .ref x_seconds, .ref x_timesHeld, .ref x_work, .ref x_heldFor, .ref x_primeSeconds, .ref x_orderRows, .ref x_bunches, .ref x_values])), (x_rides, .inl (cZ, 20, .inl f_x_rides)), (x_metres, .inl (cI, 20, .inl f_x_metres)), (x_seconds, .inl (cI, 20, .inl f_x_seconds)), (x_heldFor, .inl (cI, 20, .inl f_x_heldFor)), (x_bu_order, .inl (cI, 20, .inl g_x_bu_order_L_30)), (x_bu_places, .inl (cI, 20, .inl f_x_bu_places)), (x_bu_sizes, .inl (cI, 20, .inl f_x_bu_sizes)), (x_bunches, .inr (0, [.int w_x_bunches_onRoad_L_30, .int w_h0_number_2, .ref x_bu_order, .ref x_bu_places, .ref x_bu_sizes]))] H → va_D A [(h0, .inr (3, [.int v_x_minute, .int w_h0_left_L_30, .int v_x_primes, .long j_x_lot, .int w_h0_foremost_L_30, .ref x_rides, .ref x_metres, .ref x_store, .ref x_seconds, .ref x_timesHeld, .ref x_work, .ref x_heldFor, .ref x_primeSeconds, .ref x_orderRows, .ref x_bunches, .ref x_values])), (x_rides, .inl (cZ, 20, .inl f_x_rides)), (x_metres, .inl (cI, 20, .inl f_x_metres)), (x_seconds, .inl (cI, 20, .inl f_x_seconds)), (x_heldFor, .inl (cI, 20, .inl f_x_heldFor)), (x_bu_order, .inl (cI, 20, .inl g_x_bu_order_L_30)), (x_bu_places, .inl (cI, 20, .inl f_x_bu_places)), (x_bu_sizes, .inl (cI, 20, .inl f_x_bu_sizes)), (x_bunches, .inr (0, [.int w_x_bunches_onRoad_L_30, .int w_h0_number_2, .ref x_bu_order, .ref x_bu_places, .ref x_bu_sizes]))] → va_S A s.heap H locs → lv_has ls 2 [(1, .int i1_L_30), (0, .ref h0)] → W p l e ((headSpec (Cond.code yX3_lineUp cX3_lineUp 2 none :: lw_good) ({ frames := 2, cells := 0, slots := 0, locals := 47 })).room) s m (([.ref h0] : List Value).toArray) below meth c H locs 0 0 (MQ below (va_Qv (fun _ : Unit => True) (fun _ t => ∃ (w_h0_left : Int32) (w_h0_foremost : Int32) (w_x_bunches_onRoad : Int32) (w_x_bunches_number : Int32) (g_x_bu_order : Nat → Int32) (g_x_bu_places : Nat → Int32) (g_x_bu_sizes : Nat → Int32), (0 ≤ w_x_bunches_onRoad.toInt ∧ w_x_bunches_onRoad.toInt ≤ 20) ∧ (zr g_x_bu_order 20 (0) (19)) ∧ va_P (dC, dI) vwCl [(h0, .inr (3, [.int v_x_minute, .int w_h0_left, .int v_x_primes, .long j_x_lot, .int w_h0_foremost, .ref x_rides, .ref x_metres, .ref x_store, .ref x_seconds, .ref x_timesHeld, .ref x_work, .ref x_heldFor, .ref x_primeSeconds, .ref x_orderRows, .ref x_bunches, .ref x_values])), (x_rides, .inl (cZ, 20, .inl f_x_rides)), (x_metres, .inl (cI, 20, .inl f_x_metres)), (x_seconds, .inl (cI, 20, .inl f_x_seconds)), (x_heldFor, .inl (cI, 20, .inl f_x_heldFor)), (x_bunches, .inr (0, [.int w_x_bunches_onRoad, .int w_x_bunches_number, .ref x_bu_order, .ref x_bu_places, .ref x_bu_sizes])), (x_bu_order, .inl (cI, 20, .inl g_x_bu_order)), (x_bu_places, .inl (cI, 20, .inl g_x_bu_places)), (x_bu_sizes, .inl (cI, 20, .inl g_x_bu_sizes))] t.heap ∧ va_K (dC, dI) vwCl [(cI, .int), (cZ, .boolean)] t ∧ va_D A [(h0, .inr (3, [.int v_x_minute, .int w_h0_left, .int v_x_primes, .long j_x_lot, .int w_h0_foremost, .ref x_rides, .ref x_metres, .ref x_store, .ref x_seconds, .ref x_timesHeld, .ref x_work, .ref x_heldFor, .ref x_primeSeconds, .ref x_orderRows, .ref x_bunches, .ref x_values])), (x_rides, .inl (cZ, 20, .inl f_x_rides)), (x_metres, .inl (cI, 20, .inl f_x_metres)), (x_seconds, .inl (cI, 20, .inl f_x_seconds)), (x_heldFor, .inl (cI, 20, .inl f_x_heldFor)), (x_bunches, .inr (0, [.int w_x_bunches_onRoad, .int w_x_bunches_number, .ref x_bu_order, .ref x_bu_places, .ref x_bu_sizes])), (x_bu_order, .inl (cI, 20, .inl g_x_bu_order)), (x_bu_places, .inl (cI, 20, .inl g_x_bu_places)), (x_bu_sizes, .inl (cI, 20, .inl g_x_bu_sizes))]) A) (([.ref h0] : List Value).toArray) s 0 0 A) (F0 m 19 ls []) := by
    intro n
    induction n with
    | zero =>
      intro i1_L_30 g_x_bu_order_L_30 w_h0_left_L_30 w_h0_foremost_L_30 w_x_bunches_onRoad_L_30 H locs ls hI0 hI1 hI2 hI3 hI4 hM
      exact absurd hM (by omega)
    | succ n ih =>
      intro i1_L_30 g_x_bu_order_L_30 w_h0_left_L_30 w_h0_foremost_L_30 w_x_bunches_onRoad_L_30 H locs ls hI0 hI1 hI2 hI3 hI4 hM hP hD hS hl
      have ih_31 := ih
      have hi_32 := hI0
      have hi_33 := hI1
      have hi_34 := hI2
      have hi_35 := hI3
      have hi_36 := hI4
      refine lv_iload_n hx hb dX3_lineUp_19 rfl (lv_at hl 0 rfl) ?_
      refine lv_bipush (v := 20) hx hb dX3_lineUp_20 (by decide) ?_
      refine lv_icmp_ge (tgt := 98) hx hb dX3_lineUp_22 (by decide) (fun c_37 => ?_) (fun c_37 => ?_)
      ·
        have c_37 : (20:Int) ≤ (i1_L_30).toInt := zz_le (by decide) rfl c_37
        refine lv_aload_n hx hb dX3_lineUp_98 rfl (lv_at hl 1 rfl) ?_
        refine va_get (D := (dC, dI)) (ci := 3) (v := .ref x_bunches) (C := RX3) (T := TX3) (N := 16) hx hb hts hiX3 hown hK hP 0 rfl rfl 14 (by decide) hw0 (fun _ h9 => h9) rfl dX3_lineUp_99 ?_
        refine lv_aload_n hx hb dX3_lineUp_102 rfl (lv_at hl 1 rfl) ?_
        refine va_get (D := (dC, dI)) (ci := 3) (v := .ref x_metres) (C := RX3) (T := TX3) (N := 16) hx hb hts hiX3 hown hK hP 0 rfl rfl 6 (by decide) hw7 (fun _ h9 => h9) rfl dX3_lineUp_103 ?_
        have hPc := hP.sub (ws' := [(x_bunches, .inr (0, [.int w_x_bunches_onRoad_L_30, .int w_h0_number_2, .ref x_bu_order, .ref x_bu_places, .ref x_bu_sizes])), (x_bu_order, .inl (cI, 20, .inl g_x_bu_order_L_30)), (x_bu_places, .inl (cI, 20, .inl f_x_bu_places)), (x_bu_sizes, .inl (cI, 20, .inl f_x_bu_sizes)), (x_metres, .inl (cI, 20, .inl f_x_metres))]) [8, 5, 6, 7, 2] rfl
        have hDc := hD.sub (ws' := [(x_bunches, .inr (0, [.int w_x_bunches_onRoad_L_30, .int w_h0_number_2, .ref x_bu_order, .ref x_bu_places, .ref x_bu_sizes])), (x_bu_order, .inl (cI, 20, .inl g_x_bu_order_L_30)), (x_bu_places, .inl (cI, 20, .inl f_x_bu_places)), (x_bu_sizes, .inl (cI, 20, .inl f_x_bu_sizes)), (x_metres, .inl (cI, 20, .inl f_x_metres))]) [8, 5, 6, 7, 2] (by decide) rfl
        have hFc := va_free (wc := [(x_bunches, .inr (0, [.int w_x_bunches_onRoad_L_30, .int w_h0_number_2, .ref x_bu_order, .ref x_bu_places, .ref x_bu_sizes])), (x_bu_order, .inl (cI, 20, .inl g_x_bu_order_L_30)), (x_bu_places, .inl (cI, 20, .inl f_x_bu_places)), (x_bu_sizes, .inl (cI, 20, .inl f_x_bu_sizes)), (x_metres, .inl (cI, 20, .inl f_x_metres))]) hD hS hA [8, 5, 6, 7, 2] rfl
        refine va_callv (va_runV (As := [.ref x_metres]) (rest := []) ⟨hx, hb, hml, hown, hts⟩ (c_X0_part l dC dI cI cZ (H).size x_bunches x_metres w_x_bunches_onRoad_L_30 ((w_x_bunches_onRoad_L_30).toInt) rfl (by omega) w_h0_number_2 ((w_h0_number_2).toInt) rfl x_bu_order x_bu_places x_bu_sizes g_x_bu_order_L_30 hi_34 f_x_bu_places f_x_bu_sizes f_x_metres R_x_metres) ⟨callB_of 1 hts (zz_good zw_531) rfl rfl rfl hw1 hw8 (by decide +kernel) ⟨Nat.le_of_ble_eq_true rfl, Nat.le_of_ble_eq_true rfl⟩, hw9, hw10⟩ ⟨fun a U g mk q => by obtain ⟨q0, q1, qP, qK, qD⟩ := q; exact ⟨q0, q1, qP, va_K.moved (u := U) (U := U.calling g mk a) (Vm.Alike.refl U.vm) qK, qD⟩, va_recv hK hPc (ci := 0) (q0 := 0) rfl rfl, fun U hU hW => ⟨rfl, by rw [hU], by rw [hU]; exact hPc, va_K.moved hW.alike hK, hDc.weaken (fun _ _ _ _ => trivial)⟩⟩ rfl rfl hl.1 rfl (lv_room (Nat.le_of_ble_eq_true rfl)) dX3_lineUp_106 ⟨Nat.le_of_ble_eq_true rfl, Nat.le_of_ble_eq_true rfl⟩) hS (fun q _ h => hFc q h) hFc (fun u t H1 locs ht hvm hpost hB hz1 hk1 hS => ?_)
        obtain ⟨w_h0_number_38, g_x_places_39, g_x_sizes_40, hP1, hK1, hD1⟩ := hB
        rw [ht] at hP1
        obtain ⟨hP, hD⟩ := va_join (wr := [(h0, .inr (3, [.int v_x_minute, .int w_h0_left_L_30, .int v_x_primes, .long j_x_lot, .int w_h0_foremost_L_30, .ref x_rides, .ref x_metres, .ref x_store, .ref x_seconds, .ref x_timesHeld, .ref x_work, .ref x_heldFor, .ref x_primeSeconds, .ref x_orderRows, .ref x_bunches, .ref x_values])), (x_rides, .inl (cZ, 20, .inl f_x_rides)), (x_seconds, .inl (cI, 20, .inl f_x_seconds)), (x_heldFor, .inl (cI, 20, .inl f_x_heldFor))]) (w1 := [(x_bunches, .inr (0, [.int w_x_bunches_onRoad_L_30, .int w_h0_number_38, .ref x_bu_order, .ref x_bu_places, .ref x_bu_sizes])), (x_bu_order, .inl (cI, 20, .inl g_x_bu_order_L_30)), (x_bu_places, .inl (cI, 20, .inl g_x_places_39)), (x_bu_sizes, .inl (cI, 20, .inl g_x_sizes_40)), (x_metres, .inl (cI, 20, .inl f_x_metres))]) hP hD [8, 5, 6, 7, 2] [0, 1, 3, 4] rfl rfl (by decide) (by decide) hk1 hFc hP1 hD1
        generalize H1 = H at hP hS ⊢
        have hP : va_P (dC, dI) vwCl [(h0, .inr (3, [.int v_x_minute, .int w_h0_left_L_30, .int v_x_primes, .long j_x_lot, .int w_h0_foremost_L_30, .ref x_rides, .ref x_metres, .ref x_store, .ref x_seconds, .ref x_timesHeld, .ref x_work, .ref x_heldFor, .ref x_primeSeconds, .ref x_orderRows, .ref x_bunches, .ref x_values])), (x_rides, .inl (cZ, 20, .inl f_x_rides)), (x_seconds, .inl (cI, 20, .inl f_x_seconds)), (x_heldFor, .inl (cI, 20, .inl f_x_heldFor)), (x_bunches, .inr (0, [.int w_x_bunches_onRoad_L_30, .int w_h0_number_38, .ref x_bu_order, .ref x_bu_places, .ref x_bu_sizes])), (x_bu_order, .inl (cI, 20, .inl g_x_bu_order_L_30)), (x_bu_places, .inl (cI, 20, .inl g_x_places_39)), (x_bu_sizes, .inl (cI, 20, .inl g_x_sizes_40)), (x_metres, .inl (cI, 20, .inl f_x_metres))] H := hP
        have hD : va_D A [(h0, .inr (3, [.int v_x_minute, .int w_h0_left_L_30, .int v_x_primes, .long j_x_lot, .int w_h0_foremost_L_30, .ref x_rides, .ref x_metres, .ref x_store, .ref x_seconds, .ref x_timesHeld, .ref x_work, .ref x_heldFor, .ref x_primeSeconds, .ref x_orderRows, .ref x_bunches, .ref x_values])), (x_rides, .inl (cZ, 20, .inl f_x_rides)), (x_seconds, .inl (cI, 20, .inl f_x_seconds)), (x_heldFor, .inl (cI, 20, .inl f_x_heldFor)), (x_bunches, .inr (0, [.int w_x_bunches_onRoad_L_30, .int w_h0_number_38, .ref x_bu_order, .ref x_bu_places, .ref x_bu_sizes])), (x_bu_order, .inl (cI, 20, .inl g_x_bu_order_L_30)), (x_bu_places, .inl (cI, 20, .inl g_x_places_39)), (x_bu_sizes, .inl (cI, 20, .inl g_x_sizes_40)), (x_metres, .inl (cI, 20, .inl f_x_metres))] := hD
        have hx9_w_h0_left : (w_h0_left_L_30 : Int32).toInt = (w_h0_left_L_30).toInt := rfl
        have hx9_w_h0_foremost : (w_h0_foremost_L_30 : Int32).toInt = (w_h0_foremost_L_30).toInt := rfl
        have hx9_w_x_bunches_onRoad : (w_x_bunches_onRoad_L_30 : Int32).toInt = (w_x_bunches_onRoad_L_30).toInt := rfl
        have hx9_w_x_bunches_number : (w_h0_number_38 : Int32).toInt = (w_h0_number_38).toInt := rfl
        have hP9 := hP.sub (ws' := [(h0, .inr (3, [.int v_x_minute, .int w_h0_left_L_30, .int v_x_primes, .long j_x_lot, .int w_h0_foremost_L_30, .ref x_rides, .ref x_metres, .ref x_store, .ref x_seconds, .ref x_timesHeld, .ref x_work, .ref x_heldFor, .ref x_primeSeconds, .ref x_orderRows, .ref x_bunches, .ref x_values])), (x_rides, .inl (cZ, 20, .inl f_x_rides)), (x_metres, .inl (cI, 20, .inl f_x_metres)), (x_seconds, .inl (cI, 20, .inl f_x_seconds)), (x_heldFor, .inl (cI, 20, .inl f_x_heldFor)), (x_bunches, .inr (0, [.int w_x_bunches_onRoad_L_30, .int w_h0_number_38, .ref x_bu_order, .ref x_bu_places, .ref x_bu_sizes])), (x_bu_order, .inl (cI, 20, .inl g_x_bu_order_L_30)), (x_bu_places, .inl (cI, 20, .inl g_x_places_39)), (x_bu_sizes, .inl (cI, 20, .inl g_x_sizes_40))]) [0, 1, 8, 2, 3, 4, 5, 6, 7] rfl
        have hD9 := hD.sub (ws' := [(h0, .inr (3, [.int v_x_minute, .int w_h0_left_L_30, .int v_x_primes, .long j_x_lot, .int w_h0_foremost_L_30, .ref x_rides, .ref x_metres, .ref x_store, .ref x_seconds, .ref x_timesHeld, .ref x_work, .ref x_heldFor, .ref x_primeSeconds, .ref x_orderRows, .ref x_bunches, .ref x_values])), (x_rides, .inl (cZ, 20, .inl f_x_rides)), (x_metres, .inl (cI, 20, .inl f_x_metres)), (x_seconds, .inl (cI, 20, .inl f_x_seconds)), (x_heldFor, .inl (cI, 20, .inl f_x_heldFor)), (x_bunches, .inr (0, [.int w_x_bunches_onRoad_L_30, .int w_h0_number_38, .ref x_bu_order, .ref x_bu_places, .ref x_bu_sizes])), (x_bu_order, .inl (cI, 20, .inl g_x_bu_order_L_30)), (x_bu_places, .inl (cI, 20, .inl g_x_places_39)), (x_bu_sizes, .inl (cI, 20, .inl g_x_sizes_40))]) [0, 1, 8, 2, 3, 4, 5, 6, 7] (by decide) rfl
        have hf9_0 : 0 ≤ w_x_bunches_onRoad_L_30.toInt ∧ w_x_bunches_onRoad_L_30.toInt ≤ 20 := by omega
        have hf9_1 : zr g_x_bu_order_L_30 20 (0) (19) := hi_34
        exact W.vret hx hb hr (fun t ht hW => ⟨⟨(), rfl, trivial, w_h0_left_L_30, w_h0_foremost_L_30, w_x_bunches_onRoad_L_30, w_h0_number_38, g_x_bu_order_L_30, g_x_places_39, g_x_sizes_40, hf9_0, hf9_1, by rw [ht]; exact hP9, va_K.moved hW.alike hK, hD9⟩, hS.F ht⟩) hS.2.2 dX3_lineUp_109
      ·
        have c_37 : ¬ ((20:Int) ≤ (i1_L_30).toInt) := zz_len (by decide) rfl c_37
        refine lv_aload_n hx hb dX3_lineUp_25 rfl (lv_at hl 1 rfl) ?_
        refine va_get (D := (dC, dI)) (ci := 3) (v := .ref x_rides) (C := RX3) (T := TX3) (N := 16) hx hb hts hiX3 hown hK hP 0 rfl rfl 5 (by decide) hw11 (fun _ h9 => h9) rfl dX3_lineUp_26 ?_
        refine lv_iload_n hx hb dX3_lineUp_29 rfl (lv_at hl 0 rfl) ?_
        refine va_zald hx hb hK hP 1 1 rfl rfl (zz_in (a := (i1_L_30).toInt) rfl (by omega) (by omega)) dX3_lineUp_30 ?_
        refine lv_topi (fun v_41 ev_41 => ?_)
        refine lv_if_eq (tgt := 92) hx hb dX3_lineUp_31 (by decide) (fun c_42 => ?_) (fun c_42 => ?_)
        ·
          have c_42 : (v_41).toInt = (0:Int) := zz_eq rfl (by decide) c_42
          obtain ⟨v_43, ev_43⟩ : ∃ y : Int32, y = i1_L_30 + 1 := ⟨_, rfl⟩
          have hv_43 : v_43.toInt = ((i1_L_30).toInt + (1:Int)) := by rw [ev_43]; exact zz_addI rfl (by decide) (by omega) (by omega)
          refine lv_iinc (v := v_43) (lv' := [(1, .int v_43), (0, .ref h0)]) hx hb dX3_lineUp_92 hl (k := 0) rfl (by rw [ev_43]; rfl) (by decide) rfl (fun ls hl => ?_)
          refine lv_goto (tgt := 19) hx hb dX3_lineUp_95 (by decide) ?_
          have hb_44_i1_L_30 : (v_43 : Int32).toInt = ((i1_L_30).toInt + (1:Int)) := hv_43
          have hb_44_w_h0_left_L_30 : (w_h0_left_L_30 : Int32).toInt = (w_h0_left_L_30).toInt := rfl
          have hb_44_w_h0_foremost_L_30 : (w_h0_foremost_L_30 : Int32).toInt = (w_h0_foremost_L_30).toInt := rfl
          have hb_44_w_x_bunches_onRoad_L_30 : (w_x_bunches_onRoad_L_30 : Int32).toInt = (w_x_bunches_onRoad_L_30).toInt := rfl
          exact ih_31 v_43 g_x_bu_order_L_30 w_h0_left_L_30 w_h0_foremost_L_30 w_x_bunches_onRoad_L_30 H locs ls (by omega) (by omega) hi_34 (by omega) (by omega) (by omega) (hP.sub [0, 1, 2, 3, 4, 5, 6, 7, 8] rfl) (hD.sub [0, 1, 2, 3, 4, 5, 6, 7, 8] (by decide) rfl) hS (lv_sub hl [0, 1] rfl)
        ·
          have c_42 : ¬ ((v_41).toInt = (0:Int)) := zz_eqn rfl (by decide) c_42
          refine lv_aload_n hx hb dX3_lineUp_34 rfl (lv_at hl 1 rfl) ?_
          refine va_get (D := (dC, dI)) (ci := 3) (v := .ref x_seconds) (C := RX3) (T := TX3) (N := 16) hx hb hts hiX3 hown hK hP 0 rfl rfl 8 (by decide) hw12 (fun _ h9 => h9) rfl dX3_lineUp_35 ?_
          refine lv_iload_n hx hb dX3_lineUp_38 rfl (lv_at hl 0 rfl) ?_
          refine va_iald hx hb hK hP 3 0 rfl rfl (zz_in (a := (i1_L_30).toInt) rfl (by omega) (by omega)) dX3_lineUp_39 ?_
          refine lv_topi (fun v_45 ev_45 => ?_)
          refine lv_iconst (v := (-1)) hx hb dX3_lineUp_40 (by decide) ?_
          refine lv_icmp_ne (tgt := 92) hx hb dX3_lineUp_41 (by decide) (fun c_46 => ?_) (fun c_46 => ?_)
          ·
            have c_46 : ¬ ((v_45).toInt = (-1:Int)) := zz_eqn rfl (by decide) c_46
            obtain ⟨v_47, ev_47⟩ : ∃ y : Int32, y = i1_L_30 + 1 := ⟨_, rfl⟩
            have hv_47 : v_47.toInt = ((i1_L_30).toInt + (1:Int)) := by rw [ev_47]; exact zz_addI rfl (by decide) (by omega) (by omega)
            refine lv_iinc (v := v_47) (lv' := [(1, .int v_47), (0, .ref h0)]) hx hb dX3_lineUp_92 hl (k := 0) rfl (by rw [ev_47]; rfl) (by decide) rfl (fun ls hl => ?_)
            refine lv_goto (tgt := 19) hx hb dX3_lineUp_95 (by decide) ?_
            have hb_48_i1_L_30 : (v_47 : Int32).toInt = ((i1_L_30).toInt + (1:Int)) := hv_47
            have hb_48_w_h0_left_L_30 : (w_h0_left_L_30 : Int32).toInt = (w_h0_left_L_30).toInt := rfl
            have hb_48_w_h0_foremost_L_30 : (w_h0_foremost_L_30 : Int32).toInt = (w_h0_foremost_L_30).toInt := rfl
            have hb_48_w_x_bunches_onRoad_L_30 : (w_x_bunches_onRoad_L_30 : Int32).toInt = (w_x_bunches_onRoad_L_30).toInt := rfl
            exact ih_31 v_47 g_x_bu_order_L_30 w_h0_left_L_30 w_h0_foremost_L_30 w_x_bunches_onRoad_L_30 H locs ls (by omega) (by omega) hi_34 (by omega) (by omega) (by omega) (hP.sub [0, 1, 2, 3, 4, 5, 6, 7, 8] rfl) (hD.sub [0, 1, 2, 3, 4, 5, 6, 7, 8] (by decide) rfl) hS (lv_sub hl [0, 1] rfl)
          ·
            have c_46 : (v_45).toInt = (-1:Int) := zz_eq rfl (by decide) c_46
            refine lv_aload_n hx hb dX3_lineUp_44 rfl (lv_at hl 1 rfl) ?_
            refine lv_dup hx hb dX3_lineUp_45 rfl ?_
            refine va_get (D := (dC, dI)) (ci := 3) (v := .int w_h0_left_L_30) (C := RX3) (T := TX3) (N := 16) hx hb hts hiX3 hown hK hP 0 rfl rfl 1 (by decide) hw5 (fun _ h9 => h9) rfl dX3_lineUp_46 ?_
            refine lv_iconst (v := 1) hx hb dX3_lineUp_49 (by decide) ?_
            refine lv_iadd hx hb dX3_lineUp_50 ?_
            refine lv_topi (fun v_49 _ => ?_)
            refine va_put (D := (dC, dI)) (ci := 3) (v := .int v_49) (ty := .int) (C := RX3) (T := TX3) (N := 16) hx hb hts hiX3 tyX3 tyX3_ok nmX3 hown hK hP hD hS 0 rfl rfl 1 (by decide) hw5 (fun _ h9 => h9) rfl (by decide +kernel) rfl rfl (Nat.le_of_ble_eq_true rfl) dX3_lineUp_51 (fun H locs hP hD hS => ?_)
            have hP : va_P (dC, dI) vwCl [(h0, .inr (3, [.int v_x_minute, .int v_49, .int v_x_primes, .long j_x_lot, .int w_h0_foremost_L_30, .ref x_rides, .ref x_metres, .ref x_store, .ref x_seconds, .ref x_timesHeld, .ref x_work, .ref x_heldFor, .ref x_primeSeconds, .ref x_orderRows, .ref x_bunches, .ref x_values])), (x_rides, .inl (cZ, 20, .inl f_x_rides)), (x_metres, .inl (cI, 20, .inl f_x_metres)), (x_seconds, .inl (cI, 20, .inl f_x_seconds)), (x_heldFor, .inl (cI, 20, .inl f_x_heldFor)), (x_bu_order, .inl (cI, 20, .inl g_x_bu_order_L_30)), (x_bu_places, .inl (cI, 20, .inl f_x_bu_places)), (x_bu_sizes, .inl (cI, 20, .inl f_x_bu_sizes)), (x_bunches, .inr (0, [.int w_x_bunches_onRoad_L_30, .int w_h0_number_2, .ref x_bu_order, .ref x_bu_places, .ref x_bu_sizes]))] H := hP
            have hD : va_D A [(h0, .inr (3, [.int v_x_minute, .int v_49, .int v_x_primes, .long j_x_lot, .int w_h0_foremost_L_30, .ref x_rides, .ref x_metres, .ref x_store, .ref x_seconds, .ref x_timesHeld, .ref x_work, .ref x_heldFor, .ref x_primeSeconds, .ref x_orderRows, .ref x_bunches, .ref x_values])), (x_rides, .inl (cZ, 20, .inl f_x_rides)), (x_metres, .inl (cI, 20, .inl f_x_metres)), (x_seconds, .inl (cI, 20, .inl f_x_seconds)), (x_heldFor, .inl (cI, 20, .inl f_x_heldFor)), (x_bu_order, .inl (cI, 20, .inl g_x_bu_order_L_30)), (x_bu_places, .inl (cI, 20, .inl f_x_bu_places)), (x_bu_sizes, .inl (cI, 20, .inl f_x_bu_sizes)), (x_bunches, .inr (0, [.int w_x_bunches_onRoad_L_30, .int w_h0_number_2, .ref x_bu_order, .ref x_bu_places, .ref x_bu_sizes]))] := hD
            refine lv_aload_n hx hb dX3_lineUp_54 rfl (lv_at hl 1 rfl) ?_
            refine lv_aload_n hx hb dX3_lineUp_55 rfl (lv_at hl 1 rfl) ?_
            refine va_get (D := (dC, dI)) (ci := 3) (v := .int w_h0_foremost_L_30) (C := RX3) (T := TX3) (N := 16) hx hb hts hiX3 hown hK hP 0 rfl rfl 4 (by decide) hw6 (fun _ h9 => h9) rfl dX3_lineUp_56 ?_
            refine lv_aload_n hx hb dX3_lineUp_59 rfl (lv_at hl 1 rfl) ?_
            refine va_get (D := (dC, dI)) (ci := 3) (v := .ref x_metres) (C := RX3) (T := TX3) (N := 16) hx hb hts hiX3 hown hK hP 0 rfl rfl 6 (by decide) hw7 (fun _ h9 => h9) rfl dX3_lineUp_60 ?_
            refine lv_iload_n hx hb dX3_lineUp_63 rfl (lv_at hl 0 rfl) ?_
            refine va_iald hx hb hK hP 2 0 rfl rfl (zz_in (a := (i1_L_30).toInt) rfl (by omega) (by omega)) dX3_lineUp_64 ?_
            refine lv_topi (fun v_50 ev_50 => ?_)
            have bv_50 : 0 ≤ v_50.toInt ∧ v_50.toInt ≤ 30000 := by rw [ev_50]; exact zr_get (a := (i1_L_30).toInt) R_x_metres rfl (by omega) (by omega)
            refine va_mmax hx hb (by rw [hml]; exact hl.1.symm) hown hw13 hw14 hw15 hw16 (Nat.le_of_ble_eq_true rfl) (Nat.le_of_ble_eq_true rfl) (Nat.le_of_ble_eq_true rfl) (Nat.le_of_ble_eq_true rfl) dX3_lineUp_65 ?_
            refine lv_topi (fun v_51 ev_51 => ?_)
            have hv_51 := zz_max (a := (w_h0_foremost_L_30).toInt) rfl (b := (v_50).toInt) rfl ev_51
            refine va_put (D := (dC, dI)) (ci := 3) (v := .int v_51) (ty := .int) (C := RX3) (T := TX3) (N := 16) hx hb hts hiX3 tyX3 tyX3_ok nmX3 hown hK hP hD hS 0 rfl rfl 4 (by decide) hw6 (fun _ h9 => h9) rfl (by decide +kernel) rfl rfl (Nat.le_of_ble_eq_true rfl) dX3_lineUp_68 (fun H locs hP hD hS => ?_)
            have hP : va_P (dC, dI) vwCl [(h0, .inr (3, [.int v_x_minute, .int v_49, .int v_x_primes, .long j_x_lot, .int v_51, .ref x_rides, .ref x_metres, .ref x_store, .ref x_seconds, .ref x_timesHeld, .ref x_work, .ref x_heldFor, .ref x_primeSeconds, .ref x_orderRows, .ref x_bunches, .ref x_values])), (x_rides, .inl (cZ, 20, .inl f_x_rides)), (x_metres, .inl (cI, 20, .inl f_x_metres)), (x_seconds, .inl (cI, 20, .inl f_x_seconds)), (x_heldFor, .inl (cI, 20, .inl f_x_heldFor)), (x_bu_order, .inl (cI, 20, .inl g_x_bu_order_L_30)), (x_bu_places, .inl (cI, 20, .inl f_x_bu_places)), (x_bu_sizes, .inl (cI, 20, .inl f_x_bu_sizes)), (x_bunches, .inr (0, [.int w_x_bunches_onRoad_L_30, .int w_h0_number_2, .ref x_bu_order, .ref x_bu_places, .ref x_bu_sizes]))] H := hP
            have hD : va_D A [(h0, .inr (3, [.int v_x_minute, .int v_49, .int v_x_primes, .long j_x_lot, .int v_51, .ref x_rides, .ref x_metres, .ref x_store, .ref x_seconds, .ref x_timesHeld, .ref x_work, .ref x_heldFor, .ref x_primeSeconds, .ref x_orderRows, .ref x_bunches, .ref x_values])), (x_rides, .inl (cZ, 20, .inl f_x_rides)), (x_metres, .inl (cI, 20, .inl f_x_metres)), (x_seconds, .inl (cI, 20, .inl f_x_seconds)), (x_heldFor, .inl (cI, 20, .inl f_x_heldFor)), (x_bu_order, .inl (cI, 20, .inl g_x_bu_order_L_30)), (x_bu_places, .inl (cI, 20, .inl f_x_bu_places)), (x_bu_sizes, .inl (cI, 20, .inl f_x_bu_sizes)), (x_bunches, .inr (0, [.int w_x_bunches_onRoad_L_30, .int w_h0_number_2, .ref x_bu_order, .ref x_bu_places, .ref x_bu_sizes]))] := hD
            refine lv_aload_n hx hb dX3_lineUp_71 rfl (lv_at hl 1 rfl) ?_
            refine va_get (D := (dC, dI)) (ci := 3) (v := .ref x_heldFor) (C := RX3) (T := TX3) (N := 16) hx hb hts hiX3 hown hK hP 0 rfl rfl 11 (by decide) hw17 (fun _ h9 => h9) rfl dX3_lineUp_72 ?_
            refine lv_iload_n hx hb dX3_lineUp_75 rfl (lv_at hl 0 rfl) ?_
            refine va_iald hx hb hK hP 4 0 rfl rfl (zz_in (a := (i1_L_30).toInt) rfl (by omega) (by omega)) dX3_lineUp_76 ?_
            refine lv_topi (fun v_52 ev_52 => ?_)
            refine lv_if_ne (tgt := 92) hx hb dX3_lineUp_77 (by decide) (fun c_53 => ?_) (fun c_53 => ?_)
            ·
              have c_53 : ¬ ((v_52).toInt = (0:Int)) := zz_eqn rfl (by decide) c_53
              obtain ⟨v_54, ev_54⟩ : ∃ y : Int32, y = i1_L_30 + 1 := ⟨_, rfl⟩
              have hv_54 : v_54.toInt = ((i1_L_30).toInt + (1:Int)) := by rw [ev_54]; exact zz_addI rfl (by decide) (by omega) (by omega)
              refine lv_iinc (v := v_54) (lv' := [(1, .int v_54), (0, .ref h0)]) hx hb dX3_lineUp_92 hl (k := 0) rfl (by rw [ev_54]; rfl) (by decide) rfl (fun ls hl => ?_)
              refine lv_goto (tgt := 19) hx hb dX3_lineUp_95 (by decide) ?_
              have hb_55_i1_L_30 : (v_54 : Int32).toInt = ((i1_L_30).toInt + (1:Int)) := hv_54
              have hb_55_w_h0_left_L_30 : (v_49 : Int32).toInt = (v_49).toInt := rfl
              have hb_55_w_h0_foremost_L_30 : (v_51 : Int32).toInt = (v_51).toInt := rfl
              have hb_55_w_x_bunches_onRoad_L_30 : (w_x_bunches_onRoad_L_30 : Int32).toInt = (w_x_bunches_onRoad_L_30).toInt := rfl
              exact ih_31 v_54 g_x_bu_order_L_30 v_49 v_51 w_x_bunches_onRoad_L_30 H locs ls (by omega) (by omega) hi_34 (by omega) (by omega) (by omega) (hP.sub [0, 1, 2, 3, 4, 5, 6, 7, 8] rfl) (hD.sub [0, 1, 2, 3, 4, 5, 6, 7, 8] (by decide) rfl) hS (lv_sub hl [0, 1] rfl)
            ·
              have c_53 : (v_52).toInt = (0:Int) := zz_eq rfl (by decide) c_53
              refine lv_aload_n hx hb dX3_lineUp_80 rfl (lv_at hl 1 rfl) ?_
              refine va_get (D := (dC, dI)) (ci := 3) (v := .ref x_bunches) (C := RX3) (T := TX3) (N := 16) hx hb hts hiX3 hown hK hP 0 rfl rfl 14 (by decide) hw0 (fun _ h9 => h9) rfl dX3_lineUp_81 ?_
              refine lv_iload_n hx hb dX3_lineUp_84 rfl (lv_at hl 0 rfl) ?_
              refine lv_aload_n hx hb dX3_lineUp_85 rfl (lv_at hl 1 rfl) ?_
              refine va_get (D := (dC, dI)) (ci := 3) (v := .ref x_metres) (C := RX3) (T := TX3) (N := 16) hx hb hts hiX3 hown hK hP 0 rfl rfl 6 (by decide) hw7 (fun _ h9 => h9) rfl dX3_lineUp_86 ?_
              have hPc := hP.sub (ws' := [(x_bunches, .inr (0, [.int w_x_bunches_onRoad_L_30, .int w_h0_number_2, .ref x_bu_order, .ref x_bu_places, .ref x_bu_sizes])), (x_bu_order, .inl (cI, 20, .inl g_x_bu_order_L_30)), (x_metres, .inl (cI, 20, .inl f_x_metres))]) [8, 5, 2] rfl
              have hDc := hD.sub (ws' := [(x_bunches, .inr (0, [.int w_x_bunches_onRoad_L_30, .int w_h0_number_2, .ref x_bu_order, .ref x_bu_places, .ref x_bu_sizes])), (x_bu_order, .inl (cI, 20, .inl g_x_bu_order_L_30)), (x_metres, .inl (cI, 20, .inl f_x_metres))]) [8, 5, 2] (by decide) rfl
              have hFc := va_free (wc := [(x_bunches, .inr (0, [.int w_x_bunches_onRoad_L_30, .int w_h0_number_2, .ref x_bu_order, .ref x_bu_places, .ref x_bu_sizes])), (x_bu_order, .inl (cI, 20, .inl g_x_bu_order_L_30)), (x_metres, .inl (cI, 20, .inl f_x_metres))]) hD hS hA [8, 5, 2] rfl
              refine va_callv (va_runV (As := [.int i1_L_30, .ref x_metres]) (rest := []) ⟨hx, hb, hml, hown, hts⟩ (c_X0_stand l dC dI cI cZ (H).size x_bunches i1_L_30 ((i1_L_30).toInt) rfl (by omega) x_metres w_x_bunches_onRoad_L_30 ((w_x_bunches_onRoad_L_30).toInt) rfl (by omega) w_h0_number_2 ((w_h0_number_2).toInt) rfl x_bu_order x_bu_places x_bu_sizes g_x_bu_order_L_30 hi_34 f_x_metres R_x_metres) ⟨callB_of 2 hts (zz_good zw_527) rfl rfl rfl hw1 hw18 (by decide +kernel) ⟨Nat.le_of_ble_eq_true rfl, Nat.le_of_ble_eq_true rfl⟩, hw19, hw20⟩ ⟨fun a U g mk q => by obtain ⟨q0, q1, qP, qK, qD⟩ := q; exact ⟨q0, q1, qP, va_K.moved (u := U) (U := U.calling g mk a) (Vm.Alike.refl U.vm) qK, qD⟩, va_recv hK hPc (ci := 0) (q0 := 0) rfl rfl, fun U hU hW => ⟨rfl, by rw [hU], by rw [hU]; exact hPc, va_K.moved hW.alike hK, hDc.weaken (fun _ _ _ _ => trivial)⟩⟩ rfl rfl hl.1 rfl (lv_room (Nat.le_of_ble_eq_true rfl)) dX3_lineUp_89 ⟨Nat.le_of_ble_eq_true rfl, Nat.le_of_ble_eq_true rfl⟩) hS (fun q _ h => hFc q h) hFc (fun u t H1 locs ht hvm hpost hB hz1 hk1 hS => ?_)
              obtain ⟨w_h0_onRoad_56, g_x_order_57, hf_58, hf_59, hP1, hK1, hD1⟩ := hB
              rw [ht] at hP1
              obtain ⟨hP, hD⟩ := va_join (wr := [(h0, .inr (3, [.int v_x_minute, .int v_49, .int v_x_primes, .long j_x_lot, .int v_51, .ref x_rides, .ref x_metres, .ref x_store, .ref x_seconds, .ref x_timesHeld, .ref x_work, .ref x_heldFor, .ref x_primeSeconds, .ref x_orderRows, .ref x_bunches, .ref x_values])), (x_rides, .inl (cZ, 20, .inl f_x_rides)), (x_seconds, .inl (cI, 20, .inl f_x_seconds)), (x_heldFor, .inl (cI, 20, .inl f_x_heldFor)), (x_bu_places, .inl (cI, 20, .inl f_x_bu_places)), (x_bu_sizes, .inl (cI, 20, .inl f_x_bu_sizes))]) (w1 := [(x_bunches, .inr (0, [.int w_h0_onRoad_56, .int w_h0_number_2, .ref x_bu_order, .ref x_bu_places, .ref x_bu_sizes])), (x_bu_order, .inl (cI, 20, .inl g_x_order_57)), (x_metres, .inl (cI, 20, .inl f_x_metres))]) hP hD [8, 5, 2] [0, 1, 3, 4, 6, 7] rfl rfl (by decide) (by decide) hk1 hFc hP1 hD1
              generalize H1 = H at hP hS ⊢
              have hP : va_P (dC, dI) vwCl [(h0, .inr (3, [.int v_x_minute, .int v_49, .int v_x_primes, .long j_x_lot, .int v_51, .ref x_rides, .ref x_metres, .ref x_store, .ref x_seconds, .ref x_timesHeld, .ref x_work, .ref x_heldFor, .ref x_primeSeconds, .ref x_orderRows, .ref x_bunches, .ref x_values])), (x_rides, .inl (cZ, 20, .inl f_x_rides)), (x_seconds, .inl (cI, 20, .inl f_x_seconds)), (x_heldFor, .inl (cI, 20, .inl f_x_heldFor)), (x_bu_places, .inl (cI, 20, .inl f_x_bu_places)), (x_bu_sizes, .inl (cI, 20, .inl f_x_bu_sizes)), (x_bunches, .inr (0, [.int w_h0_onRoad_56, .int w_h0_number_2, .ref x_bu_order, .ref x_bu_places, .ref x_bu_sizes])), (x_bu_order, .inl (cI, 20, .inl g_x_order_57)), (x_metres, .inl (cI, 20, .inl f_x_metres))] H := hP
              have hD : va_D A [(h0, .inr (3, [.int v_x_minute, .int v_49, .int v_x_primes, .long j_x_lot, .int v_51, .ref x_rides, .ref x_metres, .ref x_store, .ref x_seconds, .ref x_timesHeld, .ref x_work, .ref x_heldFor, .ref x_primeSeconds, .ref x_orderRows, .ref x_bunches, .ref x_values])), (x_rides, .inl (cZ, 20, .inl f_x_rides)), (x_seconds, .inl (cI, 20, .inl f_x_seconds)), (x_heldFor, .inl (cI, 20, .inl f_x_heldFor)), (x_bu_places, .inl (cI, 20, .inl f_x_bu_places)), (x_bu_sizes, .inl (cI, 20, .inl f_x_bu_sizes)), (x_bunches, .inr (0, [.int w_h0_onRoad_56, .int w_h0_number_2, .ref x_bu_order, .ref x_bu_places, .ref x_bu_sizes])), (x_bu_order, .inl (cI, 20, .inl g_x_order_57)), (x_metres, .inl (cI, 20, .inl f_x_metres))] := hD
              have hf_58 : 0 ≤ w_h0_onRoad_56.toInt ∧ w_h0_onRoad_56.toInt ≤ 20 := hf_58
              have hf_59 : zr g_x_order_57 20 (0) (19) := hf_59
              obtain ⟨v_60, ev_60⟩ : ∃ y : Int32, y = i1_L_30 + 1 := ⟨_, rfl⟩
              have hv_60 : v_60.toInt = ((i1_L_30).toInt + (1:Int)) := by rw [ev_60]; exact zz_addI rfl (by decide) (by omega) (by omega)
              refine lv_iinc (v := v_60) (lv' := [(1, .int v_60), (0, .ref h0)]) hx hb dX3_lineUp_92 hl (k := 0) rfl (by rw [ev_60]; rfl) (by decide) rfl (fun ls hl => ?_)
              refine lv_goto (tgt := 19) hx hb dX3_lineUp_95 (by decide) ?_
              have hb_61_i1_L_30 : (v_60 : Int32).toInt = ((i1_L_30).toInt + (1:Int)) := hv_60
              have hb_61_w_h0_left_L_30 : (v_49 : Int32).toInt = (v_49).toInt := rfl
              have hb_61_w_h0_foremost_L_30 : (v_51 : Int32).toInt = (v_51).toInt := rfl
              have hb_61_w_x_bunches_onRoad_L_30 : (w_h0_onRoad_56 : Int32).toInt = (w_h0_onRoad_56).toInt := rfl
              exact ih_31 v_60 g_x_order_57 v_49 v_51 w_h0_onRoad_56 H locs ls (by omega) (by omega) hf_59 (by omega) (by omega) (by omega) (hP.sub [0, 1, 8, 2, 3, 7, 4, 5, 6] rfl) (hD.sub [0, 1, 8, 2, 3, 7, 4, 5, 6] (by decide) rfl) hS (lv_sub hl [0, 1] rfl)
  have hb_62_i1_L_30 : (0 : Int32).toInt = (0:Int) := (by decide)
  have hb_62_w_h0_left_L_30 : (0 : Int32).toInt = (0:Int) := (by decide)
  have hb_62_w_h0_foremost_L_30 : (0 : Int32).toInt = (0:Int) := (by decide)
  have hb_62_w_x_bunches_onRoad_L_30 : (w_h0_onRoad_1 : Int32).toInt = (w_h0_onRoad_1).toInt := rfl
  exact L_30 1000 0 f_x_bu_order 0 0 w_h0_onRoad_1 H locs ls (by omega) (by omega) R_x_bu_order (by omega) (by omega) (by omega) (hP.sub [0, 1, 2, 3, 4, 5, 6, 7, 8] rfl) (hD.sub [0, 1, 2, 3, 4, 5, 6, 7, 8] (by decide) rfl) hS (lv_sub hl [0, 1] rfl)

set_option maxHeartbeats 8000000 in
set_option maxRecDepth 100000 in
theorem c_X3_look (l : Launch) (dC : Nat → ClassId) (dI : Nat → Nat → Nat) (cI cZ : ClassId) (sz : Nat) (h0 : Nat) (pR : Int32) (pR_i : Int) (pR_h : pR.toInt = pR_i) (B_pR : 0 ≤ pR_i ∧ pR_i ≤ 19) (pF : Int32) (pF_i : Int) (pF_h : pF.toInt = pF_i) (pL : Int32) (pL_i : Int) (pL_h : pL.toInt = pL_i) (v_x_minute : Int32) (v_x_minute_i : Int) (v_x_minute_h : v_x_minute.toInt = v_x_minute_i) (v_x_left : Int32) (v_x_left_i : Int) (v_x_left_h : v_x_left.toInt = v_x_left_i) (v_x_primes : Int32) (v_x_primes_i : Int) (v_x_primes_h : v_x_primes.toInt = v_x_primes_i) (B_v_x_primes : 0 ≤ v_x_primes_i ∧ v_x_primes_i ≤ 5) (j_x_lot : Int64) (v_x_foremost : Int32) (v_x_foremost_i : Int) (v_x_foremost_h : v_x_foremost.toInt = v_x_foremost_i) (x_rides : Nat) (x_metres : Nat) (x_store : Nat) (x_seconds : Nat) (x_timesHeld : Nat) (x_work : Nat) (x_heldFor : Nat) (x_primeSeconds : Nat) (x_orderRows : Nat) (x_bunches : Nat) (x_values : Nat) (f_x_metres : Nat → Int32) (R_x_metres : zr f_x_metres 20 (0) (30000)) (f_x_store : Nat → Int32) (v_x_bu_onRoad : Int32) (v_x_bu_onRoad_i : Int) (v_x_bu_onRoad_h : v_x_bu_onRoad.toInt = v_x_bu_onRoad_i) (B_v_x_bu_onRoad : 0 ≤ v_x_bu_onRoad_i ∧ v_x_bu_onRoad_i ≤ 20) (v_x_bu_number : Int32) (v_x_bu_number_i : Int) (v_x_bu_number_h : v_x_bu_number.toInt = v_x_bu_number_i) (x_bu_order : Nat) (x_bu_places : Nat) (x_bu_sizes : Nat) (f_x_bu_places : Nat → Int32) (f_x_bu_sizes : Nat → Int32) (f_x_values : Nat → Int32) : Met l yX3_look (Cond.code yX3_look cX3_look 4 none :: lw_good) ({ frames := 0, cells := 0, slots := 0, locals := 0 }) (va_Pc [.ref h0, .int pR, .int pF, .int pL] (fun U => U.heap.size = sz ∧ va_P (dC, dI) vwCl [(h0, .inr (3, [.int v_x_minute, .int v_x_left, .int v_x_primes, .long j_x_lot, .int v_x_foremost, .ref x_rides, .ref x_metres, .ref x_store, .ref x_seconds, .ref x_timesHeld, .ref x_work, .ref x_heldFor, .ref x_primeSeconds, .ref x_orderRows, .ref x_bunches, .ref x_values])), (x_metres, .inl (cI, 20, .inl f_x_metres)), (x_store, .inl (cI, 20, .inl f_x_store)), (x_bunches, .inr (0, [.int v_x_bu_onRoad, .int v_x_bu_number, .ref x_bu_order, .ref x_bu_places, .ref x_bu_sizes])), (x_bu_places, .inl (cI, 20, .inl f_x_bu_places)), (x_bu_sizes, .inl (cI, 20, .inl f_x_bu_sizes)), (x_values, .inl (cI, 5, .inl f_x_values))] U.heap ∧ va_K (dC, dI) vwCl [(cI, .int), (cZ, .boolean)] U ∧ va_D (fun _ => True) [(h0, .inr (3, [.int v_x_minute, .int v_x_left, .int v_x_primes, .long j_x_lot, .int v_x_foremost, .ref x_rides, .ref x_metres, .ref x_store, .ref x_seconds, .ref x_timesHeld, .ref x_work, .ref x_heldFor, .ref x_primeSeconds, .ref x_orderRows, .ref x_bunches, .ref x_values])), (x_metres, .inl (cI, 20, .inl f_x_metres)), (x_store, .inl (cI, 20, .inl f_x_store)), (x_bunches, .inr (0, [.int v_x_bu_onRoad, .int v_x_bu_number, .ref x_bu_order, .ref x_bu_places, .ref x_bu_sizes])), (x_bu_places, .inl (cI, 20, .inl f_x_bu_places)), (x_bu_sizes, .inl (cI, 20, .inl f_x_bu_sizes)), (x_values, .inl (cI, 5, .inl f_x_values))])) (va_Qv (fun _ : Unit => True) (fun _ t => ∃ (g_x_values : Nat → Int32), va_P (dC, dI) vwCl [(h0, .inr (3, [.int v_x_minute, .int v_x_left, .int v_x_primes, .long j_x_lot, .int v_x_foremost, .ref x_rides, .ref x_metres, .ref x_store, .ref x_seconds, .ref x_timesHeld, .ref x_work, .ref x_heldFor, .ref x_primeSeconds, .ref x_orderRows, .ref x_bunches, .ref x_values])), (x_metres, .inl (cI, 20, .inl f_x_metres)), (x_store, .inl (cI, 20, .inl f_x_store)), (x_bunches, .inr (0, [.int v_x_bu_onRoad, .int v_x_bu_number, .ref x_bu_order, .ref x_bu_places, .ref x_bu_sizes])), (x_bu_places, .inl (cI, 20, .inl f_x_bu_places)), (x_bu_sizes, .inl (cI, 20, .inl f_x_bu_sizes)), (x_values, .inl (cI, 5, .inl g_x_values))] t.heap ∧ va_K (dC, dI) vwCl [(cI, .int), (cZ, .boolean)] t ∧ va_D (va_A [(h0, .inr (3, [.int v_x_minute, .int v_x_left, .int v_x_primes, .long j_x_lot, .int v_x_foremost, .ref x_rides, .ref x_metres, .ref x_store, .ref x_seconds, .ref x_timesHeld, .ref x_work, .ref x_heldFor, .ref x_primeSeconds, .ref x_orderRows, .ref x_bunches, .ref x_values])), (x_metres, .inl (cI, 20, .inl f_x_metres)), (x_store, .inl (cI, 20, .inl f_x_store)), (x_bunches, .inr (0, [.int v_x_bu_onRoad, .int v_x_bu_number, .ref x_bu_order, .ref x_bu_places, .ref x_bu_sizes])), (x_bu_places, .inl (cI, 20, .inl f_x_bu_places)), (x_bu_sizes, .inl (cI, 20, .inl f_x_bu_sizes)), (x_values, .inl (cI, 5, .inl f_x_values))] sz) [(h0, .inr (3, [.int v_x_minute, .int v_x_left, .int v_x_primes, .long j_x_lot, .int v_x_foremost, .ref x_rides, .ref x_metres, .ref x_store, .ref x_seconds, .ref x_timesHeld, .ref x_work, .ref x_heldFor, .ref x_primeSeconds, .ref x_orderRows, .ref x_bunches, .ref x_values])), (x_metres, .inl (cI, 20, .inl f_x_metres)), (x_store, .inl (cI, 20, .inl f_x_store)), (x_bunches, .inr (0, [.int v_x_bu_onRoad, .int v_x_bu_number, .ref x_bu_order, .ref x_bu_places, .ref x_bu_sizes])), (x_bu_places, .inl (cI, 20, .inl f_x_bu_places)), (x_bu_sizes, .inl (cI, 20, .inl f_x_bu_sizes)), (x_values, .inl (cI, 5, .inl g_x_values))]) (va_A [(h0, .inr (3, [.int v_x_minute, .int v_x_left, .int v_x_primes, .long j_x_lot, .int v_x_foremost, .ref x_rides, .ref x_metres, .ref x_store, .ref x_seconds, .ref x_timesHeld, .ref x_work, .ref x_heldFor, .ref x_primeSeconds, .ref x_orderRows, .ref x_bunches, .ref x_values])), (x_metres, .inl (cI, 20, .inl f_x_metres)), (x_store, .inl (cI, 20, .inl f_x_store)), (x_bunches, .inr (0, [.int v_x_bu_onRoad, .int v_x_bu_number, .ref x_bu_order, .ref x_bu_places, .ref x_bu_sizes])), (x_bu_places, .inl (cI, 20, .inl f_x_bu_places)), (x_bu_sizes, .inl (cI, 20, .inl f_x_bu_sizes)), (x_values, .inl (cI, 5, .inl f_x_values))] sz)) 0 0 (va_A [(h0, .inr (3, [.int v_x_minute, .int v_x_left, .int v_x_primes, .long j_x_lot, .int v_x_foremost, .ref x_rides, .ref x_metres, .ref x_store, .ref x_seconds, .ref x_timesHeld, .ref x_work, .ref x_heldFor, .ref x_primeSeconds, .ref x_orderRows, .ref x_bunches, .ref x_values])), (x_metres, .inl (cI, 20, .inl f_x_metres)), (x_store, .inl (cI, 20, .inl f_x_store)), (x_bunches, .inr (0, [.int v_x_bu_onRoad, .int v_x_bu_number, .ref x_bu_order, .ref x_bu_places, .ref x_bu_sizes])), (x_bu_places, .inl (cI, 20, .inl f_x_bu_places)), (x_bu_sizes, .inl (cI, 20, .inl f_x_bu_sizes)), (x_values, .inl (cI, 5, .inl f_x_values))] sz) := by
  refine Met.ofW (cc := cX3_look) (maxL := 4) (ret := none) (by decide) rfl ?_
  intro p e s m args below meth c s₁ B hml hv
  obtain ⟨rfl, hsz, hP, hK, hD0⟩ := hv
  have hx := B.exec
  have hb := B.bytes
  have hr := B.returns
  have hts := atoms_spec (ws := Cond.code yX3_look cX3_look 4 none :: lw_good) B.pre
  have hown : s.vm.findClass RX3 = some m.cls := findClass_of_methodNamed B.named
  have hlocks := B.notSynchronized
  have hiX0 : ∀ w ∈ wsX00, w ∈ (Cond.code yX3_look cX3_look 4 none :: lw_good) := fun w h => List.mem_cons_of_mem _ (zi_X0 w h)
  have hiX3 : ∀ w ∈ wsX30, w ∈ (Cond.code yX3_look cX3_look 4 none :: lw_good) := fun w h => List.mem_cons_of_mem _ (zi_X3 w h)
  have hw0 := hts (.fieldLink RX3 64 "BunchRace$Race" "values" "[I") (List.mem_cons_of_mem _ zw_258)
  have hw1 := hts (.fieldLink RX3 36 "BunchRace$Race" "store" "[I") (List.mem_cons_of_mem _ zw_243)
  have hw2 := hts (.fieldLink RX3 32 "BunchRace$Race" "metres" "[I") (List.mem_cons_of_mem _ zw_240)
  have hw3 := hts (.fieldLink RX3 25 "BunchRace$Race" "foremost" "I") (List.mem_cons_of_mem _ zw_237)
  have hw4 := hts (.fieldLink RX3 60 "BunchRace$Race" "bunches" "LBunchRace$Bunches;") (List.mem_cons_of_mem _ zw_256)
  have hw5 := hts (.fieldLink RX3 163 "BunchRace$Bunches" "sizes" "[I") (List.mem_cons_of_mem _ zw_216)
  have hw6 := hts (.fieldLink RX3 123 "BunchRace$Bunches" "places" "[I") (List.mem_cons_of_mem _ zw_214)
  subst hsz
  have hD := hD0.self (sz := s.heap.size)
  generalize hAe : va_A [(h0, .inr (3, [.int v_x_minute, .int v_x_left, .int v_x_primes, .long j_x_lot, .int v_x_foremost, .ref x_rides, .ref x_metres, .ref x_store, .ref x_seconds, .ref x_timesHeld, .ref x_work, .ref x_heldFor, .ref x_primeSeconds, .ref x_orderRows, .ref x_bunches, .ref x_values])), (x_metres, .inl (cI, 20, .inl f_x_metres)), (x_store, .inl (cI, 20, .inl f_x_store)), (x_bunches, .inr (0, [.int v_x_bu_onRoad, .int v_x_bu_number, .ref x_bu_order, .ref x_bu_places, .ref x_bu_sizes])), (x_bu_places, .inl (cI, 20, .inl f_x_bu_places)), (x_bu_sizes, .inl (cI, 20, .inl f_x_bu_sizes)), (x_values, .inl (cI, 5, .inl f_x_values))] s.heap.size = A at hD ⊢
  have hA : ∀ q : Nat, s.heap.size ≤ q → A q := fun q h => by rw [← hAe]; exact Or.inr h
  have hS : va_S A s.heap s.heap [] := va_S.rf
  have hP : va_P (dC, dI) vwCl [(h0, .inr (3, [.int v_x_minute, .int v_x_left, .int v_x_primes, .long j_x_lot, .int v_x_foremost, .ref x_rides, .ref x_metres, .ref x_store, .ref x_seconds, .ref x_timesHeld, .ref x_work, .ref x_heldFor, .ref x_primeSeconds, .ref x_orderRows, .ref x_bunches, .ref x_values])), (x_metres, .inl (cI, 20, .inl f_x_metres)), (x_store, .inl (cI, 20, .inl f_x_store)), (x_bunches, .inr (0, [.int v_x_bu_onRoad, .int v_x_bu_number, .ref x_bu_order, .ref x_bu_places, .ref x_bu_sizes])), (x_bu_places, .inl (cI, 20, .inl f_x_bu_places)), (x_bu_sizes, .inl (cI, 20, .inl f_x_bu_sizes)), (x_values, .inl (cI, 5, .inl f_x_values))] s.heap := hP
  have hl := lv_entry ([.ref h0, .int pR, .int pF, .int pL]) (n := 4) (Nat.le_of_ble_eq_true rfl)
  rw [lg_entry_eq]
  generalize (lg_sl ([.ref h0, .int pR, .int pF, .int pL]) ++ List.replicate (4 - (lg_sl ([.ref h0, .int pR, .int pF, .int pL])).length) Slot.unset).toArray = ls at hl ⊢
  have hl : lv_has ls 4 [(0, .ref h0), (1, .int pR), (2, .int pF), (3, .int pL)] := hl
  refine lv_aload_n hx hb dX3_look_0 rfl (lv_at hl 0 rfl) ?_
  refine va_get (D := (dC, dI)) (ci := 3) (v := .ref x_values) (C := RX3) (T := TX3) (N := 16) hx hb hts hiX3 hown hK hP 0 rfl rfl 15 (by decide) hw0 (fun _ h9 => h9) rfl dX3_look_1 ?_
  refine lv_iconst (v := 0) hx hb dX3_look_4 (by decide) ?_
  refine lv_iload_n hx hb dX3_look_5 rfl (lv_at hl 2 rfl) ?_
  refine lv_if_ne (tgt := 13) hx hb dX3_look_6 (by decide) (fun c_1 => ?_) (fun c_1 => ?_)
  ·
    have c_1 : ¬ (pF_i = (0:Int)) := zz_eqn pF_h (by decide) c_1
    refine lv_aload_n hx hb dX3_look_13 rfl (lv_at hl 0 rfl) ?_
    refine va_get (D := (dC, dI)) (ci := 3) (v := .ref x_store) (C := RX3) (T := TX3) (N := 16) hx hb hts hiX3 hown hK hP 0 rfl rfl 7 (by decide) hw1 (fun _ h9 => h9) rfl dX3_look_14 ?_
    refine lv_iload_n hx hb dX3_look_17 rfl (lv_at hl 1 rfl) ?_
    refine va_iald hx hb hK hP 2 0 rfl rfl (zz_in (a := pR_i) pR_h (by omega) (by omega)) dX3_look_18 ?_
    refine lv_topi (fun v_2 ev_2 => ?_)
    refine lv_bipush (v := 100) hx hb dX3_look_19 (by decide) ?_
    refine lv_imul hx hb dX3_look_21 ?_
    refine lv_topi (fun v_3 _ => ?_)
    refine lv_iload_n hx hb dX3_look_22 rfl (lv_at hl 2 rfl) ?_
    refine lv_idiv hx hb dX3_look_23 (zz_ne0 pF_h (by omega)) ?_
    refine lv_topi (fun v_4 _ => ?_)
    refine va_iast hx hb hK hP hD hS 6 0 rfl rfl (zz_inl rfl) dX3_look_24 (fun H locs hP hD hS => ?_)
    have hP : va_P (dC, dI) vwCl [(h0, .inr (3, [.int v_x_minute, .int v_x_left, .int v_x_primes, .long j_x_lot, .int v_x_foremost, .ref x_rides, .ref x_metres, .ref x_store, .ref x_seconds, .ref x_timesHeld, .ref x_work, .ref x_heldFor, .ref x_primeSeconds, .ref x_orderRows, .ref x_bunches, .ref x_values])), (x_metres, .inl (cI, 20, .inl f_x_metres)), (x_store, .inl (cI, 20, .inl f_x_store)), (x_bunches, .inr (0, [.int v_x_bu_onRoad, .int v_x_bu_number, .ref x_bu_order, .ref x_bu_places, .ref x_bu_sizes])), (x_bu_places, .inl (cI, 20, .inl f_x_bu_places)), (x_bu_sizes, .inl (cI, 20, .inl f_x_bu_sizes)), (x_values, .inl (cI, 5, .inl (upd f_x_values (Int32.toNatClampNeg 0) v_4)))] H := hP
    have hD : va_D A [(h0, .inr (3, [.int v_x_minute, .int v_x_left, .int v_x_primes, .long j_x_lot, .int v_x_foremost, .ref x_rides, .ref x_metres, .ref x_store, .ref x_seconds, .ref x_timesHeld, .ref x_work, .ref x_heldFor, .ref x_primeSeconds, .ref x_orderRows, .ref x_bunches, .ref x_values])), (x_metres, .inl (cI, 20, .inl f_x_metres)), (x_store, .inl (cI, 20, .inl f_x_store)), (x_bunches, .inr (0, [.int v_x_bu_onRoad, .int v_x_bu_number, .ref x_bu_order, .ref x_bu_places, .ref x_bu_sizes])), (x_bu_places, .inl (cI, 20, .inl f_x_bu_places)), (x_bu_sizes, .inl (cI, 20, .inl f_x_bu_sizes)), (x_values, .inl (cI, 5, .inl (upd f_x_values (Int32.toNatClampNeg 0) v_4)))] := hD
    generalize upd f_x_values (Int32.toNatClampNeg 0) v_4 = f_5 at hP hD
    refine lv_aload_n hx hb dX3_look_25 rfl (lv_at hl 0 rfl) ?_
    refine va_get (D := (dC, dI)) (ci := 3) (v := .ref x_values) (C := RX3) (T := TX3) (N := 16) hx hb hts hiX3 hown hK hP 0 rfl rfl 15 (by decide) hw0 (fun _ h9 => h9) rfl dX3_look_26 ?_
    refine lv_iconst (v := 1) hx hb dX3_look_29 (by decide) ?_
    refine lv_iload_n hx hb dX3_look_30 rfl (lv_at hl 3 rfl) ?_
    refine lv_aload_n hx hb dX3_look_31 rfl (lv_at hl 0 rfl) ?_
    refine va_get (D := (dC, dI)) (ci := 3) (v := .ref x_metres) (C := RX3) (T := TX3) (N := 16) hx hb hts hiX3 hown hK hP 0 rfl rfl 6 (by decide) hw2 (fun _ h9 => h9) rfl dX3_look_32 ?_
    refine lv_iload_n hx hb dX3_look_35 rfl (lv_at hl 1 rfl) ?_
    refine va_iald hx hb hK hP 1 0 rfl rfl (zz_in (a := pR_i) pR_h (by omega) (by omega)) dX3_look_36 ?_
    refine lv_topi (fun v_6 ev_6 => ?_)
    have bv_6 : 0 ≤ v_6.toInt ∧ v_6.toInt ≤ 30000 := by rw [ev_6]; exact zr_get (a := pR_i) R_x_metres pR_h (by omega) (by omega)
    refine lv_isub hx hb dX3_look_37 ?_
    refine lv_topi (fun v_7 _ => ?_)
    refine lv_sipush (v := 1000) hx hb dX3_look_38 (by decide) ?_
    refine lv_idiv hx hb dX3_look_41 (by decide) ?_
    refine lv_topi (fun v_8 _ => ?_)
    refine va_iast hx hb hK hP hD hS 6 0 rfl rfl (zz_inl rfl) dX3_look_42 (fun H locs hP hD hS => ?_)
    have hP : va_P (dC, dI) vwCl [(h0, .inr (3, [.int v_x_minute, .int v_x_left, .int v_x_primes, .long j_x_lot, .int v_x_foremost, .ref x_rides, .ref x_metres, .ref x_store, .ref x_seconds, .ref x_timesHeld, .ref x_work, .ref x_heldFor, .ref x_primeSeconds, .ref x_orderRows, .ref x_bunches, .ref x_values])), (x_metres, .inl (cI, 20, .inl f_x_metres)), (x_store, .inl (cI, 20, .inl f_x_store)), (x_bunches, .inr (0, [.int v_x_bu_onRoad, .int v_x_bu_number, .ref x_bu_order, .ref x_bu_places, .ref x_bu_sizes])), (x_bu_places, .inl (cI, 20, .inl f_x_bu_places)), (x_bu_sizes, .inl (cI, 20, .inl f_x_bu_sizes)), (x_values, .inl (cI, 5, .inl (upd f_5 (Int32.toNatClampNeg 1) v_8)))] H := hP
    have hD : va_D A [(h0, .inr (3, [.int v_x_minute, .int v_x_left, .int v_x_primes, .long j_x_lot, .int v_x_foremost, .ref x_rides, .ref x_metres, .ref x_store, .ref x_seconds, .ref x_timesHeld, .ref x_work, .ref x_heldFor, .ref x_primeSeconds, .ref x_orderRows, .ref x_bunches, .ref x_values])), (x_metres, .inl (cI, 20, .inl f_x_metres)), (x_store, .inl (cI, 20, .inl f_x_store)), (x_bunches, .inr (0, [.int v_x_bu_onRoad, .int v_x_bu_number, .ref x_bu_order, .ref x_bu_places, .ref x_bu_sizes])), (x_bu_places, .inl (cI, 20, .inl f_x_bu_places)), (x_bu_sizes, .inl (cI, 20, .inl f_x_bu_sizes)), (x_values, .inl (cI, 5, .inl (upd f_5 (Int32.toNatClampNeg 1) v_8)))] := hD
    generalize upd f_5 (Int32.toNatClampNeg 1) v_8 = f_9 at hP hD
    refine lv_aload_n hx hb dX3_look_43 rfl (lv_at hl 0 rfl) ?_
    refine va_get (D := (dC, dI)) (ci := 3) (v := .ref x_values) (C := RX3) (T := TX3) (N := 16) hx hb hts hiX3 hown hK hP 0 rfl rfl 15 (by decide) hw0 (fun _ h9 => h9) rfl dX3_look_44 ?_
    refine lv_iconst (v := 2) hx hb dX3_look_47 (by decide) ?_
    refine lv_aload_n hx hb dX3_look_48 rfl (lv_at hl 0 rfl) ?_
    refine va_get (D := (dC, dI)) (ci := 3) (v := .int v_x_foremost) (C := RX3) (T := TX3) (N := 16) hx hb hts hiX3 hown hK hP 0 rfl rfl 4 (by decide) hw3 (fun _ h9 => h9) rfl dX3_look_49 ?_
    refine lv_aload_n hx hb dX3_look_52 rfl (lv_at hl 0 rfl) ?_
    refine va_get (D := (dC, dI)) (ci := 3) (v := .ref x_metres) (C := RX3) (T := TX3) (N := 16) hx hb hts hiX3 hown hK hP 0 rfl rfl 6 (by decide) hw2 (fun _ h9 => h9) rfl dX3_look_53 ?_
    refine lv_iload_n hx hb dX3_look_56 rfl (lv_at hl 1 rfl) ?_
    refine va_iald hx hb hK hP 1 0 rfl rfl (zz_in (a := pR_i) pR_h (by omega) (by omega)) dX3_look_57 ?_
    refine lv_topi (fun v_10 ev_10 => ?_)
    obtain rfl : v_6 = v_10 := ev_6.trans ev_10.symm
    refine lv_isub hx hb dX3_look_58 ?_
    refine lv_topi (fun v_11 _ => ?_)
    refine lv_bipush (v := 10) hx hb dX3_look_59 (by decide) ?_
    refine lv_idiv hx hb dX3_look_61 (by decide) ?_
    refine lv_topi (fun v_12 _ => ?_)
    refine va_iast hx hb hK hP hD hS 6 0 rfl rfl (zz_inl rfl) dX3_look_62 (fun H locs hP hD hS => ?_)
    have hP : va_P (dC, dI) vwCl [(h0, .inr (3, [.int v_x_minute, .int v_x_left, .int v_x_primes, .long j_x_lot, .int v_x_foremost, .ref x_rides, .ref x_metres, .ref x_store, .ref x_seconds, .ref x_timesHeld, .ref x_work, .ref x_heldFor, .ref x_primeSeconds, .ref x_orderRows, .ref x_bunches, .ref x_values])), (x_metres, .inl (cI, 20, .inl f_x_metres)), (x_store, .inl (cI, 20, .inl f_x_store)), (x_bunches, .inr (0, [.int v_x_bu_onRoad, .int v_x_bu_number, .ref x_bu_order, .ref x_bu_places, .ref x_bu_sizes])), (x_bu_places, .inl (cI, 20, .inl f_x_bu_places)), (x_bu_sizes, .inl (cI, 20, .inl f_x_bu_sizes)), (x_values, .inl (cI, 5, .inl (upd f_9 (Int32.toNatClampNeg 2) v_12)))] H := hP
    have hD : va_D A [(h0, .inr (3, [.int v_x_minute, .int v_x_left, .int v_x_primes, .long j_x_lot, .int v_x_foremost, .ref x_rides, .ref x_metres, .ref x_store, .ref x_seconds, .ref x_timesHeld, .ref x_work, .ref x_heldFor, .ref x_primeSeconds, .ref x_orderRows, .ref x_bunches, .ref x_values])), (x_metres, .inl (cI, 20, .inl f_x_metres)), (x_store, .inl (cI, 20, .inl f_x_store)), (x_bunches, .inr (0, [.int v_x_bu_onRoad, .int v_x_bu_number, .ref x_bu_order, .ref x_bu_places, .ref x_bu_sizes])), (x_bu_places, .inl (cI, 20, .inl f_x_bu_places)), (x_bu_sizes, .inl (cI, 20, .inl f_x_bu_sizes)), (x_values, .inl (cI, 5, .inl (upd f_9 (Int32.toNatClampNeg 2) v_12)))] := hD
    generalize upd f_9 (Int32.toNatClampNeg 2) v_12 = f_13 at hP hD
    refine lv_aload_n hx hb dX3_look_63 rfl (lv_at hl 0 rfl) ?_
    refine va_get (D := (dC, dI)) (ci := 3) (v := .ref x_values) (C := RX3) (T := TX3) (N := 16) hx hb hts hiX3 hown hK hP 0 rfl rfl 15 (by decide) hw0 (fun _ h9 => h9) rfl dX3_look_64 ?_
    refine lv_iconst (v := 3) hx hb dX3_look_67 (by decide) ?_
    refine lv_aload_n hx hb dX3_look_68 rfl (lv_at hl 0 rfl) ?_
    refine va_get (D := (dC, dI)) (ci := 3) (v := .ref x_bunches) (C := RX3) (T := TX3) (N := 16) hx hb hts hiX3 hown hK hP 0 rfl rfl 14 (by decide) hw4 (fun _ h9 => h9) rfl dX3_look_69 ?_
    refine va_get (D := (dC, dI)) (ci := 0) (v := .ref x_bu_sizes) (C := RX0) (T := TX0) (N := 5) hx hb hts hiX0 hown hK hP 3 rfl rfl 4 (by decide) hw5 (fun _ h9 => h9) rfl dX3_look_72 ?_
    refine lv_iload_n hx hb dX3_look_75 rfl (lv_at hl 1 rfl) ?_
    refine va_iald hx hb hK hP 5 0 rfl rfl (zz_in (a := pR_i) pR_h (by omega) (by omega)) dX3_look_76 ?_
    refine lv_topi (fun v_14 ev_14 => ?_)
    refine va_iast hx hb hK hP hD hS 6 0 rfl rfl (zz_inl rfl) dX3_look_77 (fun H locs hP hD hS => ?_)
    have hP : va_P (dC, dI) vwCl [(h0, .inr (3, [.int v_x_minute, .int v_x_left, .int v_x_primes, .long j_x_lot, .int v_x_foremost, .ref x_rides, .ref x_metres, .ref x_store, .ref x_seconds, .ref x_timesHeld, .ref x_work, .ref x_heldFor, .ref x_primeSeconds, .ref x_orderRows, .ref x_bunches, .ref x_values])), (x_metres, .inl (cI, 20, .inl f_x_metres)), (x_store, .inl (cI, 20, .inl f_x_store)), (x_bunches, .inr (0, [.int v_x_bu_onRoad, .int v_x_bu_number, .ref x_bu_order, .ref x_bu_places, .ref x_bu_sizes])), (x_bu_places, .inl (cI, 20, .inl f_x_bu_places)), (x_bu_sizes, .inl (cI, 20, .inl f_x_bu_sizes)), (x_values, .inl (cI, 5, .inl (upd f_13 (Int32.toNatClampNeg 3) v_14)))] H := hP
    have hD : va_D A [(h0, .inr (3, [.int v_x_minute, .int v_x_left, .int v_x_primes, .long j_x_lot, .int v_x_foremost, .ref x_rides, .ref x_metres, .ref x_store, .ref x_seconds, .ref x_timesHeld, .ref x_work, .ref x_heldFor, .ref x_primeSeconds, .ref x_orderRows, .ref x_bunches, .ref x_values])), (x_metres, .inl (cI, 20, .inl f_x_metres)), (x_store, .inl (cI, 20, .inl f_x_store)), (x_bunches, .inr (0, [.int v_x_bu_onRoad, .int v_x_bu_number, .ref x_bu_order, .ref x_bu_places, .ref x_bu_sizes])), (x_bu_places, .inl (cI, 20, .inl f_x_bu_places)), (x_bu_sizes, .inl (cI, 20, .inl f_x_bu_sizes)), (x_values, .inl (cI, 5, .inl (upd f_13 (Int32.toNatClampNeg 3) v_14)))] := hD
    generalize upd f_13 (Int32.toNatClampNeg 3) v_14 = f_15 at hP hD
    refine lv_aload_n hx hb dX3_look_78 rfl (lv_at hl 0 rfl) ?_
    refine va_get (D := (dC, dI)) (ci := 3) (v := .ref x_values) (C := RX3) (T := TX3) (N := 16) hx hb hts hiX3 hown hK hP 0 rfl rfl 15 (by decide) hw0 (fun _ h9 => h9) rfl dX3_look_79 ?_
    refine lv_iconst (v := 4) hx hb dX3_look_82 (by decide) ?_
    refine lv_aload_n hx hb dX3_look_83 rfl (lv_at hl 0 rfl) ?_
    refine va_get (D := (dC, dI)) (ci := 3) (v := .ref x_bunches) (C := RX3) (T := TX3) (N := 16) hx hb hts hiX3 hown hK hP 0 rfl rfl 14 (by decide) hw4 (fun _ h9 => h9) rfl dX3_look_84 ?_
    refine va_get (D := (dC, dI)) (ci := 0) (v := .ref x_bu_places) (C := RX0) (T := TX0) (N := 5) hx hb hts hiX0 hown hK hP 3 rfl rfl 3 (by decide) hw6 (fun _ h9 => h9) rfl dX3_look_87 ?_
    refine lv_iload_n hx hb dX3_look_90 rfl (lv_at hl 1 rfl) ?_
    refine va_iald hx hb hK hP 4 0 rfl rfl (zz_in (a := pR_i) pR_h (by omega) (by omega)) dX3_look_91 ?_
    refine lv_topi (fun v_16 ev_16 => ?_)
    refine va_iast hx hb hK hP hD hS 6 0 rfl rfl (zz_inl rfl) dX3_look_92 (fun H locs hP hD hS => ?_)
    have hP : va_P (dC, dI) vwCl [(h0, .inr (3, [.int v_x_minute, .int v_x_left, .int v_x_primes, .long j_x_lot, .int v_x_foremost, .ref x_rides, .ref x_metres, .ref x_store, .ref x_seconds, .ref x_timesHeld, .ref x_work, .ref x_heldFor, .ref x_primeSeconds, .ref x_orderRows, .ref x_bunches, .ref x_values])), (x_metres, .inl (cI, 20, .inl f_x_metres)), (x_store, .inl (cI, 20, .inl f_x_store)), (x_bunches, .inr (0, [.int v_x_bu_onRoad, .int v_x_bu_number, .ref x_bu_order, .ref x_bu_places, .ref x_bu_sizes])), (x_bu_places, .inl (cI, 20, .inl f_x_bu_places)), (x_bu_sizes, .inl (cI, 20, .inl f_x_bu_sizes)), (x_values, .inl (cI, 5, .inl (upd f_15 (Int32.toNatClampNeg 4) v_16)))] H := hP
    have hD : va_D A [(h0, .inr (3, [.int v_x_minute, .int v_x_left, .int v_x_primes, .long j_x_lot, .int v_x_foremost, .ref x_rides, .ref x_metres, .ref x_store, .ref x_seconds, .ref x_timesHeld, .ref x_work, .ref x_heldFor, .ref x_primeSeconds, .ref x_orderRows, .ref x_bunches, .ref x_values])), (x_metres, .inl (cI, 20, .inl f_x_metres)), (x_store, .inl (cI, 20, .inl f_x_store)), (x_bunches, .inr (0, [.int v_x_bu_onRoad, .int v_x_bu_number, .ref x_bu_order, .ref x_bu_places, .ref x_bu_sizes])), (x_bu_places, .inl (cI, 20, .inl f_x_bu_places)), (x_bu_sizes, .inl (cI, 20, .inl f_x_bu_sizes)), (x_values, .inl (cI, 5, .inl (upd f_15 (Int32.toNatClampNeg 4) v_16)))] := hD
    generalize upd f_15 (Int32.toNatClampNeg 4) v_16 = f_17 at hP hD
    have hP9 := hP.sub (ws' := [(h0, .inr (3, [.int v_x_minute, .int v_x_left, .int v_x_primes, .long j_x_lot, .int v_x_foremost, .ref x_rides, .ref x_metres, .ref x_store, .ref x_seconds, .ref x_timesHeld, .ref x_work, .ref x_heldFor, .ref x_primeSeconds, .ref x_orderRows, .ref x_bunches, .ref x_values])), (x_metres, .inl (cI, 20, .inl f_x_metres)), (x_store, .inl (cI, 20, .inl f_x_store)), (x_bunches, .inr (0, [.int v_x_bu_onRoad, .int v_x_bu_number, .ref x_bu_order, .ref x_bu_places, .ref x_bu_sizes])), (x_bu_places, .inl (cI, 20, .inl f_x_bu_places)), (x_bu_sizes, .inl (cI, 20, .inl f_x_bu_sizes)), (x_values, .inl (cI, 5, .inl f_17))]) [0, 1, 2, 3, 4, 5, 6] rfl
    have hD9 := hD.sub (ws' := [(h0, .inr (3, [.int v_x_minute, .int v_x_left, .int v_x_primes, .long j_x_lot, .int v_x_foremost, .ref x_rides, .ref x_metres, .ref x_store, .ref x_seconds, .ref x_timesHeld, .ref x_work, .ref x_heldFor, .ref x_primeSeconds, .ref x_orderRows, .ref x_bunches, .ref x_values])), (x_metres, .inl (cI, 20, .inl f_x_metres)), (x_store, .inl (cI, 20, .inl f_x_store)), (x_bunches, .inr (0, [.int v_x_bu_onRoad, .int v_x_bu_number, .ref x_bu_order, .ref x_bu_places, .ref x_bu_sizes])), (x_bu_places, .inl (cI, 20, .inl f_x_bu_places)), (x_bu_sizes, .inl (cI, 20, .inl f_x_bu_sizes)), (x_values, .inl (cI, 5, .inl f_17))]) [0, 1, 2, 3, 4, 5, 6] (by decide) rfl
    exact W.vret hx hb hr (fun t ht hW => ⟨⟨(), rfl, trivial, f_17, by rw [ht]; exact hP9, va_K.moved hW.alike hK, hD9⟩, hS.F ht⟩) hS.2.2 dX3_look_93
  ·
    have c_1 : pF_i = (0:Int) := zz_eq pF_h (by decide) c_1
    refine lv_iconst (v := 0) hx hb dX3_look_9 (by decide) ?_
    refine lv_goto (tgt := 24) hx hb dX3_look_10 (by decide) ?_
    refine va_iast hx hb hK hP hD hS 6 0 rfl rfl (zz_inl rfl) dX3_look_24 (fun H locs hP hD hS => ?_)
    have hP : va_P (dC, dI) vwCl [(h0, .inr (3, [.int v_x_minute, .int v_x_left, .int v_x_primes, .long j_x_lot, .int v_x_foremost, .ref x_rides, .ref x_metres, .ref x_store, .ref x_seconds, .ref x_timesHeld, .ref x_work, .ref x_heldFor, .ref x_primeSeconds, .ref x_orderRows, .ref x_bunches, .ref x_values])), (x_metres, .inl (cI, 20, .inl f_x_metres)), (x_store, .inl (cI, 20, .inl f_x_store)), (x_bunches, .inr (0, [.int v_x_bu_onRoad, .int v_x_bu_number, .ref x_bu_order, .ref x_bu_places, .ref x_bu_sizes])), (x_bu_places, .inl (cI, 20, .inl f_x_bu_places)), (x_bu_sizes, .inl (cI, 20, .inl f_x_bu_sizes)), (x_values, .inl (cI, 5, .inl (upd f_x_values (Int32.toNatClampNeg 0) 0)))] H := hP
    have hD : va_D A [(h0, .inr (3, [.int v_x_minute, .int v_x_left, .int v_x_primes, .long j_x_lot, .int v_x_foremost, .ref x_rides, .ref x_metres, .ref x_store, .ref x_seconds, .ref x_timesHeld, .ref x_work, .ref x_heldFor, .ref x_primeSeconds, .ref x_orderRows, .ref x_bunches, .ref x_values])), (x_metres, .inl (cI, 20, .inl f_x_metres)), (x_store, .inl (cI, 20, .inl f_x_store)), (x_bunches, .inr (0, [.int v_x_bu_onRoad, .int v_x_bu_number, .ref x_bu_order, .ref x_bu_places, .ref x_bu_sizes])), (x_bu_places, .inl (cI, 20, .inl f_x_bu_places)), (x_bu_sizes, .inl (cI, 20, .inl f_x_bu_sizes)), (x_values, .inl (cI, 5, .inl (upd f_x_values (Int32.toNatClampNeg 0) 0)))] := hD
    generalize upd f_x_values (Int32.toNatClampNeg 0) 0 = f_18 at hP hD
    refine lv_aload_n hx hb dX3_look_25 rfl (lv_at hl 0 rfl) ?_
    refine va_get (D := (dC, dI)) (ci := 3) (v := .ref x_values) (C := RX3) (T := TX3) (N := 16) hx hb hts hiX3 hown hK hP 0 rfl rfl 15 (by decide) hw0 (fun _ h9 => h9) rfl dX3_look_26 ?_
    refine lv_iconst (v := 1) hx hb dX3_look_29 (by decide) ?_
    refine lv_iload_n hx hb dX3_look_30 rfl (lv_at hl 3 rfl) ?_
    refine lv_aload_n hx hb dX3_look_31 rfl (lv_at hl 0 rfl) ?_
    refine va_get (D := (dC, dI)) (ci := 3) (v := .ref x_metres) (C := RX3) (T := TX3) (N := 16) hx hb hts hiX3 hown hK hP 0 rfl rfl 6 (by decide) hw2 (fun _ h9 => h9) rfl dX3_look_32 ?_
    refine lv_iload_n hx hb dX3_look_35 rfl (lv_at hl 1 rfl) ?_
    refine va_iald hx hb hK hP 1 0 rfl rfl (zz_in (a := pR_i) pR_h (by omega) (by omega)) dX3_look_36 ?_
    refine lv_topi (fun v_19 ev_19 => ?_)
    have bv_19 : 0 ≤ v_19.toInt ∧ v_19.toInt ≤ 30000 := by rw [ev_19]; exact zr_get (a := pR_i) R_x_metres pR_h (by omega) (by omega)
    refine lv_isub hx hb dX3_look_37 ?_
    refine lv_topi (fun v_20 _ => ?_)
    refine lv_sipush (v := 1000) hx hb dX3_look_38 (by decide) ?_
    refine lv_idiv hx hb dX3_look_41 (by decide) ?_
    refine lv_topi (fun v_21 _ => ?_)
    refine va_iast hx hb hK hP hD hS 6 0 rfl rfl (zz_inl rfl) dX3_look_42 (fun H locs hP hD hS => ?_)
    have hP : va_P (dC, dI) vwCl [(h0, .inr (3, [.int v_x_minute, .int v_x_left, .int v_x_primes, .long j_x_lot, .int v_x_foremost, .ref x_rides, .ref x_metres, .ref x_store, .ref x_seconds, .ref x_timesHeld, .ref x_work, .ref x_heldFor, .ref x_primeSeconds, .ref x_orderRows, .ref x_bunches, .ref x_values])), (x_metres, .inl (cI, 20, .inl f_x_metres)), (x_store, .inl (cI, 20, .inl f_x_store)), (x_bunches, .inr (0, [.int v_x_bu_onRoad, .int v_x_bu_number, .ref x_bu_order, .ref x_bu_places, .ref x_bu_sizes])), (x_bu_places, .inl (cI, 20, .inl f_x_bu_places)), (x_bu_sizes, .inl (cI, 20, .inl f_x_bu_sizes)), (x_values, .inl (cI, 5, .inl (upd f_18 (Int32.toNatClampNeg 1) v_21)))] H := hP
    have hD : va_D A [(h0, .inr (3, [.int v_x_minute, .int v_x_left, .int v_x_primes, .long j_x_lot, .int v_x_foremost, .ref x_rides, .ref x_metres, .ref x_store, .ref x_seconds, .ref x_timesHeld, .ref x_work, .ref x_heldFor, .ref x_primeSeconds, .ref x_orderRows, .ref x_bunches, .ref x_values])), (x_metres, .inl (cI, 20, .inl f_x_metres)), (x_store, .inl (cI, 20, .inl f_x_store)), (x_bunches, .inr (0, [.int v_x_bu_onRoad, .int v_x_bu_number, .ref x_bu_order, .ref x_bu_places, .ref x_bu_sizes])), (x_bu_places, .inl (cI, 20, .inl f_x_bu_places)), (x_bu_sizes, .inl (cI, 20, .inl f_x_bu_sizes)), (x_values, .inl (cI, 5, .inl (upd f_18 (Int32.toNatClampNeg 1) v_21)))] := hD
    generalize upd f_18 (Int32.toNatClampNeg 1) v_21 = f_22 at hP hD
    refine lv_aload_n hx hb dX3_look_43 rfl (lv_at hl 0 rfl) ?_
    refine va_get (D := (dC, dI)) (ci := 3) (v := .ref x_values) (C := RX3) (T := TX3) (N := 16) hx hb hts hiX3 hown hK hP 0 rfl rfl 15 (by decide) hw0 (fun _ h9 => h9) rfl dX3_look_44 ?_
    refine lv_iconst (v := 2) hx hb dX3_look_47 (by decide) ?_
    refine lv_aload_n hx hb dX3_look_48 rfl (lv_at hl 0 rfl) ?_
    refine va_get (D := (dC, dI)) (ci := 3) (v := .int v_x_foremost) (C := RX3) (T := TX3) (N := 16) hx hb hts hiX3 hown hK hP 0 rfl rfl 4 (by decide) hw3 (fun _ h9 => h9) rfl dX3_look_49 ?_
    refine lv_aload_n hx hb dX3_look_52 rfl (lv_at hl 0 rfl) ?_
    refine va_get (D := (dC, dI)) (ci := 3) (v := .ref x_metres) (C := RX3) (T := TX3) (N := 16) hx hb hts hiX3 hown hK hP 0 rfl rfl 6 (by decide) hw2 (fun _ h9 => h9) rfl dX3_look_53 ?_
    refine lv_iload_n hx hb dX3_look_56 rfl (lv_at hl 1 rfl) ?_
    refine va_iald hx hb hK hP 1 0 rfl rfl (zz_in (a := pR_i) pR_h (by omega) (by omega)) dX3_look_57 ?_
    refine lv_topi (fun v_23 ev_23 => ?_)
    obtain rfl : v_19 = v_23 := ev_19.trans ev_23.symm
    refine lv_isub hx hb dX3_look_58 ?_
    refine lv_topi (fun v_24 _ => ?_)
    refine lv_bipush (v := 10) hx hb dX3_look_59 (by decide) ?_
    refine lv_idiv hx hb dX3_look_61 (by decide) ?_
    refine lv_topi (fun v_25 _ => ?_)
    refine va_iast hx hb hK hP hD hS 6 0 rfl rfl (zz_inl rfl) dX3_look_62 (fun H locs hP hD hS => ?_)
    have hP : va_P (dC, dI) vwCl [(h0, .inr (3, [.int v_x_minute, .int v_x_left, .int v_x_primes, .long j_x_lot, .int v_x_foremost, .ref x_rides, .ref x_metres, .ref x_store, .ref x_seconds, .ref x_timesHeld, .ref x_work, .ref x_heldFor, .ref x_primeSeconds, .ref x_orderRows, .ref x_bunches, .ref x_values])), (x_metres, .inl (cI, 20, .inl f_x_metres)), (x_store, .inl (cI, 20, .inl f_x_store)), (x_bunches, .inr (0, [.int v_x_bu_onRoad, .int v_x_bu_number, .ref x_bu_order, .ref x_bu_places, .ref x_bu_sizes])), (x_bu_places, .inl (cI, 20, .inl f_x_bu_places)), (x_bu_sizes, .inl (cI, 20, .inl f_x_bu_sizes)), (x_values, .inl (cI, 5, .inl (upd f_22 (Int32.toNatClampNeg 2) v_25)))] H := hP
    have hD : va_D A [(h0, .inr (3, [.int v_x_minute, .int v_x_left, .int v_x_primes, .long j_x_lot, .int v_x_foremost, .ref x_rides, .ref x_metres, .ref x_store, .ref x_seconds, .ref x_timesHeld, .ref x_work, .ref x_heldFor, .ref x_primeSeconds, .ref x_orderRows, .ref x_bunches, .ref x_values])), (x_metres, .inl (cI, 20, .inl f_x_metres)), (x_store, .inl (cI, 20, .inl f_x_store)), (x_bunches, .inr (0, [.int v_x_bu_onRoad, .int v_x_bu_number, .ref x_bu_order, .ref x_bu_places, .ref x_bu_sizes])), (x_bu_places, .inl (cI, 20, .inl f_x_bu_places)), (x_bu_sizes, .inl (cI, 20, .inl f_x_bu_sizes)), (x_values, .inl (cI, 5, .inl (upd f_22 (Int32.toNatClampNeg 2) v_25)))] := hD
    generalize upd f_22 (Int32.toNatClampNeg 2) v_25 = f_26 at hP hD
    refine lv_aload_n hx hb dX3_look_63 rfl (lv_at hl 0 rfl) ?_
    refine va_get (D := (dC, dI)) (ci := 3) (v := .ref x_values) (C := RX3) (T := TX3) (N := 16) hx hb hts hiX3 hown hK hP 0 rfl rfl 15 (by decide) hw0 (fun _ h9 => h9) rfl dX3_look_64 ?_
    refine lv_iconst (v := 3) hx hb dX3_look_67 (by decide) ?_
    refine lv_aload_n hx hb dX3_look_68 rfl (lv_at hl 0 rfl) ?_
    refine va_get (D := (dC, dI)) (ci := 3) (v := .ref x_bunches) (C := RX3) (T := TX3) (N := 16) hx hb hts hiX3 hown hK hP 0 rfl rfl 14 (by decide) hw4 (fun _ h9 => h9) rfl dX3_look_69 ?_
    refine va_get (D := (dC, dI)) (ci := 0) (v := .ref x_bu_sizes) (C := RX0) (T := TX0) (N := 5) hx hb hts hiX0 hown hK hP 3 rfl rfl 4 (by decide) hw5 (fun _ h9 => h9) rfl dX3_look_72 ?_
    refine lv_iload_n hx hb dX3_look_75 rfl (lv_at hl 1 rfl) ?_
    refine va_iald hx hb hK hP 5 0 rfl rfl (zz_in (a := pR_i) pR_h (by omega) (by omega)) dX3_look_76 ?_
    refine lv_topi (fun v_27 ev_27 => ?_)
    refine va_iast hx hb hK hP hD hS 6 0 rfl rfl (zz_inl rfl) dX3_look_77 (fun H locs hP hD hS => ?_)
    have hP : va_P (dC, dI) vwCl [(h0, .inr (3, [.int v_x_minute, .int v_x_left, .int v_x_primes, .long j_x_lot, .int v_x_foremost, .ref x_rides, .ref x_metres, .ref x_store, .ref x_seconds, .ref x_timesHeld, .ref x_work, .ref x_heldFor, .ref x_primeSeconds, .ref x_orderRows, .ref x_bunches, .ref x_values])), (x_metres, .inl (cI, 20, .inl f_x_metres)), (x_store, .inl (cI, 20, .inl f_x_store)), (x_bunches, .inr (0, [.int v_x_bu_onRoad, .int v_x_bu_number, .ref x_bu_order, .ref x_bu_places, .ref x_bu_sizes])), (x_bu_places, .inl (cI, 20, .inl f_x_bu_places)), (x_bu_sizes, .inl (cI, 20, .inl f_x_bu_sizes)), (x_values, .inl (cI, 5, .inl (upd f_26 (Int32.toNatClampNeg 3) v_27)))] H := hP
    have hD : va_D A [(h0, .inr (3, [.int v_x_minute, .int v_x_left, .int v_x_primes, .long j_x_lot, .int v_x_foremost, .ref x_rides, .ref x_metres, .ref x_store, .ref x_seconds, .ref x_timesHeld, .ref x_work, .ref x_heldFor, .ref x_primeSeconds, .ref x_orderRows, .ref x_bunches, .ref x_values])), (x_metres, .inl (cI, 20, .inl f_x_metres)), (x_store, .inl (cI, 20, .inl f_x_store)), (x_bunches, .inr (0, [.int v_x_bu_onRoad, .int v_x_bu_number, .ref x_bu_order, .ref x_bu_places, .ref x_bu_sizes])), (x_bu_places, .inl (cI, 20, .inl f_x_bu_places)), (x_bu_sizes, .inl (cI, 20, .inl f_x_bu_sizes)), (x_values, .inl (cI, 5, .inl (upd f_26 (Int32.toNatClampNeg 3) v_27)))] := hD
    generalize upd f_26 (Int32.toNatClampNeg 3) v_27 = f_28 at hP hD
    refine lv_aload_n hx hb dX3_look_78 rfl (lv_at hl 0 rfl) ?_
    refine va_get (D := (dC, dI)) (ci := 3) (v := .ref x_values) (C := RX3) (T := TX3) (N := 16) hx hb hts hiX3 hown hK hP 0 rfl rfl 15 (by decide) hw0 (fun _ h9 => h9) rfl dX3_look_79 ?_
    refine lv_iconst (v := 4) hx hb dX3_look_82 (by decide) ?_
    refine lv_aload_n hx hb dX3_look_83 rfl (lv_at hl 0 rfl) ?_
    refine va_get (D := (dC, dI)) (ci := 3) (v := .ref x_bunches) (C := RX3) (T := TX3) (N := 16) hx hb hts hiX3 hown hK hP 0 rfl rfl 14 (by decide) hw4 (fun _ h9 => h9) rfl dX3_look_84 ?_
    refine va_get (D := (dC, dI)) (ci := 0) (v := .ref x_bu_places) (C := RX0) (T := TX0) (N := 5) hx hb hts hiX0 hown hK hP 3 rfl rfl 3 (by decide) hw6 (fun _ h9 => h9) rfl dX3_look_87 ?_
    refine lv_iload_n hx hb dX3_look_90 rfl (lv_at hl 1 rfl) ?_
    refine va_iald hx hb hK hP 4 0 rfl rfl (zz_in (a := pR_i) pR_h (by omega) (by omega)) dX3_look_91 ?_
    refine lv_topi (fun v_29 ev_29 => ?_)
    refine va_iast hx hb hK hP hD hS 6 0 rfl rfl (zz_inl rfl) dX3_look_92 (fun H locs hP hD hS => ?_)
    have hP : va_P (dC, dI) vwCl [(h0, .inr (3, [.int v_x_minute, .int v_x_left, .int v_x_primes, .long j_x_lot, .int v_x_foremost, .ref x_rides, .ref x_metres, .ref x_store, .ref x_seconds, .ref x_timesHeld, .ref x_work, .ref x_heldFor, .ref x_primeSeconds, .ref x_orderRows, .ref x_bunches, .ref x_values])), (x_metres, .inl (cI, 20, .inl f_x_metres)), (x_store, .inl (cI, 20, .inl f_x_store)), (x_bunches, .inr (0, [.int v_x_bu_onRoad, .int v_x_bu_number, .ref x_bu_order, .ref x_bu_places, .ref x_bu_sizes])), (x_bu_places, .inl (cI, 20, .inl f_x_bu_places)), (x_bu_sizes, .inl (cI, 20, .inl f_x_bu_sizes)), (x_values, .inl (cI, 5, .inl (upd f_28 (Int32.toNatClampNeg 4) v_29)))] H := hP
    have hD : va_D A [(h0, .inr (3, [.int v_x_minute, .int v_x_left, .int v_x_primes, .long j_x_lot, .int v_x_foremost, .ref x_rides, .ref x_metres, .ref x_store, .ref x_seconds, .ref x_timesHeld, .ref x_work, .ref x_heldFor, .ref x_primeSeconds, .ref x_orderRows, .ref x_bunches, .ref x_values])), (x_metres, .inl (cI, 20, .inl f_x_metres)), (x_store, .inl (cI, 20, .inl f_x_store)), (x_bunches, .inr (0, [.int v_x_bu_onRoad, .int v_x_bu_number, .ref x_bu_order, .ref x_bu_places, .ref x_bu_sizes])), (x_bu_places, .inl (cI, 20, .inl f_x_bu_places)), (x_bu_sizes, .inl (cI, 20, .inl f_x_bu_sizes)), (x_values, .inl (cI, 5, .inl (upd f_28 (Int32.toNatClampNeg 4) v_29)))] := hD
    generalize upd f_28 (Int32.toNatClampNeg 4) v_29 = f_30 at hP hD
    have hP9 := hP.sub (ws' := [(h0, .inr (3, [.int v_x_minute, .int v_x_left, .int v_x_primes, .long j_x_lot, .int v_x_foremost, .ref x_rides, .ref x_metres, .ref x_store, .ref x_seconds, .ref x_timesHeld, .ref x_work, .ref x_heldFor, .ref x_primeSeconds, .ref x_orderRows, .ref x_bunches, .ref x_values])), (x_metres, .inl (cI, 20, .inl f_x_metres)), (x_store, .inl (cI, 20, .inl f_x_store)), (x_bunches, .inr (0, [.int v_x_bu_onRoad, .int v_x_bu_number, .ref x_bu_order, .ref x_bu_places, .ref x_bu_sizes])), (x_bu_places, .inl (cI, 20, .inl f_x_bu_places)), (x_bu_sizes, .inl (cI, 20, .inl f_x_bu_sizes)), (x_values, .inl (cI, 5, .inl f_30))]) [0, 1, 2, 3, 4, 5, 6] rfl
    have hD9 := hD.sub (ws' := [(h0, .inr (3, [.int v_x_minute, .int v_x_left, .int v_x_primes, .long j_x_lot, .int v_x_foremost, .ref x_rides, .ref x_metres, .ref x_store, .ref x_seconds, .ref x_timesHeld, .ref x_work, .ref x_heldFor, .ref x_primeSeconds, .ref x_orderRows, .ref x_bunches, .ref x_values])), (x_metres, .inl (cI, 20, .inl f_x_metres)), (x_store, .inl (cI, 20, .inl f_x_store)), (x_bunches, .inr (0, [.int v_x_bu_onRoad, .int v_x_bu_number, .ref x_bu_order, .ref x_bu_places, .ref x_bu_sizes])), (x_bu_places, .inl (cI, 20, .inl f_x_bu_places)), (x_bu_sizes, .inl (cI, 20, .inl f_x_bu_sizes)), (x_values, .inl (cI, 5, .inl f_30))]) [0, 1, 2, 3, 4, 5, 6] (by decide) rfl
    exact W.vret hx hb hr (fun t ht hW => ⟨⟨(), rfl, trivial, f_30, by rw [ht]; exact hP9, va_K.moved hW.alike hK, hD9⟩, hS.F ht⟩) hS.2.2 dX3_look_93
